theorem dX4_clear_25 : decode cX4_clear 25 = .ok (.aload_n 0, 1) := by decide +kernel
theorem dX4_clear_26 : decode cX4_clear 26 = .ok (.iconst 0, 1) := by decide +kernel
theorem dX4_clear_27 : decode cX4_clear 27 = .ok (.putfield 31, 3) := by decide +kernel
theorem dX4_clear_30 : decode cX4_clear 30 = .ok (.aload_n 0, 1) := by decide +kernel
theorem dX4_clear_31 : decode cX4_clear 31 = .ok (.getfield 9, 3) := by decide +kernel
theorem dX4_clear_34 : decode cX4_clear 34 = .ok (.invokestatic 34, 3) := by decide +kernel
theorem dX4_clear_37 : decode cX4_clear 37 = .ok (.return_, 1) := by decide +kernel
set_option maxRecDepth 100000 in
set_option maxHeartbeats 4000000 in
theorem t_X4_clear (l : Launch) (D : va_G) (ct : Nat → ClassId) (S : ty_S) (ws : va_W) (ph : va_W → Prop) (xx : Nat → Nat → Nat → Prop) (h0 : Nat) (sz : Nat) (hT : ty_V ct S ph ws) (h_h0 : S h0 = some (.inl 4)) (hph : ty_C ph xx) (hy1 : ty_y1 xx) : Met l yX4_clear (ws_ yX4_clear cX4_clear 1 none) ({ frames := 1, cells := 0, slots := 0, locals := 21 } : Room) (va_Pc [.ref h0] (cmP D ct sz ([] ++ ws))) (va_Qv (fun (u9 : va_W) => ty_V ct S ph u9) (cmB D ([] ++ ws) sz (fun (u9 : va_W) => ([] ++ u9))) (va_A ([] ++ ws) sz)) 0 0 (va_A ([] ++ ws) sz) := by
  refine Met.ofW (cc := cX4_clear) (maxL := 1) (ret := none) (by decide) rfl ?_
  intro p e s m args below meth c s₁ B hml hv
  obtain ⟨rfl, hsz, hP, hK, hD0, hX⟩ := hv
  have hx := B.exec
  have hb := B.bytes
  have hr := B.returns
  have hts := ws_all (atoms_spec (ws := ws_ yX4_clear cX4_clear 1 none) B.pre)
  have hown : s.vm.findClass RX4 = some m.cls := findClass_of_methodNamed B.named
  have hlocks := B.notSynchronized
  subst hsz
  have hD := hD0.self (sz := s.heap.size)
  generalize hAe : va_A ([] ++ ws) s.heap.size = A at hD hX ⊢
  have hA : ∀ q : Nat, s.heap.size ≤ q → A q := fun q h => by rw [← hAe]; exact Or.inr h
  have hS : va_S A s.heap s.heap [] := va_S.rf
  have hl := lv_entry ([.ref h0]) (n := 1) (Nat.le_of_ble_eq_true rfl)
  rw [lg_entry_eq]
  generalize (lg_sl ([.ref h0]) ++ List.replicate (1 - (lg_sl ([.ref h0])).length) Slot.unset).toArray = ls at hl ⊢
  have hl : lv_has ls 1 [(0, .ref h0)] := hl
  refine lv_aload_n hx hb dX4_clear_0 rfl (lv_at hl 0 rfl) ?_
  refine lv_iconst (v := (-1)) hx hb dX4_clear_1 (by decide) ?_
  refine ty_put (v := .int (-1)) (ty := .int) (E := []) (ws := ws) (D := D) (ci := 4) (C := RX4) (T := TX4) (N := 7) hx hb hts in_X4 tyX4 tyX4_ok nmX4 hown hK hP hD hS hT h_h0 rfl 0 (by decide) (hts _ kl_RX4_15) (fun _ h9 => h9) rfl (by decide +kernel) rfl rfl rfl ⟨_, rfl⟩ dX4_clear_2 hph (hy1 4 0 h0 rfl) (fun ws_1 H locs hT hP hD hS => ?_)
  refine lv_aload_n hx hb dX4_clear_5 rfl (lv_at hl 0 rfl) ?_
  refine lv_iconst (v := (-1)) hx hb dX4_clear_6 (by decide) ?_
  refine ty_put (v := .int (-1)) (ty := .int) (E := []) (ws := ws_1) (D := D) (ci := 4) (C := RX4) (T := TX4) (N := 7) hx hb hts in_X4 tyX4 tyX4_ok nmX4 hown hK hP hD hS hT h_h0 rfl 1 (by decide) (hts _ kl_RX4_19) (fun _ h9 => h9) rfl (by decide +kernel) rfl rfl rfl ⟨_, rfl⟩ dX4_clear_7 hph (hy1 4 1 h0 rfl) (fun ws_2 H locs hT hP hD hS => ?_)
  refine lv_aload_n hx hb dX4_clear_10 rfl (lv_at hl 0 rfl) ?_
  refine lv_iconst (v := (-1)) hx hb dX4_clear_11 (by decide) ?_
  refine ty_put (v := .int (-1)) (ty := .int) (E := []) (ws := ws_2) (D := D) (ci := 4) (C := RX4) (T := TX4) (N := 7) hx hb hts in_X4 tyX4 tyX4_ok nmX4 hown hK hP hD hS hT h_h0 rfl 2 (by decide) (hts _ kl_RX4_22) (fun _ h9 => h9) rfl (by decide +kernel) rfl rfl rfl ⟨_, rfl⟩ dX4_clear_12 hph (hy1 4 2 h0 rfl) (fun ws_3 H locs hT hP hD hS => ?_)
  refine lv_aload_n hx hb dX4_clear_15 rfl (lv_at hl 0 rfl) ?_
  refine lv_iconst (v := 0) hx hb dX4_clear_16 (by decide) ?_
  refine ty_put (v := .int 0) (ty := .int) (E := []) (ws := ws_3) (D := D) (ci := 4) (C := RX4) (T := TX4) (N := 7) hx hb hts in_X4 tyX4 tyX4_ok nmX4 hown hK hP hD hS hT h_h0 rfl 3 (by decide) (hts _ kl_RX4_25) (fun _ h9 => h9) rfl (by decide +kernel) rfl rfl rfl ⟨_, rfl⟩ dX4_clear_17 hph (hy1 4 3 h0 rfl) (fun ws_4 H locs hT hP hD hS => ?_)
  refine lv_aload_n hx hb dX4_clear_20 rfl (lv_at hl 0 rfl) ?_
  refine lv_iconst (v := 0) hx hb dX4_clear_21 (by decide) ?_
  refine ty_put (v := .int 0) (ty := .int) (E := []) (ws := ws_4) (D := D) (ci := 4) (C := RX4) (T := TX4) (N := 7) hx hb hts in_X4 tyX4 tyX4_ok nmX4 hown hK hP hD hS hT h_h0 rfl 4 (by decide) (hts _ kl_RX4_28) (fun _ h9 => h9) rfl (by decide +kernel) rfl rfl rfl ⟨_, rfl⟩ dX4_clear_22 hph (hy1 4 4 h0 rfl) (fun ws_5 H locs hT hP hD hS => ?_)
  refine lv_aload_n hx hb dX4_clear_25 rfl (lv_at hl 0 rfl) ?_
  refine lv_iconst (v := 0) hx hb dX4_clear_26 (by decide) ?_
  refine ty_put (v := .int 0) (ty := .int) (E := []) (ws := ws_5) (D := D) (ci := 4) (C := RX4) (T := TX4) (N := 7) hx hb hts in_X4 tyX4 tyX4_ok nmX4 hown hK hP hD hS hT h_h0 rfl 5 (by decide) (hts _ kl_RX4_31) (fun _ h9 => h9) rfl (by decide +kernel) rfl rfl rfl ⟨_, rfl⟩ dX4_clear_27 hph (hy1 4 5 h0 rfl) (fun ws_6 H locs hT hP hD hS => ?_)
  refine lv_aload_n hx hb dX4_clear_30 rfl (lv_at hl 0 rfl) ?_
  refine ty_get (E := []) (ws := ws_6) (D := D) (ci := 4) (C := RX4) (T := TX4) (N := 7) hx hb hts in_X4 hown hK hP hT h_h0 rfl 6 (by decide) (hts _ kl_RX4_9) (fun _ h9 => h9) rfl dX4_clear_31 (fun _ hv_7 hf_8 => ?_)
  obtain ⟨a_9, n_10, rfl, ha_11⟩ := hv_7
  refine ty_kv (wr := []) (wc := ([] ++ ws_6)) (va_runSN (As := [.ref a_9]) (rest := []) ⟨hx, hb, hml, hown, hts⟩ (t_X10_clearRow l D ct S ws_6 ph xx a_9 n_10 _ hT ha_11 hph hy1) (cm_SN 1 hts kc_X10_clearRow ki_RX10 kl_RX4_34 ks_X10_clearRow kd_X10_clearRow ⟨Nat.le_of_ble_eq_true rfl, Nat.le_of_ble_eq_true rfl⟩) (ty_preS (wr := []) (wc := ([] ++ ws_6)) hP hK hD hS hA hX) rfl rfl hl.1 rfl (lv_room (Nat.le_of_ble_eq_true rfl)) dX4_clear_34 ⟨Nat.le_of_ble_eq_true rfl, Nat.le_of_ble_eq_true rfl⟩) hP hD hS hA (fun u H locs hw_13 hP hD hS => ?_)
  obtain ⟨ws_14, rfl⟩ : ∃ z, z = u := ⟨_, rfl⟩
  have hT := hw_13
  have hP : va_P D vwCl ([] ++ ws_14) H := hP
  have hD : va_D A ([] ++ ws_14) := hD
  exact W.vret hx hb hr (fun t ht hW => ⟨⟨ws_14, rfl, hT, by rw [ht]; exact hP, by rw [hAe]; exact hD⟩, hS.F ht⟩) hS.2.2 dX4_clear_37
theorem dX4_countFilling_0 : decode cX4_countFilling 0 = .ok (.iload_n 1, 1) := by decide +kernel
theorem dX4_countFilling_1 : decode cX4_countFilling 1 = .ok (.bipush 100, 2) := by decide +kernel
theorem dX4_countFilling_3 : decode cX4_countFilling 3 = .ok (.idiv, 1) := by decide +kernel
theorem dX4_countFilling_4 : decode cX4_countFilling 4 = .ok (.bipush 9, 2) := by decide +kernel
theorem dX4_countFilling_6 : decode cX4_countFilling 6 = .ok (.invokestatic 38, 3) := by decide +kernel
theorem dX4_countFilling_9 : decode cX4_countFilling 9 = .ok (.istore_n 2, 1) := by decide +kernel
theorem dX4_countFilling_10 : decode cX4_countFilling 10 = .ok (.aload_n 0, 1) := by decide +kernel
theorem dX4_countFilling_11 : decode cX4_countFilling 11 = .ok (.getfield 9, 3) := by decide +kernel
theorem dX4_countFilling_14 : decode cX4_countFilling 14 = .ok (.iload_n 2, 1) := by decide +kernel
theorem dX4_countFilling_15 : decode cX4_countFilling 15 = .ok (.aload_n 0, 1) := by decide +kernel
theorem dX4_countFilling_16 : decode cX4_countFilling 16 = .ok (.getfield 9, 3) := by decide +kernel
theorem dX4_countFilling_19 : decode cX4_countFilling 19 = .ok (.iload_n 2, 1) := by decide +kernel
theorem dX4_countFilling_20 : decode cX4_countFilling 20 = .ok (.invokestatic 44, 3) := by decide +kernel
theorem dX4_countFilling_23 : decode cX4_countFilling 23 = .ok (.iconst 1, 1) := by decide +kernel
theorem dX4_countFilling_24 : decode cX4_countFilling 24 = .ok (.iadd, 1) := by decide +kernel
theorem dX4_countFilling_25 : decode cX4_countFilling 25 = .ok (.invokestatic 48, 3) := by decide +kernel
theorem dX4_countFilling_28 : decode cX4_countFilling 28 = .ok (.return_, 1) := by decide +kernel
set_option maxRecDepth 100000 in
set_option maxHeartbeats 4000000 in
theorem t_X4_countFilling (l : Launch) (D : va_G) (ct : Nat → ClassId) (S : ty_S) (ws : va_W) (ph : va_W → Prop) (xx : Nat → Nat → Nat → Prop) (h0 : Nat) (p1 : Int32) (sz : Nat) (hT : ty_V ct S ph ws) (h_h0 : S h0 = some (.inl 4)) (hph : ty_C ph xx) (hy1 : ty_y1 xx) : Met l yX4_countFilling (ws_ yX4_countFilling cX4_countFilling 3 none) ({ frames := 1, cells := 0, slots := 0, locals := 22 } : Room) (va_Pc [.ref h0, .int p1] (cmP D ct sz ([] ++ ws))) (va_Qv (fun (u9 : va_W) => ty_V ct S ph u9) (cmB D ([] ++ ws) sz (fun (u9 : va_W) => ([] ++ u9))) (va_A ([] ++ ws) sz)) 0 0 (va_A ([] ++ ws) sz) := by
  refine Met.ofW (cc := cX4_countFilling) (maxL := 3) (ret := none) (by decide) rfl ?_
  intro p e s m args below meth c s₁ B hml hv
  obtain ⟨rfl, hsz, hP, hK, hD0, hX⟩ := hv
  have hx := B.exec
  have hb := B.bytes
  have hr := B.returns
  have hts := ws_all (atoms_spec (ws := ws_ yX4_countFilling cX4_countFilling 3 none) B.pre)
  have hown : s.vm.findClass RX4 = some m.cls := findClass_of_methodNamed B.named
  have hlocks := B.notSynchronized
  subst hsz
  have hD := hD0.self (sz := s.heap.size)
  generalize hAe : va_A ([] ++ ws) s.heap.size = A at hD hX ⊢
  have hA : ∀ q : Nat, s.heap.size ≤ q → A q := fun q h => by rw [← hAe]; exact Or.inr h
  have hS : va_S A s.heap s.heap [] := va_S.rf
  have hl := lv_entry ([.ref h0, .int p1]) (n := 3) (Nat.le_of_ble_eq_true rfl)
  rw [lg_entry_eq]
  generalize (lg_sl ([.ref h0, .int p1]) ++ List.replicate (3 - (lg_sl ([.ref h0, .int p1])).length) Slot.unset).toArray = ls at hl ⊢
  have hl : lv_has ls 3 [(0, .ref h0), (1, .int p1)] := hl
  refine lv_iload_n hx hb dX4_countFilling_0 rfl (lv_at hl 1 rfl) ?_
  refine lv_bipush (v := 100) hx hb dX4_countFilling_1 (by decide) ?_
  refine lv_idiv hx hb dX4_countFilling_3 (by decide) ?_
  refine lv_topi (fun x_1 _ => ?_)
  refine lv_bipush (v := 9) hx hb dX4_countFilling_4 (by decide) ?_
  refine va_mmin hx hb (hml.trans hl.1.symm) hown (hts _ kl_RX4_38) (hts _ jm_min_s) (hts _ ki_RJ9) (hts _ jm_min_c) (Nat.le_of_ble_eq_true rfl) (Nat.le_of_ble_eq_true rfl) (Nat.le_of_ble_eq_true rfl) (Nat.le_of_ble_eq_true rfl) dX4_countFilling_6 ?_
  refine lv_topi (fun x_2 _ => ?_)
  refine lv_istore_n (lv' := [(2, .int x_2), (0, .ref h0), (1, .int p1)]) hx hb dX4_countFilling_9 rfl hl (by decide) rfl (fun ls hl => ?_)
  refine lv_aload_n hx hb dX4_countFilling_10 rfl (lv_at hl 1 rfl) ?_
  refine ty_get (E := []) (ws := ws) (D := D) (ci := 4) (C := RX4) (T := TX4) (N := 7) hx hb hts in_X4 hown hK hP hT h_h0 rfl 6 (by decide) (hts _ kl_RX4_9) (fun _ h9 => h9) rfl dX4_countFilling_11 (fun _ hv_3 hf_4 => ?_)
  obtain ⟨a_5, n_6, rfl, ha_7⟩ := hv_3
  refine lv_iload_n hx hb dX4_countFilling_14 rfl (lv_at hl 0 rfl) ?_
  refine lv_aload_n hx hb dX4_countFilling_15 rfl (lv_at hl 1 rfl) ?_
  refine ty_get (E := []) (ws := ws) (D := D) (ci := 4) (C := RX4) (T := TX4) (N := 7) hx hb hts in_X4 hown hK hP hT h_h0 rfl 6 (by decide) (hts _ kl_RX4_9) (fun _ h9 => h9) rfl dX4_countFilling_16 (fun _ hv_8 hf_9 => ?_)
  obtain ⟨a_10, n_11, rfl, ha_12⟩ := hv_8
  refine lv_iload_n hx hb dX4_countFilling_19 rfl (lv_at hl 0 rfl) ?_
  refine ty_ki (wr := []) (wc := ([] ++ ws)) (va_runSN (As := [.ref a_10, .int x_2]) (rest := [.int x_2, .ref a_5]) ⟨hx, hb, hml, hown, hts⟩ (t_X10_at l D ct S ws ph xx a_10 n_11 x_2 _ hT ha_12 hph hy1) (cm_SN 2 hts kc_X10_at ki_RX10 kl_RX4_44 ks_X10_at kd_X10_at ⟨Nat.le_of_ble_eq_true rfl, Nat.le_of_ble_eq_true rfl⟩) (ty_preS (wr := []) (wc := ([] ++ ws)) hP hK hD hS hA hX) rfl rfl hl.1 rfl (lv_room (Nat.le_of_ble_eq_true rfl)) dX4_countFilling_20 ⟨Nat.le_of_ble_eq_true rfl, Nat.le_of_ble_eq_true rfl⟩) hP hD hS hA (fun r_13 u H locs hw_14 hP hD hS => ?_)
  obtain ⟨ws_15, rfl⟩ : ∃ z, z = u := ⟨_, rfl⟩
  have hT := hw_14
  have hP : va_P D vwCl ([] ++ ws_15) H := hP
  have hD : va_D A ([] ++ ws_15) := hD
  refine lv_iconst (v := 1) hx hb dX4_countFilling_23 (by decide) ?_
  refine lv_iadd hx hb dX4_countFilling_24 ?_
  refine lv_topi (fun x_16 _ => ?_)
  refine ty_kv (wr := []) (wc := ([] ++ ws_15)) (va_runSN (As := [.ref a_5, .int x_2, .int x_16]) (rest := []) ⟨hx, hb, hml, hown, hts⟩ (t_X10_put l D ct S ws_15 ph xx a_5 n_6 x_2 x_16 _ hT ha_7 hph hy1) (cm_SN 3 hts kc_X10_put ki_RX10 kl_RX4_48 ks_X10_put kd_X10_put ⟨Nat.le_of_ble_eq_true rfl, Nat.le_of_ble_eq_true rfl⟩) (ty_preS (wr := []) (wc := ([] ++ ws_15)) hP hK hD hS hA hX) rfl rfl hl.1 rfl (lv_room (Nat.le_of_ble_eq_true rfl)) dX4_countFilling_25 ⟨Nat.le_of_ble_eq_true rfl, Nat.le_of_ble_eq_true rfl⟩) hP hD hS hA (fun u H locs hw_18 hP hD hS => ?_)
  obtain ⟨ws_19, rfl⟩ : ∃ z, z = u := ⟨_, rfl⟩
  obtain ⟨hT, hp_20⟩ := hw_18
  have hp_20 : ty_fdle ws_15 ws_19 := hp_20
  have hP : va_P D vwCl ([] ++ ws_19) H := hP
  have hD : va_D A ([] ++ ws_19) := hD
  exact W.vret hx hb hr (fun t ht hW => ⟨⟨ws_19, rfl, hT, by rw [ht]; exact hP, by rw [hAe]; exact hD⟩, hS.F ht⟩) hS.2.2 dX4_countFilling_28
theorem dX4_copyFrom_0 : decode cX4_copyFrom 0 = .ok (.aload_n 0, 1) := by decide +kernel
theorem dX4_copyFrom_1 : decode cX4_copyFrom 1 = .ok (.aload_n 1, 1) := by decide +kernel
theorem dX4_copyFrom_2 : decode cX4_copyFrom 2 = .ok (.getfield 15, 3) := by decide +kernel
theorem dX4_copyFrom_5 : decode cX4_copyFrom 5 = .ok (.putfield 15, 3) := by decide +kernel
theorem dX4_copyFrom_8 : decode cX4_copyFrom 8 = .ok (.aload_n 0, 1) := by decide +kernel
theorem dX4_copyFrom_9 : decode cX4_copyFrom 9 = .ok (.aload_n 1, 1) := by decide +kernel
theorem dX4_copyFrom_10 : decode cX4_copyFrom 10 = .ok (.getfield 19, 3) := by decide +kernel
theorem dX4_copyFrom_13 : decode cX4_copyFrom 13 = .ok (.putfield 19, 3) := by decide +kernel
theorem dX4_copyFrom_16 : decode cX4_copyFrom 16 = .ok (.aload_n 0, 1) := by decide +kernel
theorem dX4_copyFrom_17 : decode cX4_copyFrom 17 = .ok (.aload_n 1, 1) := by decide +kernel
theorem dX4_copyFrom_18 : decode cX4_copyFrom 18 = .ok (.getfield 22, 3) := by decide +kernel
theorem dX4_copyFrom_21 : decode cX4_copyFrom 21 = .ok (.putfield 22, 3) := by decide +kernel
theorem dX4_copyFrom_24 : decode cX4_copyFrom 24 = .ok (.aload_n 0, 1) := by decide +kernel
theorem dX4_copyFrom_25 : decode cX4_copyFrom 25 = .ok (.aload_n 1, 1) := by decide +kernel
theorem dX4_copyFrom_26 : decode cX4_copyFrom 26 = .ok (.getfield 25, 3) := by decide +kernel
theorem dX4_copyFrom_29 : decode cX4_copyFrom 29 = .ok (.putfield 25, 3) := by decide +kernel
theorem dX4_copyFrom_32 : decode cX4_copyFrom 32 = .ok (.aload_n 0, 1) := by decide +kernel
theorem dX4_copyFrom_33 : decode cX4_copyFrom 33 = .ok (.aload_n 1, 1) := by decide +kernel
theorem dX4_copyFrom_34 : decode cX4_copyFrom 34 = .ok (.getfield 28, 3) := by decide +kernel
theorem dX4_copyFrom_37 : decode cX4_copyFrom 37 = .ok (.putfield 28, 3) := by decide +kernel
theorem dX4_copyFrom_40 : decode cX4_copyFrom 40 = .ok (.aload_n 0, 1) := by decide +kernel
theorem dX4_copyFrom_41 : decode cX4_copyFrom 41 = .ok (.aload_n 1, 1) := by decide +kernel
theorem dX4_copyFrom_42 : decode cX4_copyFrom 42 = .ok (.getfield 31, 3) := by decide +kernel
theorem dX4_copyFrom_45 : decode cX4_copyFrom 45 = .ok (.putfield 31, 3) := by decide +kernel
theorem dX4_copyFrom_48 : decode cX4_copyFrom 48 = .ok (.aload_n 1, 1) := by decide +kernel
theorem dX4_copyFrom_49 : decode cX4_copyFrom 49 = .ok (.getfield 9, 3) := by decide +kernel
theorem dX4_copyFrom_52 : decode cX4_copyFrom 52 = .ok (.aload_n 0, 1) := by decide +kernel
theorem dX4_copyFrom_53 : decode cX4_copyFrom 53 = .ok (.getfield 9, 3) := by decide +kernel
theorem dX4_copyFrom_56 : decode cX4_copyFrom 56 = .ok (.invokestatic 52, 3) := by decide +kernel
theorem dX4_copyFrom_59 : decode cX4_copyFrom 59 = .ok (.return_, 1) := by decide +kernel
set_option maxRecDepth 100000 in
set_option maxHeartbeats 4000000 in
theorem t_X4_copyFrom (l : Launch) (D : va_G) (ct : Nat → ClassId) (S : ty_S) (ws : va_W) (ph : va_W → Prop) (xx : Nat → Nat → Nat → Prop) (h0 : Nat) (p1 : Nat) (sz : Nat) (hT : ty_V ct S ph ws) (h_h0 : S h0 = some (.inl 4)) (h_p1 : S p1 = some (.inl 4)) (hph : ty_C ph xx) (hy1 : ty_y1 xx) : Met l yX4_copyFrom (ws_ yX4_copyFrom cX4_copyFrom 2 none) ({ frames := 2, cells := 0, slots := 0, locals := 101 } : Room) (va_Pc [.ref h0, .ref p1] (cmP D ct sz ([] ++ ws))) (va_Qv (fun (u9 : va_W) => ty_V ct S ph u9) (cmB D ([] ++ ws) sz (fun (u9 : va_W) => ([] ++ u9))) (va_A ([] ++ ws) sz)) 0 0 (va_A ([] ++ ws) sz) := by
  refine Met.ofW (cc := cX4_copyFrom) (maxL := 2) (ret := none) (by decide) rfl ?_
  intro p e s m args below meth c s₁ B hml hv
  obtain ⟨rfl, hsz, hP, hK, hD0, hX⟩ := hv
  have hx := B.exec
  have hb := B.bytes
  have hr := B.returns
  have hts := ws_all (atoms_spec (ws := ws_ yX4_copyFrom cX4_copyFrom 2 none) B.pre)
  have hown : s.vm.findClass RX4 = some m.cls := findClass_of_methodNamed B.named
  have hlocks := B.notSynchronized
  subst hsz
  have hD := hD0.self (sz := s.heap.size)
  generalize hAe : va_A ([] ++ ws) s.heap.size = A at hD hX ⊢
  have hA : ∀ q : Nat, s.heap.size ≤ q → A q := fun q h => by rw [← hAe]; exact Or.inr h
  have hS : va_S A s.heap s.heap [] := va_S.rf
  have hl := lv_entry ([.ref h0, .ref p1]) (n := 2) (Nat.le_of_ble_eq_true rfl)
  rw [lg_entry_eq]
  generalize (lg_sl ([.ref h0, .ref p1]) ++ List.replicate (2 - (lg_sl ([.ref h0, .ref p1])).length) Slot.unset).toArray = ls at hl ⊢
  have hl : lv_has ls 2 [(0, .ref h0), (1, .ref p1)] := hl
  refine lv_aload_n hx hb dX4_copyFrom_0 rfl (lv_at hl 0 rfl) ?_
  refine lv_aload_n hx hb dX4_copyFrom_1 rfl (lv_at hl 1 rfl) ?_
  refine ty_get (E := []) (ws := ws) (D := D) (ci := 4) (C := RX4) (T := TX4) (N := 7) hx hb hts in_X4 hown hK hP hT h_p1 rfl 0 (by decide) (hts _ kl_RX4_15) (fun _ h9 => h9) rfl dX4_copyFrom_2 (fun _ hv_1 hf_2 => ?_)
  obtain ⟨x_3, rfl⟩ := hv_1
  refine ty_put (v := .int x_3) (ty := .int) (E := []) (ws := ws) (D := D) (ci := 4) (C := RX4) (T := TX4) (N := 7) hx hb hts in_X4 tyX4 tyX4_ok nmX4 hown hK hP hD hS hT h_h0 rfl 0 (by decide) (hts _ kl_RX4_15) (fun _ h9 => h9) rfl (by decide +kernel) rfl rfl rfl ⟨_, rfl⟩ dX4_copyFrom_5 hph (hy1 4 0 h0 rfl) (fun ws_4 H locs hT hP hD hS => ?_)
  refine lv_aload_n hx hb dX4_copyFrom_8 rfl (lv_at hl 0 rfl) ?_
  refine lv_aload_n hx hb dX4_copyFrom_9 rfl (lv_at hl 1 rfl) ?_
  refine ty_get (E := []) (ws := ws_4) (D := D) (ci := 4) (C := RX4) (T := TX4) (N := 7) hx hb hts in_X4 hown hK hP hT h_p1 rfl 1 (by decide) (hts _ kl_RX4_19) (fun _ h9 => h9) rfl dX4_copyFrom_10 (fun _ hv_5 hf_6 => ?_)
  obtain ⟨x_7, rfl⟩ := hv_5
  refine ty_put (v := .int x_7) (ty := .int) (E := []) (ws := ws_4) (D := D) (ci := 4) (C := RX4) (T := TX4) (N := 7) hx hb hts in_X4 tyX4 tyX4_ok nmX4 hown hK hP hD hS hT h_h0 rfl 1 (by decide) (hts _ kl_RX4_19) (fun _ h9 => h9) rfl (by decide +kernel) rfl rfl rfl ⟨_, rfl⟩ dX4_copyFrom_13 hph (hy1 4 1 h0 rfl) (fun ws_8 H locs hT hP hD hS => ?_)
  refine lv_aload_n hx hb dX4_copyFrom_16 rfl (lv_at hl 0 rfl) ?_
  refine lv_aload_n hx hb dX4_copyFrom_17 rfl (lv_at hl 1 rfl) ?_
  refine ty_get (E := []) (ws := ws_8) (D := D) (ci := 4) (C := RX4) (T := TX4) (N := 7) hx hb hts in_X4 hown hK hP hT h_p1 rfl 2 (by decide) (hts _ kl_RX4_22) (fun _ h9 => h9) rfl dX4_copyFrom_18 (fun _ hv_9 hf_10 => ?_)
  obtain ⟨x_11, rfl⟩ := hv_9
  refine ty_put (v := .int x_11) (ty := .int) (E := []) (ws := ws_8) (D := D) (ci := 4) (C := RX4) (T := TX4) (N := 7) hx hb hts in_X4 tyX4 tyX4_ok nmX4 hown hK hP hD hS hT h_h0 rfl 2 (by decide) (hts _ kl_RX4_22) (fun _ h9 => h9) rfl (by decide +kernel) rfl rfl rfl ⟨_, rfl⟩ dX4_copyFrom_21 hph (hy1 4 2 h0 rfl) (fun ws_12 H locs hT hP hD hS => ?_)
  refine lv_aload_n hx hb dX4_copyFrom_24 rfl (lv_at hl 0 rfl) ?_
  refine lv_aload_n hx hb dX4_copyFrom_25 rfl (lv_at hl 1 rfl) ?_
  refine ty_get (E := []) (ws := ws_12) (D := D) (ci := 4) (C := RX4) (T := TX4) (N := 7) hx hb hts in_X4 hown hK hP hT h_p1 rfl 3 (by decide) (hts _ kl_RX4_25) (fun _ h9 => h9) rfl dX4_copyFrom_26 (fun _ hv_13 hf_14 => ?_)
  obtain ⟨x_15, rfl⟩ := hv_13
  refine ty_put (v := .int x_15) (ty := .int) (E := []) (ws := ws_12) (D := D) (ci := 4) (C := RX4) (T := TX4) (N := 7) hx hb hts in_X4 tyX4 tyX4_ok nmX4 hown hK hP hD hS hT h_h0 rfl 3 (by decide) (hts _ kl_RX4_25) (fun _ h9 => h9) rfl (by decide +kernel) rfl rfl rfl ⟨_, rfl⟩ dX4_copyFrom_29 hph (hy1 4 3 h0 rfl) (fun ws_16 H locs hT hP hD hS => ?_)
  refine lv_aload_n hx hb dX4_copyFrom_32 rfl (lv_at hl 0 rfl) ?_
  refine lv_aload_n hx hb dX4_copyFrom_33 rfl (lv_at hl 1 rfl) ?_
  refine ty_get (E := []) (ws := ws_16) (D := D) (ci := 4) (C := RX4) (T := TX4) (N := 7) hx hb hts in_X4 hown hK hP hT h_p1 rfl 4 (by decide) (hts _ kl_RX4_28) (fun _ h9 => h9) rfl dX4_copyFrom_34 (fun _ hv_17 hf_18 => ?_)
  obtain ⟨x_19, rfl⟩ := hv_17
  refine ty_put (v := .int x_19) (ty := .int) (E := []) (ws := ws_16) (D := D) (ci := 4) (C := RX4) (T := TX4) (N := 7) hx hb hts in_X4 tyX4 tyX4_ok nmX4 hown hK hP hD hS hT h_h0 rfl 4 (by decide) (hts _ kl_RX4_28) (fun _ h9 => h9) rfl (by decide +kernel) rfl rfl rfl ⟨_, rfl⟩ dX4_copyFrom_37 hph (hy1 4 4 h0 rfl) (fun ws_20 H locs hT hP hD hS => ?_)
  refine lv_aload_n hx hb dX4_copyFrom_40 rfl (lv_at hl 0 rfl) ?_
  refine lv_aload_n hx hb dX4_copyFrom_41 rfl (lv_at hl 1 rfl) ?_
  refine ty_get (E := []) (ws := ws_20) (D := D) (ci := 4) (C := RX4) (T := TX4) (N := 7) hx hb hts in_X4 hown hK hP hT h_p1 rfl 5 (by decide) (hts _ kl_RX4_31) (fun _ h9 => h9) rfl dX4_copyFrom_42 (fun _ hv_21 hf_22 => ?_)
  obtain ⟨x_23, rfl⟩ := hv_21
  refine ty_put (v := .int x_23) (ty := .int) (E := []) (ws := ws_20) (D := D) (ci := 4) (C := RX4) (T := TX4) (N := 7) hx hb hts in_X4 tyX4 tyX4_ok nmX4 hown hK hP hD hS hT h_h0 rfl 5 (by decide) (hts _ kl_RX4_31) (fun _ h9 => h9) rfl (by decide +kernel) rfl rfl rfl ⟨_, rfl⟩ dX4_copyFrom_45 hph (hy1 4 5 h0 rfl) (fun ws_24 H locs hT hP hD hS => ?_)
  refine lv_aload_n hx hb dX4_copyFrom_48 rfl (lv_at hl 1 rfl) ?_
  refine ty_get (E := []) (ws := ws_24) (D := D) (ci := 4) (C := RX4) (T := TX4) (N := 7) hx hb hts in_X4 hown hK hP hT h_p1 rfl 6 (by decide) (hts _ kl_RX4_9) (fun _ h9 => h9) rfl dX4_copyFrom_49 (fun _ hv_25 hf_26 => ?_)
  obtain ⟨a_27, n_28, rfl, ha_29⟩ := hv_25
  refine lv_aload_n hx hb dX4_copyFrom_52 rfl (lv_at hl 0 rfl) ?_
  refine ty_get (E := []) (ws := ws_24) (D := D) (ci := 4) (C := RX4) (T := TX4) (N := 7) hx hb hts in_X4 hown hK hP hT h_h0 rfl 6 (by decide) (hts _ kl_RX4_9) (fun _ h9 => h9) rfl dX4_copyFrom_53 (fun _ hv_30 hf_31 => ?_)
  obtain ⟨a_32, n_33, rfl, ha_34⟩ := hv_30
  refine ty_kv (wr := []) (wc := ([] ++ ws_24)) (va_runSN (As := [.ref a_27, .ref a_32]) (rest := []) ⟨hx, hb, hml, hown, hts⟩ (t_X10_copyRow l D ct S ws_24 ph xx a_27 n_28 a_32 n_33 _ hT ha_29 ha_34 hph hy1) (cm_SN 2 hts kc_X10_copyRow ki_RX10 kl_RX4_52 ks_X10_copyRow kd_X10_copyRow ⟨Nat.le_of_ble_eq_true rfl, Nat.le_of_ble_eq_true rfl⟩) (ty_preS (wr := []) (wc := ([] ++ ws_24)) hP hK hD hS hA hX) rfl rfl hl.1 rfl (lv_room (Nat.le_of_ble_eq_true rfl)) dX4_copyFrom_56 ⟨Nat.le_of_ble_eq_true rfl, Nat.le_of_ble_eq_true rfl⟩) hP hD hS hA (fun u H locs hw_36 hP hD hS => ?_)
  obtain ⟨ws_37, rfl⟩ : ∃ z, z = u := ⟨_, rfl⟩
  have hT := hw_36
  have hP : va_P D vwCl ([] ++ ws_37) H := hP
  have hD : va_D A ([] ++ ws_37) := hD
  exact W.vret hx hb hr (fun t ht hW => ⟨⟨ws_37, rfl, hT, by rw [ht]; exact hP, by rw [hAe]; exact hD⟩, hS.F ht⟩) hS.2.2 dX4_copyFrom_59
theorem dX5_add_0 : decode cX5_add 0 = .ok (.aload_n 0, 1) := by decide +kernel
theorem dX5_add_1 : decode cX5_add 1 = .ok (.getfield 9, 3) := by decide +kernel
theorem dX5_add_4 : decode cX5_add 4 = .ok (.aload_n 0, 1) := by decide +kernel
theorem dX5_add_5 : decode cX5_add 5 = .ok (.getfield 24, 3) := by decide +kernel
theorem dX5_add_8 : decode cX5_add 8 = .ok (.iconst 0, 1) := by decide +kernel
theorem dX5_add_9 : decode cX5_add 9 = .ok (.invokestatic 28, 3) := by decide +kernel
theorem dX5_add_12 : decode cX5_add 12 = .ok (.aload_n 0, 1) := by decide +kernel
theorem dX5_add_13 : decode cX5_add 13 = .ok (.dup, 1) := by decide +kernel
theorem dX5_add_14 : decode cX5_add 14 = .ok (.getfield 24, 3) := by decide +kernel
theorem dX5_add_17 : decode cX5_add 17 = .ok (.iconst 1, 1) := by decide +kernel
theorem dX5_add_18 : decode cX5_add 18 = .ok (.iadd, 1) := by decide +kernel
theorem dX5_add_19 : decode cX5_add 19 = .ok (.putfield 24, 3) := by decide +kernel
theorem dX5_add_22 : decode cX5_add 22 = .ok (.return_, 1) := by decide +kernel
set_option maxRecDepth 100000 in
set_option maxHeartbeats 4000000 in
theorem t_X5_add (l : Launch) (D : va_G) (ct : Nat → ClassId) (S : ty_S) (ws : va_W) (ph : va_W → Prop) (xx : Nat → Nat → Nat → Prop) (h0 : Nat) (c0 : Int32) (sz : Nat) (hT : ty_V ct S ph ws) (h_h0 : S h0 = some (.inl 5)) (hph : ty_C ph xx) (hy1 : ty_y1 xx) (hy5 : ty_y0 xx 5) (hc0 : ty_fd ws h0 0 (.int c0)) (hlt : 0 ≤ c0.toInt ∧ c0.toInt < 4) : Met l yX5_add (ws_ yX5_add cX5_add 1 none) ({ frames := 1, cells := 0, slots := 0, locals := 22 } : Room) (va_Pc [.ref h0] (cmP D ct sz ([] ++ ws))) (va_Qv (fun (u9 : va_W) => ty_V ct S ph u9) (cmB D ([] ++ ws) sz (fun (u9 : va_W) => ([] ++ u9))) (va_A ([] ++ ws) sz)) 0 0 (va_A ([] ++ ws) sz) := by
  refine Met.ofW (cc := cX5_add) (maxL := 1) (ret := none) (by decide) rfl ?_
  intro p e s m args below meth c s₁ B hml hv
  obtain ⟨rfl, hsz, hP, hK, hD0, hX⟩ := hv
  have hx := B.exec
  have hb := B.bytes
  have hr := B.returns
  have hts := ws_all (atoms_spec (ws := ws_ yX5_add cX5_add 1 none) B.pre)
  have hown : s.vm.findClass RX5 = some m.cls := findClass_of_methodNamed B.named
  have hlocks := B.notSynchronized
  subst hsz
  have hD := hD0.self (sz := s.heap.size)
  generalize hAe : va_A ([] ++ ws) s.heap.size = A at hD hX ⊢
  have hA : ∀ q : Nat, s.heap.size ≤ q → A q := fun q h => by rw [← hAe]; exact Or.inr h
  have hS : va_S A s.heap s.heap [] := va_S.rf
  have hl := lv_entry ([.ref h0]) (n := 1) (Nat.le_of_ble_eq_true rfl)
  rw [lg_entry_eq]
  generalize (lg_sl ([.ref h0]) ++ List.replicate (1 - (lg_sl ([.ref h0])).length) Slot.unset).toArray = ls at hl ⊢
  have hl : lv_has ls 1 [(0, .ref h0)] := hl
  refine lv_aload_n hx hb dX5_add_0 rfl (lv_at hl 0 rfl) ?_
  refine ty_get (E := []) (ws := ws) (D := D) (ci := 5) (C := RX5) (T := TX5) (N := 5) hx hb hts in_X5 hown hK hP hT h_h0 rfl 1 (by decide) (hts _ kl_RX5_9) (fun _ h9 => h9) rfl dX5_add_1 (fun _ hv_1 hf_2 => ?_)
  obtain ⟨a_3, n_4, rfl, ha_5⟩ := hv_1
  refine lv_aload_n hx hb dX5_add_4 rfl (lv_at hl 0 rfl) ?_
  refine ty_getD (v := .int c0) (E := []) (ws := ws) (D := D) (ci := 5) (C := RX5) (T := TX5) (N := 5) hx hb hts in_X5 hown hK hP hD hT h_h0 rfl 0 (by decide) (hts _ kl_RX5_24) (fun _ h9 => h9) hc0 dX5_add_5 ?_
  refine lv_iconst (v := 0) hx hb dX5_add_8 (by decide) ?_
  refine ty_kv (wr := []) (wc := ([] ++ ws)) (va_runSN (As := [.ref a_3, .int c0, .int 0]) (rest := []) ⟨hx, hb, hml, hown, hts⟩ (t_X10_put l D ct S ws ph xx a_3 n_4 c0 (0 : Int32) _ hT ha_5 hph hy1) (cm_SN 3 hts kc_X10_put ki_RX10 kl_RX5_28 ks_X10_put kd_X10_put ⟨Nat.le_of_ble_eq_true rfl, Nat.le_of_ble_eq_true rfl⟩) (ty_preS (wr := []) (wc := ([] ++ ws)) hP hK hD hS hA hX) rfl rfl hl.1 rfl (lv_room (Nat.le_of_ble_eq_true rfl)) dX5_add_9 ⟨Nat.le_of_ble_eq_true rfl, Nat.le_of_ble_eq_true rfl⟩) hP hD hS hA (fun u H locs hw_7 hP hD hS => ?_)
  obtain ⟨ws_8, rfl⟩ : ∃ z, z = u := ⟨_, rfl⟩
  obtain ⟨hT, hp_9⟩ := hw_7
  have hp_9 : ty_fdle ws ws_8 := hp_9
  have hP : va_P D vwCl ([] ++ ws_8) H := hP
  have hD : va_D A ([] ++ ws_8) := hD
  refine lv_aload_n hx hb dX5_add_12 rfl (lv_at hl 0 rfl) ?_
  refine lv_dup hx hb dX5_add_13 rfl ?_
  refine ty_getD (v := .int c0) (E := []) (ws := ws_8) (D := D) (ci := 5) (C := RX5) (T := TX5) (N := 5) hx hb hts in_X5 hown hK hP hD hT h_h0 rfl 0 (by decide) (hts _ kl_RX5_24) (fun _ h9 => h9) (hp_9 _ _ _ hc0) dX5_add_14 ?_
  refine lv_iconst (v := 1) hx hb dX5_add_17 (by decide) ?_
  refine lv_iadd hx hb dX5_add_18 ?_
  refine ty_put (v := .int (c0 + 1)) (ty := .int) (E := []) (ws := ws_8) (D := D) (ci := 5) (C := RX5) (T := TX5) (N := 5) hx hb hts in_X5 tyX5 tyX5_ok nmX5 hown hK hP hD hS hT h_h0 rfl 0 (by decide) (hts _ kl_RX5_24) (fun _ h9 => h9) rfl (by decide +kernel) rfl rfl rfl ⟨_, rfl, (ty_add4 hlt)⟩ dX5_add_19 hph (hy5 h0) (fun ws_10 H locs hT hP hD hS => ?_)
  exact W.vret hx hb hr (fun t ht hW => ⟨⟨ws_10, rfl, hT, by rw [ht]; exact hP, by rw [hAe]; exact hD⟩, hS.F ht⟩) hS.2.2 dX5_add_22
theorem dX5_addStepToLast_0 : decode cX5_addStepToLast 0 = .ok (.aload_n 0, 1) := by decide +kernel
theorem dX5_addStepToLast_1 : decode cX5_addStepToLast 1 = .ok (.getfield 24, 3) := by decide +kernel
theorem dX5_addStepToLast_4 : decode cX5_addStepToLast 4 = .ok (.iconst 1, 1) := by decide +kernel
theorem dX5_addStepToLast_5 : decode cX5_addStepToLast 5 = .ok (.isub, 1) := by decide +kernel
theorem dX5_addStepToLast_6 : decode cX5_addStepToLast 6 = .ok (.istore 4, 2) := by decide +kernel
theorem dX5_addStepToLast_8 : decode cX5_addStepToLast 8 = .ok (.iload 4, 2) := by decide +kernel
theorem dX5_addStepToLast_10 : decode cX5_addStepToLast 10 = .ok (.bipush 12, 2) := by decide +kernel
theorem dX5_addStepToLast_12 : decode cX5_addStepToLast 12 = .ok (.imul, 1) := by decide +kernel
theorem dX5_addStepToLast_13 : decode cX5_addStepToLast 13 = .ok (.aload_n 0, 1) := by decide +kernel
theorem dX5_addStepToLast_14 : decode cX5_addStepToLast 14 = .ok (.getfield 9, 3) := by decide +kernel
theorem dX5_addStepToLast_17 : decode cX5_addStepToLast 17 = .ok (.iload 4, 2) := by decide +kernel
theorem dX5_addStepToLast_19 : decode cX5_addStepToLast 19 = .ok (.invokestatic 32, 3) := by decide +kernel
theorem dX5_addStepToLast_22 : decode cX5_addStepToLast 22 = .ok (.iadd, 1) := by decide +kernel
theorem dX5_addStepToLast_23 : decode cX5_addStepToLast 23 = .ok (.istore 5, 2) := by decide +kernel
theorem dX5_addStepToLast_25 : decode cX5_addStepToLast 25 = .ok (.aload_n 0, 1) := by decide +kernel
theorem dX5_addStepToLast_26 : decode cX5_addStepToLast 26 = .ok (.getfield 15, 3) := by decide +kernel
theorem dX5_addStepToLast_29 : decode cX5_addStepToLast 29 = .ok (.iload 5, 2) := by decide +kernel
theorem dX5_addStepToLast_31 : decode cX5_addStepToLast 31 = .ok (.iload_n 1, 1) := by decide +kernel
theorem dX5_addStepToLast_32 : decode cX5_addStepToLast 32 = .ok (.invokestatic 28, 3) := by decide +kernel
theorem dX5_addStepToLast_35 : decode cX5_addStepToLast 35 = .ok (.aload_n 0, 1) := by decide +kernel
theorem dX5_addStepToLast_36 : decode cX5_addStepToLast 36 = .ok (.getfield 18, 3) := by decide +kernel
theorem dX5_addStepToLast_39 : decode cX5_addStepToLast 39 = .ok (.iload 5, 2) := by decide +kernel
theorem dX5_addStepToLast_41 : decode cX5_addStepToLast 41 = .ok (.iload_n 2, 1) := by decide +kernel
theorem dX5_addStepToLast_42 : decode cX5_addStepToLast 42 = .ok (.invokestatic 28, 3) := by decide +kernel
theorem dX5_addStepToLast_45 : decode cX5_addStepToLast 45 = .ok (.aload_n 0, 1) := by decide +kernel
theorem dX5_addStepToLast_46 : decode cX5_addStepToLast 46 = .ok (.getfield 21, 3) := by decide +kernel
theorem dX5_addStepToLast_49 : decode cX5_addStepToLast 49 = .ok (.iload 5, 2) := by decide +kernel
theorem dX5_addStepToLast_51 : decode cX5_addStepToLast 51 = .ok (.iload_n 3, 1) := by decide +kernel
theorem dX5_addStepToLast_52 : decode cX5_addStepToLast 52 = .ok (.invokestatic 28, 3) := by decide +kernel
theorem dX5_addStepToLast_55 : decode cX5_addStepToLast 55 = .ok (.aload_n 0, 1) := by decide +kernel
theorem dX5_addStepToLast_56 : decode cX5_addStepToLast 56 = .ok (.getfield 9, 3) := by decide +kernel
theorem dX5_addStepToLast_59 : decode cX5_addStepToLast 59 = .ok (.iload 4, 2) := by decide +kernel
theorem dX5_addStepToLast_61 : decode cX5_addStepToLast 61 = .ok (.aload_n 0, 1) := by decide +kernel
theorem dX5_addStepToLast_62 : decode cX5_addStepToLast 62 = .ok (.getfield 9, 3) := by decide +kernel
theorem dX5_addStepToLast_65 : decode cX5_addStepToLast 65 = .ok (.iload 4, 2) := by decide +kernel
theorem dX5_addStepToLast_67 : decode cX5_addStepToLast 67 = .ok (.invokestatic 32, 3) := by decide +kernel
theorem dX5_addStepToLast_70 : decode cX5_addStepToLast 70 = .ok (.iconst 1, 1) := by decide +kernel
theorem dX5_addStepToLast_71 : decode cX5_addStepToLast 71 = .ok (.iadd, 1) := by decide +kernel
theorem dX5_addStepToLast_72 : decode cX5_addStepToLast 72 = .ok (.invokestatic 28, 3) := by decide +kernel
theorem dX5_addStepToLast_75 : decode cX5_addStepToLast 75 = .ok (.return_, 1) := by decide +kernel
set_option maxRecDepth 100000 in
set_option maxHeartbeats 4000000 in
theorem t_X5_addStepToLast (l : Launch) (D : va_G) (ct : Nat → ClassId) (S : ty_S) (ws : va_W) (ph : va_W → Prop) (xx : Nat → Nat → Nat → Prop) (h0 : Nat) (p1 : Int32) (p2 : Int32) (p3 : Int32) (sz : Nat) (hT : ty_V ct S ph ws) (h_h0 : S h0 = some (.inl 5)) (hph : ty_C ph xx) (hy1 : ty_y1 xx) : Met l yX5_addStepToLast (ws_ yX5_addStepToLast cX5_addStepToLast 6 none) ({ frames := 1, cells := 0, slots := 0, locals := 22 } : Room) (va_Pc [.ref h0, .int p1, .int p2, .int p3] (cmP D ct sz ([] ++ ws))) (va_Qv (fun (u9 : va_W) => ty_V ct S ph u9) (cmB D ([] ++ ws) sz (fun (u9 : va_W) => ([] ++ u9))) (va_A ([] ++ ws) sz)) 0 0 (va_A ([] ++ ws) sz) := by
  refine Met.ofW (cc := cX5_addStepToLast) (maxL := 6) (ret := none) (by decide) rfl ?_
  intro p e s m args below meth c s₁ B hml hv
  obtain ⟨rfl, hsz, hP, hK, hD0, hX⟩ := hv
  have hx := B.exec
  have hb := B.bytes
  have hr := B.returns
  have hts := ws_all (atoms_spec (ws := ws_ yX5_addStepToLast cX5_addStepToLast 6 none) B.pre)
  have hown : s.vm.findClass RX5 = some m.cls := findClass_of_methodNamed B.named
  have hlocks := B.notSynchronized
  subst hsz
  have hD := hD0.self (sz := s.heap.size)
  generalize hAe : va_A ([] ++ ws) s.heap.size = A at hD hX ⊢
  have hA : ∀ q : Nat, s.heap.size ≤ q → A q := fun q h => by rw [← hAe]; exact Or.inr h
  have hS : va_S A s.heap s.heap [] := va_S.rf
  have hl := lv_entry ([.ref h0, .int p1, .int p2, .int p3]) (n := 6) (Nat.le_of_ble_eq_true rfl)
  rw [lg_entry_eq]
  generalize (lg_sl ([.ref h0, .int p1, .int p2, .int p3]) ++ List.replicate (6 - (lg_sl ([.ref h0, .int p1, .int p2, .int p3])).length) Slot.unset).toArray = ls at hl ⊢
  have hl : lv_has ls 6 [(0, .ref h0), (1, .int p1), (2, .int p2), (3, .int p3)] := hl
  refine lv_aload_n hx hb dX5_addStepToLast_0 rfl (lv_at hl 0 rfl) ?_
  refine ty_get (E := []) (ws := ws) (D := D) (ci := 5) (C := RX5) (T := TX5) (N := 5) hx hb hts in_X5 hown hK hP hT h_h0 rfl 0 (by decide) (hts _ kl_RX5_24) (fun _ h9 => h9) rfl dX5_addStepToLast_1 (fun _ hv_1 hf_2 => ?_)
  obtain ⟨x_3, rfl, hz_4⟩ := hv_1
  refine lv_iconst (v := 1) hx hb dX5_addStepToLast_4 (by decide) ?_
  refine lv_isub hx hb dX5_addStepToLast_5 ?_
  refine lv_topi (fun x_5 _ => ?_)
  refine lv_istore (lv' := [(4, .int x_5), (0, .ref h0), (1, .int p1), (2, .int p2), (3, .int p3)]) hx hb dX5_addStepToLast_6 hl (by decide) rfl (fun ls hl => ?_)
  refine lv_iload hx hb dX5_addStepToLast_8 (lv_at hl 0 rfl) ?_
  refine lv_bipush (v := 12) hx hb dX5_addStepToLast_10 (by decide) ?_
  refine lv_imul hx hb dX5_addStepToLast_12 ?_
  refine lv_topi (fun x_6 _ => ?_)
  refine lv_aload_n hx hb dX5_addStepToLast_13 rfl (lv_at hl 1 rfl) ?_
  refine ty_get (E := []) (ws := ws) (D := D) (ci := 5) (C := RX5) (T := TX5) (N := 5) hx hb hts in_X5 hown hK hP hT h_h0 rfl 1 (by decide) (hts _ kl_RX5_9) (fun _ h9 => h9) rfl dX5_addStepToLast_14 (fun _ hv_7 hf_8 => ?_)
  obtain ⟨a_9, n_10, rfl, ha_11⟩ := hv_7
  refine lv_iload hx hb dX5_addStepToLast_17 (lv_at hl 0 rfl) ?_
  refine ty_ki (wr := []) (wc := ([] ++ ws)) (va_runSN (As := [.ref a_9, .int x_5]) (rest := [.int x_6]) ⟨hx, hb, hml, hown, hts⟩ (t_X10_at l D ct S ws ph xx a_9 n_10 x_5 _ hT ha_11 hph hy1) (cm_SN 2 hts kc_X10_at ki_RX10 kl_RX5_32 ks_X10_at kd_X10_at ⟨Nat.le_of_ble_eq_true rfl, Nat.le_of_ble_eq_true rfl⟩) (ty_preS (wr := []) (wc := ([] ++ ws)) hP hK hD hS hA hX) rfl rfl hl.1 rfl (lv_room (Nat.le_of_ble_eq_true rfl)) dX5_addStepToLast_19 ⟨Nat.le_of_ble_eq_true rfl, Nat.le_of_ble_eq_true rfl⟩) hP hD hS hA (fun r_12 u H locs hw_13 hP hD hS => ?_)
  obtain ⟨ws_14, rfl⟩ : ∃ z, z = u := ⟨_, rfl⟩
  have hT := hw_13
  have hP : va_P D vwCl ([] ++ ws_14) H := hP
  have hD : va_D A ([] ++ ws_14) := hD
  refine lv_iadd hx hb dX5_addStepToLast_22 ?_
  refine lv_topi (fun x_15 _ => ?_)
  refine lv_istore (lv' := [(5, .int x_15), (4, .int x_5), (0, .ref h0), (1, .int p1), (2, .int p2), (3, .int p3)]) hx hb dX5_addStepToLast_23 hl (by decide) rfl (fun ls hl => ?_)
  refine lv_aload_n hx hb dX5_addStepToLast_25 rfl (lv_at hl 2 rfl) ?_
  refine ty_get (E := []) (ws := ws_14) (D := D) (ci := 5) (C := RX5) (T := TX5) (N := 5) hx hb hts in_X5 hown hK hP hT h_h0 rfl 2 (by decide) (hts _ kl_RX5_15) (fun _ h9 => h9) rfl dX5_addStepToLast_26 (fun _ hv_16 hf_17 => ?_)
  obtain ⟨a_18, n_19, rfl, ha_20⟩ := hv_16
  refine lv_iload hx hb dX5_addStepToLast_29 (lv_at hl 0 rfl) ?_
  refine lv_iload_n hx hb dX5_addStepToLast_31 rfl (lv_at hl 3 rfl) ?_
  refine ty_kv (wr := []) (wc := ([] ++ ws_14)) (va_runSN (As := [.ref a_18, .int x_15, .int p1]) (rest := []) ⟨hx, hb, hml, hown, hts⟩ (t_X10_put l D ct S ws_14 ph xx a_18 n_19 x_15 p1 _ hT ha_20 hph hy1) (cm_SN 3 hts kc_X10_put ki_RX10 kl_RX5_28 ks_X10_put kd_X10_put ⟨Nat.le_of_ble_eq_true rfl, Nat.le_of_ble_eq_true rfl⟩) (ty_preS (wr := []) (wc := ([] ++ ws_14)) hP hK hD hS hA hX) rfl rfl hl.1 rfl (lv_room (Nat.le_of_ble_eq_true rfl)) dX5_addStepToLast_32 ⟨Nat.le_of_ble_eq_true rfl, Nat.le_of_ble_eq_true rfl⟩) hP hD hS hA (fun u H locs hw_22 hP hD hS => ?_)
  obtain ⟨ws_23, rfl⟩ : ∃ z, z = u := ⟨_, rfl⟩
  obtain ⟨hT, hp_24⟩ := hw_22
  have hp_24 : ty_fdle ws_14 ws_23 := hp_24
  have hP : va_P D vwCl ([] ++ ws_23) H := hP
  have hD : va_D A ([] ++ ws_23) := hD
  refine lv_aload_n hx hb dX5_addStepToLast_35 rfl (lv_at hl 2 rfl) ?_
  refine ty_get (E := []) (ws := ws_23) (D := D) (ci := 5) (C := RX5) (T := TX5) (N := 5) hx hb hts in_X5 hown hK hP hT h_h0 rfl 3 (by decide) (hts _ kl_RX5_18) (fun _ h9 => h9) rfl dX5_addStepToLast_36 (fun _ hv_25 hf_26 => ?_)
  obtain ⟨a_27, n_28, rfl, ha_29⟩ := hv_25
  refine lv_iload hx hb dX5_addStepToLast_39 (lv_at hl 0 rfl) ?_
  refine lv_iload_n hx hb dX5_addStepToLast_41 rfl (lv_at hl 4 rfl) ?_
  refine ty_kv (wr := []) (wc := ([] ++ ws_23)) (va_runSN (As := [.ref a_27, .int x_15, .int p2]) (rest := []) ⟨hx, hb, hml, hown, hts⟩ (t_X10_put l D ct S ws_23 ph xx a_27 n_28 x_15 p2 _ hT ha_29 hph hy1) (cm_SN 3 hts kc_X10_put ki_RX10 kl_RX5_28 ks_X10_put kd_X10_put ⟨Nat.le_of_ble_eq_true rfl, Nat.le_of_ble_eq_true rfl⟩) (ty_preS (wr := []) (wc := ([] ++ ws_23)) hP hK hD hS hA hX) rfl rfl hl.1 rfl (lv_room (Nat.le_of_ble_eq_true rfl)) dX5_addStepToLast_42 ⟨Nat.le_of_ble_eq_true rfl, Nat.le_of_ble_eq_true rfl⟩) hP hD hS hA (fun u H locs hw_31 hP hD hS => ?_)
  obtain ⟨ws_32, rfl⟩ : ∃ z, z = u := ⟨_, rfl⟩
  obtain ⟨hT, hp_33⟩ := hw_31
  have hp_33 : ty_fdle ws_23 ws_32 := hp_33
  have hP : va_P D vwCl ([] ++ ws_32) H := hP
  have hD : va_D A ([] ++ ws_32) := hD
  refine lv_aload_n hx hb dX5_addStepToLast_45 rfl (lv_at hl 2 rfl) ?_
  refine ty_get (E := []) (ws := ws_32) (D := D) (ci := 5) (C := RX5) (T := TX5) (N := 5) hx hb hts in_X5 hown hK hP hT h_h0 rfl 4 (by decide) (hts _ kl_RX5_21) (fun _ h9 => h9) rfl dX5_addStepToLast_46 (fun _ hv_34 hf_35 => ?_)
  obtain ⟨a_36, n_37, rfl, ha_38⟩ := hv_34
  refine lv_iload hx hb dX5_addStepToLast_49 (lv_at hl 0 rfl) ?_
  refine lv_iload_n hx hb dX5_addStepToLast_51 rfl (lv_at hl 5 rfl) ?_
  refine ty_kv (wr := []) (wc := ([] ++ ws_32)) (va_runSN (As := [.ref a_36, .int x_15, .int p3]) (rest := []) ⟨hx, hb, hml, hown, hts⟩ (t_X10_put l D ct S ws_32 ph xx a_36 n_37 x_15 p3 _ hT ha_38 hph hy1) (cm_SN 3 hts kc_X10_put ki_RX10 kl_RX5_28 ks_X10_put kd_X10_put ⟨Nat.le_of_ble_eq_true rfl, Nat.le_of_ble_eq_true rfl⟩) (ty_preS (wr := []) (wc := ([] ++ ws_32)) hP hK hD hS hA hX) rfl rfl hl.1 rfl (lv_room (Nat.le_of_ble_eq_true rfl)) dX5_addStepToLast_52 ⟨Nat.le_of_ble_eq_true rfl, Nat.le_of_ble_eq_true rfl⟩) hP hD hS hA (fun u H locs hw_40 hP hD hS => ?_)
  obtain ⟨ws_41, rfl⟩ : ∃ z, z = u := ⟨_, rfl⟩
  obtain ⟨hT, hp_42⟩ := hw_40
  have hp_42 : ty_fdle ws_32 ws_41 := hp_42
  have hP : va_P D vwCl ([] ++ ws_41) H := hP
  have hD : va_D A ([] ++ ws_41) := hD
  refine lv_aload_n hx hb dX5_addStepToLast_55 rfl (lv_at hl 2 rfl) ?_
  refine ty_get (E := []) (ws := ws_41) (D := D) (ci := 5) (C := RX5) (T := TX5) (N := 5) hx hb hts in_X5 hown hK hP hT h_h0 rfl 1 (by decide) (hts _ kl_RX5_9) (fun _ h9 => h9) rfl dX5_addStepToLast_56 (fun _ hv_43 hf_44 => ?_)
  obtain ⟨a_45, n_46, rfl, ha_47⟩ := hv_43
  refine lv_iload hx hb dX5_addStepToLast_59 (lv_at hl 1 rfl) ?_
  refine lv_aload_n hx hb dX5_addStepToLast_61 rfl (lv_at hl 2 rfl) ?_
  refine ty_get (E := []) (ws := ws_41) (D := D) (ci := 5) (C := RX5) (T := TX5) (N := 5) hx hb hts in_X5 hown hK hP hT h_h0 rfl 1 (by decide) (hts _ kl_RX5_9) (fun _ h9 => h9) rfl dX5_addStepToLast_62 (fun _ hv_48 hf_49 => ?_)
  obtain ⟨a_50, n_51, rfl, ha_52⟩ := hv_48
  refine lv_iload hx hb dX5_addStepToLast_65 (lv_at hl 1 rfl) ?_
  refine ty_ki (wr := []) (wc := ([] ++ ws_41)) (va_runSN (As := [.ref a_50, .int x_5]) (rest := [.int x_5, .ref a_45]) ⟨hx, hb, hml, hown, hts⟩ (t_X10_at l D ct S ws_41 ph xx a_50 n_51 x_5 _ hT ha_52 hph hy1) (cm_SN 2 hts kc_X10_at ki_RX10 kl_RX5_32 ks_X10_at kd_X10_at ⟨Nat.le_of_ble_eq_true rfl, Nat.le_of_ble_eq_true rfl⟩) (ty_preS (wr := []) (wc := ([] ++ ws_41)) hP hK hD hS hA hX) rfl rfl hl.1 rfl (lv_room (Nat.le_of_ble_eq_true rfl)) dX5_addStepToLast_67 ⟨Nat.le_of_ble_eq_true rfl, Nat.le_of_ble_eq_true rfl⟩) hP hD hS hA (fun r_53 u H locs hw_54 hP hD hS => ?_)
  obtain ⟨ws_55, rfl⟩ : ∃ z, z = u := ⟨_, rfl⟩
  have hT := hw_54
  have hP : va_P D vwCl ([] ++ ws_55) H := hP
  have hD : va_D A ([] ++ ws_55) := hD
  refine lv_iconst (v := 1) hx hb dX5_addStepToLast_70 (by decide) ?_
  refine lv_iadd hx hb dX5_addStepToLast_71 ?_
  refine lv_topi (fun x_56 _ => ?_)
  refine ty_kv (wr := []) (wc := ([] ++ ws_55)) (va_runSN (As := [.ref a_45, .int x_5, .int x_56]) (rest := []) ⟨hx, hb, hml, hown, hts⟩ (t_X10_put l D ct S ws_55 ph xx a_45 n_46 x_5 x_56 _ hT ha_47 hph hy1) (cm_SN 3 hts kc_X10_put ki_RX10 kl_RX5_28 ks_X10_put kd_X10_put ⟨Nat.le_of_ble_eq_true rfl, Nat.le_of_ble_eq_true rfl⟩) (ty_preS (wr := []) (wc := ([] ++ ws_55)) hP hK hD hS hA hX) rfl rfl hl.1 rfl (lv_room (Nat.le_of_ble_eq_true rfl)) dX5_addStepToLast_72 ⟨Nat.le_of_ble_eq_true rfl, Nat.le_of_ble_eq_true rfl⟩) hP hD hS hA (fun u H locs hw_58 hP hD hS => ?_)
  obtain ⟨ws_59, rfl⟩ : ∃ z, z = u := ⟨_, rfl⟩
  obtain ⟨hT, hp_60⟩ := hw_58
  have hp_60 : ty_fdle ws_55 ws_59 := hp_60
  have hP : va_P D vwCl ([] ++ ws_59) H := hP
  have hD : va_D A ([] ++ ws_59) := hD
  exact W.vret hx hb hr (fun t ht hW => ⟨⟨ws_59, rfl, hT, by rw [ht]; exact hP, by rw [hAe]; exact hD⟩, hS.F ht⟩) hS.2.2 dX5_addStepToLast_75
theorem dX5_stepsOf_0 : decode cX5_stepsOf 0 = .ok (.aload_n 0, 1) := by decide +kernel
theorem dX5_stepsOf_1 : decode cX5_stepsOf 1 = .ok (.getfield 9, 3) := by decide +kernel
theorem dX5_stepsOf_4 : decode cX5_stepsOf 4 = .ok (.iload_n 1, 1) := by decide +kernel
theorem dX5_stepsOf_5 : decode cX5_stepsOf 5 = .ok (.invokestatic 32, 3) := by decide +kernel
theorem dX5_stepsOf_8 : decode cX5_stepsOf 8 = .ok (.ireturn, 1) := by decide +kernel
set_option maxRecDepth 100000 in
set_option maxHeartbeats 4000000 in
theorem t_X5_stepsOf (l : Launch) (D : va_G) (ct : Nat → ClassId) (S : ty_S) (ws : va_W) (ph : va_W → Prop) (xx : Nat → Nat → Nat → Prop) (h0 : Nat) (p1 : Int32) (sz : Nat) (hT : ty_V ct S ph ws) (h_h0 : S h0 = some (.inl 5)) (hph : ty_C ph xx) (hy1 : ty_y1 xx) : Met l yX5_stepsOf (ws_ yX5_stepsOf cX5_stepsOf 2 (some .int)) ({ frames := 1, cells := 0, slots := 0, locals := 21 } : Room) (va_Pc [.ref h0, .int p1] (cmP D ct sz ([] ++ ws))) (va_Qi (fun (r : Int32) (u9 : va_W) => ty_V ct S ph u9) (cmB D ([] ++ ws) sz (fun (u9 : va_W) => ([] ++ u9))) (va_A ([] ++ ws) sz)) 0 0 (va_A ([] ++ ws) sz) := by
  refine Met.ofW (cc := cX5_stepsOf) (maxL := 2) (ret := (some .int)) (by decide) rfl ?_
  intro p e s m args below meth c s₁ B hml hv
  obtain ⟨rfl, hsz, hP, hK, hD0, hX⟩ := hv
  have hx := B.exec
  have hb := B.bytes
  have hr := B.returns
  have hts := ws_all (atoms_spec (ws := ws_ yX5_stepsOf cX5_stepsOf 2 (some .int)) B.pre)
  have hown : s.vm.findClass RX5 = some m.cls := findClass_of_methodNamed B.named
  have hlocks := B.notSynchronized
  subst hsz
  have hD := hD0.self (sz := s.heap.size)
  generalize hAe : va_A ([] ++ ws) s.heap.size = A at hD hX ⊢
  have hA : ∀ q : Nat, s.heap.size ≤ q → A q := fun q h => by rw [← hAe]; exact Or.inr h
  have hS : va_S A s.heap s.heap [] := va_S.rf
  have hl := lv_entry ([.ref h0, .int p1]) (n := 2) (Nat.le_of_ble_eq_true rfl)
  rw [lg_entry_eq]
  generalize (lg_sl ([.ref h0, .int p1]) ++ List.replicate (2 - (lg_sl ([.ref h0, .int p1])).length) Slot.unset).toArray = ls at hl ⊢
  have hl : lv_has ls 2 [(0, .ref h0), (1, .int p1)] := hl
  refine lv_aload_n hx hb dX5_stepsOf_0 rfl (lv_at hl 0 rfl) ?_
  refine ty_get (E := []) (ws := ws) (D := D) (ci := 5) (C := RX5) (T := TX5) (N := 5) hx hb hts in_X5 hown hK hP hT h_h0 rfl 1 (by decide) (hts _ kl_RX5_9) (fun _ h9 => h9) rfl dX5_stepsOf_1 (fun _ hv_1 hf_2 => ?_)
  obtain ⟨a_3, n_4, rfl, ha_5⟩ := hv_1
  refine lv_iload_n hx hb dX5_stepsOf_4 rfl (lv_at hl 1 rfl) ?_
  refine ty_ki (wr := []) (wc := ([] ++ ws)) (va_runSN (As := [.ref a_3, .int p1]) (rest := []) ⟨hx, hb, hml, hown, hts⟩ (t_X10_at l D ct S ws ph xx a_3 n_4 p1 _ hT ha_5 hph hy1) (cm_SN 2 hts kc_X10_at ki_RX10 kl_RX5_32 ks_X10_at kd_X10_at ⟨Nat.le_of_ble_eq_true rfl, Nat.le_of_ble_eq_true rfl⟩) (ty_preS (wr := []) (wc := ([] ++ ws)) hP hK hD hS hA hX) rfl rfl hl.1 rfl (lv_room (Nat.le_of_ble_eq_true rfl)) dX5_stepsOf_5 ⟨Nat.le_of_ble_eq_true rfl, Nat.le_of_ble_eq_true rfl⟩) hP hD hS hA (fun r_6 u H locs hw_7 hP hD hS => ?_)
  obtain ⟨ws_8, rfl⟩ : ∃ z, z = u := ⟨_, rfl⟩
  have hT := hw_7
  have hP : va_P D vwCl ([] ++ ws_8) H := hP
  have hD : va_D A ([] ++ ws_8) := hD
  exact W.iret (v := r_6) hx hb hr (fun t ht hW => ⟨⟨r_6, ws_8, rfl, hT, by rw [ht]; exact hP, by rw [hAe]; exact hD⟩, hS.F ht⟩) hS.2.2 dX5_stepsOf_8
theorem dX5_kindOf_0 : decode cX5_kindOf 0 = .ok (.aload_n 0, 1) := by decide +kernel
theorem dX5_kindOf_1 : decode cX5_kindOf 1 = .ok (.getfield 15, 3) := by decide +kernel
theorem dX5_kindOf_4 : decode cX5_kindOf 4 = .ok (.iload_n 1, 1) := by decide +kernel
theorem dX5_kindOf_5 : decode cX5_kindOf 5 = .ok (.bipush 12, 2) := by decide +kernel
theorem dX5_kindOf_7 : decode cX5_kindOf 7 = .ok (.imul, 1) := by decide +kernel
theorem dX5_kindOf_8 : decode cX5_kindOf 8 = .ok (.iload_n 2, 1) := by decide +kernel
theorem dX5_kindOf_9 : decode cX5_kindOf 9 = .ok (.iadd, 1) := by decide +kernel
theorem dX5_kindOf_10 : decode cX5_kindOf 10 = .ok (.invokestatic 32, 3) := by decide +kernel
theorem dX5_kindOf_13 : decode cX5_kindOf 13 = .ok (.ireturn, 1) := by decide +kernel
set_option maxRecDepth 100000 in
set_option maxHeartbeats 4000000 in
theorem t_X5_kindOf (l : Launch) (D : va_G) (ct : Nat → ClassId) (S : ty_S) (ws : va_W) (ph : va_W → Prop) (xx : Nat → Nat → Nat → Prop) (h0 : Nat) (p1 : Int32) (p2 : Int32) (sz : Nat) (hT : ty_V ct S ph ws) (h_h0 : S h0 = some (.inl 5)) (hph : ty_C ph xx) (hy1 : ty_y1 xx) : Met l yX5_kindOf (ws_ yX5_kindOf cX5_kindOf 3 (some .int)) ({ frames := 1, cells := 0, slots := 0, locals := 21 } : Room) (va_Pc [.ref h0, .int p1, .int p2] (cmP D ct sz ([] ++ ws))) (va_Qi (fun (r : Int32) (u9 : va_W) => ty_V ct S ph u9) (cmB D ([] ++ ws) sz (fun (u9 : va_W) => ([] ++ u9))) (va_A ([] ++ ws) sz)) 0 0 (va_A ([] ++ ws) sz) := by
  refine Met.ofW (cc := cX5_kindOf) (maxL := 3) (ret := (some .int)) (by decide) rfl ?_
  intro p e s m args below meth c s₁ B hml hv
  obtain ⟨rfl, hsz, hP, hK, hD0, hX⟩ := hv
  have hx := B.exec
  have hb := B.bytes
  have hr := B.returns
  have hts := ws_all (atoms_spec (ws := ws_ yX5_kindOf cX5_kindOf 3 (some .int)) B.pre)
  have hown : s.vm.findClass RX5 = some m.cls := findClass_of_methodNamed B.named
  have hlocks := B.notSynchronized
  subst hsz
  have hD := hD0.self (sz := s.heap.size)
  generalize hAe : va_A ([] ++ ws) s.heap.size = A at hD hX ⊢
  have hA : ∀ q : Nat, s.heap.size ≤ q → A q := fun q h => by rw [← hAe]; exact Or.inr h
  have hS : va_S A s.heap s.heap [] := va_S.rf
  have hl := lv_entry ([.ref h0, .int p1, .int p2]) (n := 3) (Nat.le_of_ble_eq_true rfl)
  rw [lg_entry_eq]
  generalize (lg_sl ([.ref h0, .int p1, .int p2]) ++ List.replicate (3 - (lg_sl ([.ref h0, .int p1, .int p2])).length) Slot.unset).toArray = ls at hl ⊢
  have hl : lv_has ls 3 [(0, .ref h0), (1, .int p1), (2, .int p2)] := hl
  refine lv_aload_n hx hb dX5_kindOf_0 rfl (lv_at hl 0 rfl) ?_
  refine ty_get (E := []) (ws := ws) (D := D) (ci := 5) (C := RX5) (T := TX5) (N := 5) hx hb hts in_X5 hown hK hP hT h_h0 rfl 2 (by decide) (hts _ kl_RX5_15) (fun _ h9 => h9) rfl dX5_kindOf_1 (fun _ hv_1 hf_2 => ?_)
  obtain ⟨a_3, n_4, rfl, ha_5⟩ := hv_1
  refine lv_iload_n hx hb dX5_kindOf_4 rfl (lv_at hl 1 rfl) ?_
  refine lv_bipush (v := 12) hx hb dX5_kindOf_5 (by decide) ?_
  refine lv_imul hx hb dX5_kindOf_7 ?_
  refine lv_topi (fun x_6 _ => ?_)
  refine lv_iload_n hx hb dX5_kindOf_8 rfl (lv_at hl 2 rfl) ?_
  refine lv_iadd hx hb dX5_kindOf_9 ?_
  refine lv_topi (fun x_7 _ => ?_)
  refine ty_ki (wr := []) (wc := ([] ++ ws)) (va_runSN (As := [.ref a_3, .int x_7]) (rest := []) ⟨hx, hb, hml, hown, hts⟩ (t_X10_at l D ct S ws ph xx a_3 n_4 x_7 _ hT ha_5 hph hy1) (cm_SN 2 hts kc_X10_at ki_RX10 kl_RX5_32 ks_X10_at kd_X10_at ⟨Nat.le_of_ble_eq_true rfl, Nat.le_of_ble_eq_true rfl⟩) (ty_preS (wr := []) (wc := ([] ++ ws)) hP hK hD hS hA hX) rfl rfl hl.1 rfl (lv_room (Nat.le_of_ble_eq_true rfl)) dX5_kindOf_10 ⟨Nat.le_of_ble_eq_true rfl, Nat.le_of_ble_eq_true rfl⟩) hP hD hS hA (fun r_8 u H locs hw_9 hP hD hS => ?_)
  obtain ⟨ws_10, rfl⟩ : ∃ z, z = u := ⟨_, rfl⟩
  have hT := hw_9
  have hP : va_P D vwCl ([] ++ ws_10) H := hP
  have hD : va_D A ([] ++ ws_10) := hD
  exact W.iret (v := r_8) hx hb hr (fun t ht hW => ⟨⟨r_8, ws_10, rfl, hT, by rw [ht]; exact hP, by rw [hAe]; exact hD⟩, hS.F ht⟩) hS.2.2 dX5_kindOf_13
theorem dX5_firstOf_0 : decode cX5_firstOf 0 = .ok (.aload_n 0, 1) := by decide +kernel
theorem dX5_firstOf_1 : decode cX5_firstOf 1 = .ok (.getfield 18, 3) := by decide +kernel
theorem dX5_firstOf_4 : decode cX5_firstOf 4 = .ok (.iload_n 1, 1) := by decide +kernel
theorem dX5_firstOf_5 : decode cX5_firstOf 5 = .ok (.bipush 12, 2) := by decide +kernel
theorem dX5_firstOf_7 : decode cX5_firstOf 7 = .ok (.imul, 1) := by decide +kernel
theorem dX5_firstOf_8 : decode cX5_firstOf 8 = .ok (.iload_n 2, 1) := by decide +kernel
theorem dX5_firstOf_9 : decode cX5_firstOf 9 = .ok (.iadd, 1) := by decide +kernel
theorem dX5_firstOf_10 : decode cX5_firstOf 10 = .ok (.invokestatic 32, 3) := by decide +kernel
theorem dX5_firstOf_13 : decode cX5_firstOf 13 = .ok (.ireturn, 1) := by decide +kernel
set_option maxRecDepth 100000 in
set_option maxHeartbeats 4000000 in
theorem t_X5_firstOf (l : Launch) (D : va_G) (ct : Nat → ClassId) (S : ty_S) (ws : va_W) (ph : va_W → Prop) (xx : Nat → Nat → Nat → Prop) (h0 : Nat) (p1 : Int32) (p2 : Int32) (sz : Nat) (hT : ty_V ct S ph ws) (h_h0 : S h0 = some (.inl 5)) (hph : ty_C ph xx) (hy1 : ty_y1 xx) : Met l yX5_firstOf (ws_ yX5_firstOf cX5_firstOf 3 (some .int)) ({ frames := 1, cells := 0, slots := 0, locals := 21 } : Room) (va_Pc [.ref h0, .int p1, .int p2] (cmP D ct sz ([] ++ ws))) (va_Qi (fun (r : Int32) (u9 : va_W) => ty_V ct S ph u9) (cmB D ([] ++ ws) sz (fun (u9 : va_W) => ([] ++ u9))) (va_A ([] ++ ws) sz)) 0 0 (va_A ([] ++ ws) sz) := by
  refine Met.ofW (cc := cX5_firstOf) (maxL := 3) (ret := (some .int)) (by decide) rfl ?_
  intro p e s m args below meth c s₁ B hml hv
  obtain ⟨rfl, hsz, hP, hK, hD0, hX⟩ := hv
  have hx := B.exec
  have hb := B.bytes
  have hr := B.returns
  have hts := ws_all (atoms_spec (ws := ws_ yX5_firstOf cX5_firstOf 3 (some .int)) B.pre)
  have hown : s.vm.findClass RX5 = some m.cls := findClass_of_methodNamed B.named
  have hlocks := B.notSynchronized
  subst hsz
  have hD := hD0.self (sz := s.heap.size)
  generalize hAe : va_A ([] ++ ws) s.heap.size = A at hD hX ⊢
  have hA : ∀ q : Nat, s.heap.size ≤ q → A q := fun q h => by rw [← hAe]; exact Or.inr h
  have hS : va_S A s.heap s.heap [] := va_S.rf
  have hl := lv_entry ([.ref h0, .int p1, .int p2]) (n := 3) (Nat.le_of_ble_eq_true rfl)
  rw [lg_entry_eq]
  generalize (lg_sl ([.ref h0, .int p1, .int p2]) ++ List.replicate (3 - (lg_sl ([.ref h0, .int p1, .int p2])).length) Slot.unset).toArray = ls at hl ⊢
  have hl : lv_has ls 3 [(0, .ref h0), (1, .int p1), (2, .int p2)] := hl
  refine lv_aload_n hx hb dX5_firstOf_0 rfl (lv_at hl 0 rfl) ?_
  refine ty_get (E := []) (ws := ws) (D := D) (ci := 5) (C := RX5) (T := TX5) (N := 5) hx hb hts in_X5 hown hK hP hT h_h0 rfl 3 (by decide) (hts _ kl_RX5_18) (fun _ h9 => h9) rfl dX5_firstOf_1 (fun _ hv_1 hf_2 => ?_)
  obtain ⟨a_3, n_4, rfl, ha_5⟩ := hv_1
  refine lv_iload_n hx hb dX5_firstOf_4 rfl (lv_at hl 1 rfl) ?_
  refine lv_bipush (v := 12) hx hb dX5_firstOf_5 (by decide) ?_
  refine lv_imul hx hb dX5_firstOf_7 ?_
  refine lv_topi (fun x_6 _ => ?_)
  refine lv_iload_n hx hb dX5_firstOf_8 rfl (lv_at hl 2 rfl) ?_
  refine lv_iadd hx hb dX5_firstOf_9 ?_
  refine lv_topi (fun x_7 _ => ?_)
  refine ty_ki (wr := []) (wc := ([] ++ ws)) (va_runSN (As := [.ref a_3, .int x_7]) (rest := []) ⟨hx, hb, hml, hown, hts⟩ (t_X10_at l D ct S ws ph xx a_3 n_4 x_7 _ hT ha_5 hph hy1) (cm_SN 2 hts kc_X10_at ki_RX10 kl_RX5_32 ks_X10_at kd_X10_at ⟨Nat.le_of_ble_eq_true rfl, Nat.le_of_ble_eq_true rfl⟩) (ty_preS (wr := []) (wc := ([] ++ ws)) hP hK hD hS hA hX) rfl rfl hl.1 rfl (lv_room (Nat.le_of_ble_eq_true rfl)) dX5_firstOf_10 ⟨Nat.le_of_ble_eq_true rfl, Nat.le_of_ble_eq_true rfl⟩) hP hD hS hA (fun r_8 u H locs hw_9 hP hD hS => ?_)
  obtain ⟨ws_10, rfl⟩ : ∃ z, z = u := ⟨_, rfl⟩
  have hT := hw_9
  have hP : va_P D vwCl ([] ++ ws_10) H := hP
  have hD : va_D A ([] ++ ws_10) := hD
  exact W.iret (v := r_8) hx hb hr (fun t ht hW => ⟨⟨r_8, ws_10, rfl, hT, by rw [ht]; exact hP, by rw [hAe]; exact hD⟩, hS.F ht⟩) hS.2.2 dX5_firstOf_13
theorem dX5_secondOf_0 : decode cX5_secondOf 0 = .ok (.aload_n 0, 1) := by decide +kernel
theorem dX5_secondOf_1 : decode cX5_secondOf 1 = .ok (.getfield 21, 3) := by decide +kernel
theorem dX5_secondOf_4 : decode cX5_secondOf 4 = .ok (.iload_n 1, 1) := by decide +kernel
theorem dX5_secondOf_5 : decode cX5_secondOf 5 = .ok (.bipush 12, 2) := by decide +kernel
theorem dX5_secondOf_7 : decode cX5_secondOf 7 = .ok (.imul, 1) := by decide +kernel
theorem dX5_secondOf_8 : decode cX5_secondOf 8 = .ok (.iload_n 2, 1) := by decide +kernel
theorem dX5_secondOf_9 : decode cX5_secondOf 9 = .ok (.iadd, 1) := by decide +kernel
theorem dX5_secondOf_10 : decode cX5_secondOf 10 = .ok (.invokestatic 32, 3) := by decide +kernel
theorem dX5_secondOf_13 : decode cX5_secondOf 13 = .ok (.ireturn, 1) := by decide +kernel
set_option maxRecDepth 100000 in
set_option maxHeartbeats 4000000 in
theorem t_X5_secondOf (l : Launch) (D : va_G) (ct : Nat → ClassId) (S : ty_S) (ws : va_W) (ph : va_W → Prop) (xx : Nat → Nat → Nat → Prop) (h0 : Nat) (p1 : Int32) (p2 : Int32) (sz : Nat) (hT : ty_V ct S ph ws) (h_h0 : S h0 = some (.inl 5)) (hph : ty_C ph xx) (hy1 : ty_y1 xx) : Met l yX5_secondOf (ws_ yX5_secondOf cX5_secondOf 3 (some .int)) ({ frames := 1, cells := 0, slots := 0, locals := 21 } : Room) (va_Pc [.ref h0, .int p1, .int p2] (cmP D ct sz ([] ++ ws))) (va_Qi (fun (r : Int32) (u9 : va_W) => ty_V ct S ph u9) (cmB D ([] ++ ws) sz (fun (u9 : va_W) => ([] ++ u9))) (va_A ([] ++ ws) sz)) 0 0 (va_A ([] ++ ws) sz) := by
  refine Met.ofW (cc := cX5_secondOf) (maxL := 3) (ret := (some .int)) (by decide) rfl ?_
  intro p e s m args below meth c s₁ B hml hv
  obtain ⟨rfl, hsz, hP, hK, hD0, hX⟩ := hv
  have hx := B.exec
  have hb := B.bytes
  have hr := B.returns
  have hts := ws_all (atoms_spec (ws := ws_ yX5_secondOf cX5_secondOf 3 (some .int)) B.pre)
  have hown : s.vm.findClass RX5 = some m.cls := findClass_of_methodNamed B.named
  have hlocks := B.notSynchronized
  subst hsz
  have hD := hD0.self (sz := s.heap.size)
  generalize hAe : va_A ([] ++ ws) s.heap.size = A at hD hX ⊢
  have hA : ∀ q : Nat, s.heap.size ≤ q → A q := fun q h => by rw [← hAe]; exact Or.inr h
  have hS : va_S A s.heap s.heap [] := va_S.rf
  have hl := lv_entry ([.ref h0, .int p1, .int p2]) (n := 3) (Nat.le_of_ble_eq_true rfl)
  rw [lg_entry_eq]
  generalize (lg_sl ([.ref h0, .int p1, .int p2]) ++ List.replicate (3 - (lg_sl ([.ref h0, .int p1, .int p2])).length) Slot.unset).toArray = ls at hl ⊢
  have hl : lv_has ls 3 [(0, .ref h0), (1, .int p1), (2, .int p2)] := hl
  refine lv_aload_n hx hb dX5_secondOf_0 rfl (lv_at hl 0 rfl) ?_
  refine ty_get (E := []) (ws := ws) (D := D) (ci := 5) (C := RX5) (T := TX5) (N := 5) hx hb hts in_X5 hown hK hP hT h_h0 rfl 4 (by decide) (hts _ kl_RX5_21) (fun _ h9 => h9) rfl dX5_secondOf_1 (fun _ hv_1 hf_2 => ?_)
  obtain ⟨a_3, n_4, rfl, ha_5⟩ := hv_1
  refine lv_iload_n hx hb dX5_secondOf_4 rfl (lv_at hl 1 rfl) ?_
  refine lv_bipush (v := 12) hx hb dX5_secondOf_5 (by decide) ?_
  refine lv_imul hx hb dX5_secondOf_7 ?_
  refine lv_topi (fun x_6 _ => ?_)
  refine lv_iload_n hx hb dX5_secondOf_8 rfl (lv_at hl 2 rfl) ?_
  refine lv_iadd hx hb dX5_secondOf_9 ?_
  refine lv_topi (fun x_7 _ => ?_)
  refine ty_ki (wr := []) (wc := ([] ++ ws)) (va_runSN (As := [.ref a_3, .int x_7]) (rest := []) ⟨hx, hb, hml, hown, hts⟩ (t_X10_at l D ct S ws ph xx a_3 n_4 x_7 _ hT ha_5 hph hy1) (cm_SN 2 hts kc_X10_at ki_RX10 kl_RX5_32 ks_X10_at kd_X10_at ⟨Nat.le_of_ble_eq_true rfl, Nat.le_of_ble_eq_true rfl⟩) (ty_preS (wr := []) (wc := ([] ++ ws)) hP hK hD hS hA hX) rfl rfl hl.1 rfl (lv_room (Nat.le_of_ble_eq_true rfl)) dX5_secondOf_10 ⟨Nat.le_of_ble_eq_true rfl, Nat.le_of_ble_eq_true rfl⟩) hP hD hS hA (fun r_8 u H locs hw_9 hP hD hS => ?_)
  obtain ⟨ws_10, rfl⟩ : ∃ z, z = u := ⟨_, rfl⟩
  have hT := hw_9
  have hP : va_P D vwCl ([] ++ ws_10) H := hP
  have hD : va_D A ([] ++ ws_10) := hD
  exact W.iret (v := r_8) hx hb hr (fun t ht hW => ⟨⟨r_8, ws_10, rfl, hT, by rw [ht]; exact hP, by rw [hAe]; exact hD⟩, hS.F ht⟩) hS.2.2 dX5_secondOf_13
theorem dX5_copyFrom_0 : decode cX5_copyFrom 0 = .ok (.aload_n 0, 1) := by decide +kernel
theorem dX5_copyFrom_1 : decode cX5_copyFrom 1 = .ok (.aload_n 1, 1) := by decide +kernel
theorem dX5_copyFrom_2 : decode cX5_copyFrom 2 = .ok (.getfield 24, 3) := by decide +kernel
theorem dX5_copyFrom_5 : decode cX5_copyFrom 5 = .ok (.putfield 24, 3) := by decide +kernel
theorem dX5_copyFrom_8 : decode cX5_copyFrom 8 = .ok (.aload_n 1, 1) := by decide +kernel
theorem dX5_copyFrom_9 : decode cX5_copyFrom 9 = .ok (.getfield 9, 3) := by decide +kernel
theorem dX5_copyFrom_12 : decode cX5_copyFrom 12 = .ok (.aload_n 0, 1) := by decide +kernel
theorem dX5_copyFrom_13 : decode cX5_copyFrom 13 = .ok (.getfield 9, 3) := by decide +kernel
theorem dX5_copyFrom_16 : decode cX5_copyFrom 16 = .ok (.invokestatic 36, 3) := by decide +kernel
theorem dX5_copyFrom_19 : decode cX5_copyFrom 19 = .ok (.aload_n 1, 1) := by decide +kernel
theorem dX5_copyFrom_20 : decode cX5_copyFrom 20 = .ok (.getfield 15, 3) := by decide +kernel
theorem dX5_copyFrom_23 : decode cX5_copyFrom 23 = .ok (.aload_n 0, 1) := by decide +kernel
theorem dX5_copyFrom_24 : decode cX5_copyFrom 24 = .ok (.getfield 15, 3) := by decide +kernel
theorem dX5_copyFrom_27 : decode cX5_copyFrom 27 = .ok (.invokestatic 36, 3) := by decide +kernel
theorem dX5_copyFrom_30 : decode cX5_copyFrom 30 = .ok (.aload_n 1, 1) := by decide +kernel
theorem dX5_copyFrom_31 : decode cX5_copyFrom 31 = .ok (.getfield 18, 3) := by decide +kernel
theorem dX5_copyFrom_34 : decode cX5_copyFrom 34 = .ok (.aload_n 0, 1) := by decide +kernel
theorem dX5_copyFrom_35 : decode cX5_copyFrom 35 = .ok (.getfield 18, 3) := by decide +kernel
theorem dX5_copyFrom_38 : decode cX5_copyFrom 38 = .ok (.invokestatic 36, 3) := by decide +kernel
theorem dX5_copyFrom_41 : decode cX5_copyFrom 41 = .ok (.aload_n 1, 1) := by decide +kernel
theorem dX5_copyFrom_42 : decode cX5_copyFrom 42 = .ok (.getfield 21, 3) := by decide +kernel
theorem dX5_copyFrom_45 : decode cX5_copyFrom 45 = .ok (.aload_n 0, 1) := by decide +kernel
theorem dX5_copyFrom_46 : decode cX5_copyFrom 46 = .ok (.getfield 21, 3) := by decide +kernel
theorem dX5_copyFrom_49 : decode cX5_copyFrom 49 = .ok (.invokestatic 36, 3) := by decide +kernel
theorem dX5_copyFrom_52 : decode cX5_copyFrom 52 = .ok (.return_, 1) := by decide +kernel
set_option maxRecDepth 100000 in
set_option maxHeartbeats 4000000 in
theorem t_X5_copyFrom (l : Launch) (D : va_G) (ct : Nat → ClassId) (S : ty_S) (ws : va_W) (ph : va_W → Prop) (xx : Nat → Nat → Nat → Prop) (h0 : Nat) (p1 : Nat) (sz : Nat) (hT : ty_V ct S ph ws) (h_h0 : S h0 = some (.inl 5)) (h_p1 : S p1 = some (.inl 5)) (hph : ty_C ph xx) (hy1 : ty_y1 xx) (hy5 : ty_y0 xx 5) : Met l yX5_copyFrom (ws_ yX5_copyFrom cX5_copyFrom 2 none) ({ frames := 2, cells := 0, slots := 0, locals := 101 } : Room) (va_Pc [.ref h0, .ref p1] (cmP D ct sz ([] ++ ws))) (va_Qv (fun (u9 : va_W) => ty_V ct S ph u9) (cmB D ([] ++ ws) sz (fun (u9 : va_W) => ([] ++ u9))) (va_A ([] ++ ws) sz)) 0 0 (va_A ([] ++ ws) sz) := by
  refine Met.ofW (cc := cX5_copyFrom) (maxL := 2) (ret := none) (by decide) rfl ?_
  intro p e s m args below meth c s₁ B hml hv
  obtain ⟨rfl, hsz, hP, hK, hD0, hX⟩ := hv
  have hx := B.exec
  have hb := B.bytes
  have hr := B.returns
  have hts := ws_all (atoms_spec (ws := ws_ yX5_copyFrom cX5_copyFrom 2 none) B.pre)
  have hown : s.vm.findClass RX5 = some m.cls := findClass_of_methodNamed B.named
  have hlocks := B.notSynchronized
  subst hsz
  have hD := hD0.self (sz := s.heap.size)
  generalize hAe : va_A ([] ++ ws) s.heap.size = A at hD hX ⊢
  have hA : ∀ q : Nat, s.heap.size ≤ q → A q := fun q h => by rw [← hAe]; exact Or.inr h
  have hS : va_S A s.heap s.heap [] := va_S.rf
  have hl := lv_entry ([.ref h0, .ref p1]) (n := 2) (Nat.le_of_ble_eq_true rfl)
  rw [lg_entry_eq]
  generalize (lg_sl ([.ref h0, .ref p1]) ++ List.replicate (2 - (lg_sl ([.ref h0, .ref p1])).length) Slot.unset).toArray = ls at hl ⊢
  have hl : lv_has ls 2 [(0, .ref h0), (1, .ref p1)] := hl
  refine lv_aload_n hx hb dX5_copyFrom_0 rfl (lv_at hl 0 rfl) ?_
  refine lv_aload_n hx hb dX5_copyFrom_1 rfl (lv_at hl 1 rfl) ?_
  refine ty_get (E := []) (ws := ws) (D := D) (ci := 5) (C := RX5) (T := TX5) (N := 5) hx hb hts in_X5 hown hK hP hT h_p1 rfl 0 (by decide) (hts _ kl_RX5_24) (fun _ h9 => h9) rfl dX5_copyFrom_2 (fun _ hv_1 hf_2 => ?_)
  obtain ⟨x_3, rfl, hz_4⟩ := hv_1
  refine ty_put (v := .int x_3) (ty := .int) (E := []) (ws := ws) (D := D) (ci := 5) (C := RX5) (T := TX5) (N := 5) hx hb hts in_X5 tyX5 tyX5_ok nmX5 hown hK hP hD hS hT h_h0 rfl 0 (by decide) (hts _ kl_RX5_24) (fun _ h9 => h9) rfl (by decide +kernel) rfl rfl rfl ⟨_, rfl, hz_4⟩ dX5_copyFrom_5 hph (hy5 h0) (fun ws_5 H locs hT hP hD hS => ?_)
  refine lv_aload_n hx hb dX5_copyFrom_8 rfl (lv_at hl 1 rfl) ?_
  refine ty_get (E := []) (ws := ws_5) (D := D) (ci := 5) (C := RX5) (T := TX5) (N := 5) hx hb hts in_X5 hown hK hP hT h_p1 rfl 1 (by decide) (hts _ kl_RX5_9) (fun _ h9 => h9) rfl dX5_copyFrom_9 (fun _ hv_6 hf_7 => ?_)
  obtain ⟨a_8, n_9, rfl, ha_10⟩ := hv_6
  refine lv_aload_n hx hb dX5_copyFrom_12 rfl (lv_at hl 0 rfl) ?_
  refine ty_get (E := []) (ws := ws_5) (D := D) (ci := 5) (C := RX5) (T := TX5) (N := 5) hx hb hts in_X5 hown hK hP hT h_h0 rfl 1 (by decide) (hts _ kl_RX5_9) (fun _ h9 => h9) rfl dX5_copyFrom_13 (fun _ hv_11 hf_12 => ?_)
  obtain ⟨a_13, n_14, rfl, ha_15⟩ := hv_11
  refine ty_kv (wr := []) (wc := ([] ++ ws_5)) (va_runSN (As := [.ref a_8, .ref a_13]) (rest := []) ⟨hx, hb, hml, hown, hts⟩ (t_X10_copyRow l D ct S ws_5 ph xx a_8 n_9 a_13 n_14 _ hT ha_10 ha_15 hph hy1) (cm_SN 2 hts kc_X10_copyRow ki_RX10 kl_RX5_36 ks_X10_copyRow kd_X10_copyRow ⟨Nat.le_of_ble_eq_true rfl, Nat.le_of_ble_eq_true rfl⟩) (ty_preS (wr := []) (wc := ([] ++ ws_5)) hP hK hD hS hA hX) rfl rfl hl.1 rfl (lv_room (Nat.le_of_ble_eq_true rfl)) dX5_copyFrom_16 ⟨Nat.le_of_ble_eq_true rfl, Nat.le_of_ble_eq_true rfl⟩) hP hD hS hA (fun u H locs hw_17 hP hD hS => ?_)
  obtain ⟨ws_18, rfl⟩ : ∃ z, z = u := ⟨_, rfl⟩
  have hT := hw_17
  have hP : va_P D vwCl ([] ++ ws_18) H := hP
  have hD : va_D A ([] ++ ws_18) := hD
  refine lv_aload_n hx hb dX5_copyFrom_19 rfl (lv_at hl 1 rfl) ?_
  refine ty_get (E := []) (ws := ws_18) (D := D) (ci := 5) (C := RX5) (T := TX5) (N := 5) hx hb hts in_X5 hown hK hP hT h_p1 rfl 2 (by decide) (hts _ kl_RX5_15) (fun _ h9 => h9) rfl dX5_copyFrom_20 (fun _ hv_19 hf_20 => ?_)
  obtain ⟨a_21, n_22, rfl, ha_23⟩ := hv_19
  refine lv_aload_n hx hb dX5_copyFrom_23 rfl (lv_at hl 0 rfl) ?_
  refine ty_get (E := []) (ws := ws_18) (D := D) (ci := 5) (C := RX5) (T := TX5) (N := 5) hx hb hts in_X5 hown hK hP hT h_h0 rfl 2 (by decide) (hts _ kl_RX5_15) (fun _ h9 => h9) rfl dX5_copyFrom_24 (fun _ hv_24 hf_25 => ?_)
  obtain ⟨a_26, n_27, rfl, ha_28⟩ := hv_24
  refine ty_kv (wr := []) (wc := ([] ++ ws_18)) (va_runSN (As := [.ref a_21, .ref a_26]) (rest := []) ⟨hx, hb, hml, hown, hts⟩ (t_X10_copyRow l D ct S ws_18 ph xx a_21 n_22 a_26 n_27 _ hT ha_23 ha_28 hph hy1) (cm_SN 2 hts kc_X10_copyRow ki_RX10 kl_RX5_36 ks_X10_copyRow kd_X10_copyRow ⟨Nat.le_of_ble_eq_true rfl, Nat.le_of_ble_eq_true rfl⟩) (ty_preS (wr := []) (wc := ([] ++ ws_18)) hP hK hD hS hA hX) rfl rfl hl.1 rfl (lv_room (Nat.le_of_ble_eq_true rfl)) dX5_copyFrom_27 ⟨Nat.le_of_ble_eq_true rfl, Nat.le_of_ble_eq_true rfl⟩) hP hD hS hA (fun u H locs hw_30 hP hD hS => ?_)
  obtain ⟨ws_31, rfl⟩ : ∃ z, z = u := ⟨_, rfl⟩
  have hT := hw_30
  have hP : va_P D vwCl ([] ++ ws_31) H := hP
  have hD : va_D A ([] ++ ws_31) := hD
  refine lv_aload_n hx hb dX5_copyFrom_30 rfl (lv_at hl 1 rfl) ?_
  refine ty_get (E := []) (ws := ws_31) (D := D) (ci := 5) (C := RX5) (T := TX5) (N := 5) hx hb hts in_X5 hown hK hP hT h_p1 rfl 3 (by decide) (hts _ kl_RX5_18) (fun _ h9 => h9) rfl dX5_copyFrom_31 (fun _ hv_32 hf_33 => ?_)
  obtain ⟨a_34, n_35, rfl, ha_36⟩ := hv_32
  refine lv_aload_n hx hb dX5_copyFrom_34 rfl (lv_at hl 0 rfl) ?_
  refine ty_get (E := []) (ws := ws_31) (D := D) (ci := 5) (C := RX5) (T := TX5) (N := 5) hx hb hts in_X5 hown hK hP hT h_h0 rfl 3 (by decide) (hts _ kl_RX5_18) (fun _ h9 => h9) rfl dX5_copyFrom_35 (fun _ hv_37 hf_38 => ?_)
  obtain ⟨a_39, n_40, rfl, ha_41⟩ := hv_37
  refine ty_kv (wr := []) (wc := ([] ++ ws_31)) (va_runSN (As := [.ref a_34, .ref a_39]) (rest := []) ⟨hx, hb, hml, hown, hts⟩ (t_X10_copyRow l D ct S ws_31 ph xx a_34 n_35 a_39 n_40 _ hT ha_36 ha_41 hph hy1) (cm_SN 2 hts kc_X10_copyRow ki_RX10 kl_RX5_36 ks_X10_copyRow kd_X10_copyRow ⟨Nat.le_of_ble_eq_true rfl, Nat.le_of_ble_eq_true rfl⟩) (ty_preS (wr := []) (wc := ([] ++ ws_31)) hP hK hD hS hA hX) rfl rfl hl.1 rfl (lv_room (Nat.le_of_ble_eq_true rfl)) dX5_copyFrom_38 ⟨Nat.le_of_ble_eq_true rfl, Nat.le_of_ble_eq_true rfl⟩) hP hD hS hA (fun u H locs hw_43 hP hD hS => ?_)
  obtain ⟨ws_44, rfl⟩ : ∃ z, z = u := ⟨_, rfl⟩
  have hT := hw_43
  have hP : va_P D vwCl ([] ++ ws_44) H := hP
  have hD : va_D A ([] ++ ws_44) := hD
  refine lv_aload_n hx hb dX5_copyFrom_41 rfl (lv_at hl 1 rfl) ?_
  refine ty_get (E := []) (ws := ws_44) (D := D) (ci := 5) (C := RX5) (T := TX5) (N := 5) hx hb hts in_X5 hown hK hP hT h_p1 rfl 4 (by decide) (hts _ kl_RX5_21) (fun _ h9 => h9) rfl dX5_copyFrom_42 (fun _ hv_45 hf_46 => ?_)
  obtain ⟨a_47, n_48, rfl, ha_49⟩ := hv_45
  refine lv_aload_n hx hb dX5_copyFrom_45 rfl (lv_at hl 0 rfl) ?_
  refine ty_get (E := []) (ws := ws_44) (D := D) (ci := 5) (C := RX5) (T := TX5) (N := 5) hx hb hts in_X5 hown hK hP hT h_h0 rfl 4 (by decide) (hts _ kl_RX5_21) (fun _ h9 => h9) rfl dX5_copyFrom_46 (fun _ hv_50 hf_51 => ?_)
  obtain ⟨a_52, n_53, rfl, ha_54⟩ := hv_50
  refine ty_kv (wr := []) (wc := ([] ++ ws_44)) (va_runSN (As := [.ref a_47, .ref a_52]) (rest := []) ⟨hx, hb, hml, hown, hts⟩ (t_X10_copyRow l D ct S ws_44 ph xx a_47 n_48 a_52 n_53 _ hT ha_49 ha_54 hph hy1) (cm_SN 2 hts kc_X10_copyRow ki_RX10 kl_RX5_36 ks_X10_copyRow kd_X10_copyRow ⟨Nat.le_of_ble_eq_true rfl, Nat.le_of_ble_eq_true rfl⟩) (ty_preS (wr := []) (wc := ([] ++ ws_44)) hP hK hD hS hA hX) rfl rfl hl.1 rfl (lv_room (Nat.le_of_ble_eq_true rfl)) dX5_copyFrom_49 ⟨Nat.le_of_ble_eq_true rfl, Nat.le_of_ble_eq_true rfl⟩) hP hD hS hA (fun u H locs hw_56 hP hD hS => ?_)
  obtain ⟨ws_57, rfl⟩ : ∃ z, z = u := ⟨_, rfl⟩
  have hT := hw_56
  have hP : va_P D vwCl ([] ++ ws_57) H := hP
  have hD : va_D A ([] ++ ws_57) := hD
  exact W.vret hx hb hr (fun t ht hW => ⟨⟨ws_57, rfl, hT, by rw [ht]; exact hP, by rw [hAe]; exact hD⟩, hS.F ht⟩) hS.2.2 dX5_copyFrom_52
theorem dX8_get_0 : decode cX8_get 0 = .ok (.aload_n 0, 1) := by decide +kernel
theorem dX8_get_1 : decode cX8_get 1 = .ok (.getfield 22, 3) := by decide +kernel
theorem dX8_get_4 : decode cX8_get 4 = .ok (.aload_n 0, 1) := by decide +kernel
theorem dX8_get_5 : decode cX8_get 5 = .ok (.iload_n 1, 1) := by decide +kernel
theorem dX8_get_6 : decode cX8_get 6 = .ok (.invokevirtual 32, 3) := by decide +kernel
theorem dX8_get_9 : decode cX8_get 9 = .ok (.iload_n 2, 1) := by decide +kernel
theorem dX8_get_10 : decode cX8_get 10 = .ok (.iadd, 1) := by decide +kernel
theorem dX8_get_11 : decode cX8_get 11 = .ok (.invokestatic 36, 3) := by decide +kernel
theorem dX8_get_14 : decode cX8_get 14 = .ok (.ireturn, 1) := by decide +kernel
set_option maxRecDepth 100000 in
set_option maxHeartbeats 4000000 in
theorem t_X8_get (l : Launch) (D : va_G) (ct : Nat → ClassId) (S : ty_S) (ws : va_W) (ph : va_W → Prop) (xx : Nat → Nat → Nat → Prop) (h0 : Nat) (p1 : Int32) (p2 : Int32) (sz : Nat) (hT : ty_V ct S ph ws) (h_h0 : S h0 = some (.inl 8)) (hph : ty_C ph xx) (hy1 : ty_y1 xx) : Met l yX8_get (ws_ yX8_get cX8_get 3 (some .int)) ({ frames := 1, cells := 0, slots := 0, locals := 22 } : Room) (va_Pc [.ref h0, .int p1, .int p2] (cmP D ct sz ([] ++ ws))) (va_Qi (fun (r : Int32) (u9 : va_W) => ty_V ct S ph u9) (cmB D ([] ++ ws) sz (fun (u9 : va_W) => ([] ++ u9))) (va_A ([] ++ ws) sz)) 0 0 (va_A ([] ++ ws) sz) := by
  refine Met.ofW (cc := cX8_get) (maxL := 3) (ret := (some .int)) (by decide) rfl ?_
  intro p e s m args below meth c s₁ B hml hv
  obtain ⟨rfl, hsz, hP, hK, hD0, hX⟩ := hv
  have hx := B.exec
  have hb := B.bytes
  have hr := B.returns
  have hts := ws_all (atoms_spec (ws := ws_ yX8_get cX8_get 3 (some .int)) B.pre)
  have hown : s.vm.findClass RX8 = some m.cls := findClass_of_methodNamed B.named
  have hlocks := B.notSynchronized
  subst hsz
  have hD := hD0.self (sz := s.heap.size)
  generalize hAe : va_A ([] ++ ws) s.heap.size = A at hD hX ⊢
  have hA : ∀ q : Nat, s.heap.size ≤ q → A q := fun q h => by rw [← hAe]; exact Or.inr h
  have hS : va_S A s.heap s.heap [] := va_S.rf
  have hl := lv_entry ([.ref h0, .int p1, .int p2]) (n := 3) (Nat.le_of_ble_eq_true rfl)
  rw [lg_entry_eq]
  generalize (lg_sl ([.ref h0, .int p1, .int p2]) ++ List.replicate (3 - (lg_sl ([.ref h0, .int p1, .int p2])).length) Slot.unset).toArray = ls at hl ⊢
  have hl : lv_has ls 3 [(0, .ref h0), (1, .int p1), (2, .int p2)] := hl
  refine lv_aload_n hx hb dX8_get_0 rfl (lv_at hl 0 rfl) ?_
  refine ty_get (E := []) (ws := ws) (D := D) (ci := 8) (C := RX8) (T := TX8) (N := 5) hx hb hts in_X8 hown hK hP hT h_h0 rfl 2 (by decide) (hts _ kl_RX8_22) (fun _ h9 => h9) rfl dX8_get_1 (fun _ hv_1 hf_2 => ?_)
  obtain ⟨a_3, n_4, rfl, ha_5⟩ := hv_1
  refine lv_aload_n hx hb dX8_get_4 rfl (lv_at hl 0 rfl) ?_
  refine lv_iload_n hx hb dX8_get_5 rfl (lv_at hl 1 rfl) ?_
  refine ty_ki (wr := []) (wc := ([] ++ ws)) (va_runV (As := [.int p1]) (rest := [.ref a_3]) ⟨hx, hb, hml, hown, hts⟩ (t_X8_placeOf l D ct S ws ph xx h0 p1 _ hT h_h0 hph hy1) (cm_V 1 hts kc_X8_placeOf ki_RX8 kl_RX8_32 kv_X8_placeOf kx_X8_placeOf kd_X8_placeOf ⟨Nat.le_of_ble_eq_true rfl, Nat.le_of_ble_eq_true rfl⟩) (ty_preV (wr := []) (E := []) (ws := ws) (ci := 8) hP hK hD hS hA hX hT rfl h_h0) rfl rfl hl.1 rfl (lv_room (Nat.le_of_ble_eq_true rfl)) dX8_get_6 ⟨Nat.le_of_ble_eq_true rfl, Nat.le_of_ble_eq_true rfl⟩) hP hD hS hA (fun r_6 u H locs hw_7 hP hD hS => ?_)
  obtain ⟨ws_8, rfl⟩ : ∃ z, z = u := ⟨_, rfl⟩
  have hT := hw_7
  have hP : va_P D vwCl ([] ++ ws_8) H := hP
  have hD : va_D A ([] ++ ws_8) := hD
  refine lv_iload_n hx hb dX8_get_9 rfl (lv_at hl 2 rfl) ?_
  refine lv_iadd hx hb dX8_get_10 ?_
  refine lv_topi (fun x_9 _ => ?_)
  refine ty_ki (wr := []) (wc := ([] ++ ws_8)) (va_runSN (As := [.ref a_3, .int x_9]) (rest := []) ⟨hx, hb, hml, hown, hts⟩ (t_X10_at l D ct S ws_8 ph xx a_3 n_4 x_9 _ hT ha_5 hph hy1) (cm_SN 2 hts kc_X10_at ki_RX10 kl_RX8_36 ks_X10_at kd_X10_at ⟨Nat.le_of_ble_eq_true rfl, Nat.le_of_ble_eq_true rfl⟩) (ty_preS (wr := []) (wc := ([] ++ ws_8)) hP hK hD hS hA hX) rfl rfl hl.1 rfl (lv_room (Nat.le_of_ble_eq_true rfl)) dX8_get_11 ⟨Nat.le_of_ble_eq_true rfl, Nat.le_of_ble_eq_true rfl⟩) hP hD hS hA (fun r_10 u H locs hw_11 hP hD hS => ?_)
  obtain ⟨ws_12, rfl⟩ : ∃ z, z = u := ⟨_, rfl⟩
  have hT := hw_11
  have hP : va_P D vwCl ([] ++ ws_12) H := hP
  have hD : va_D A ([] ++ ws_12) := hD
  exact W.iret (v := r_10) hx hb hr (fun t ht hW => ⟨⟨r_10, ws_12, rfl, hT, by rw [ht]; exact hP, by rw [hAe]; exact hD⟩, hS.F ht⟩) hS.2.2 dX8_get_14
theorem dX8_copyFrom_0 : decode cX8_copyFrom 0 = .ok (.aload_n 0, 1) := by decide +kernel
theorem dX8_copyFrom_1 : decode cX8_copyFrom 1 = .ok (.aload_n 1, 1) := by decide +kernel
theorem dX8_copyFrom_2 : decode cX8_copyFrom 2 = .ok (.getfield 26, 3) := by decide +kernel
theorem dX8_copyFrom_5 : decode cX8_copyFrom 5 = .ok (.putfield 26, 3) := by decide +kernel
theorem dX8_copyFrom_8 : decode cX8_copyFrom 8 = .ok (.aload_n 0, 1) := by decide +kernel
theorem dX8_copyFrom_9 : decode cX8_copyFrom 9 = .ok (.aload_n 1, 1) := by decide +kernel
theorem dX8_copyFrom_10 : decode cX8_copyFrom 10 = .ok (.getfield 29, 3) := by decide +kernel
theorem dX8_copyFrom_13 : decode cX8_copyFrom 13 = .ok (.putfield 29, 3) := by decide +kernel
theorem dX8_copyFrom_16 : decode cX8_copyFrom 16 = .ok (.aload_n 1, 1) := by decide +kernel
theorem dX8_copyFrom_17 : decode cX8_copyFrom 17 = .ok (.getfield 22, 3) := by decide +kernel
theorem dX8_copyFrom_20 : decode cX8_copyFrom 20 = .ok (.aload_n 0, 1) := by decide +kernel
theorem dX8_copyFrom_21 : decode cX8_copyFrom 21 = .ok (.getfield 22, 3) := by decide +kernel
theorem dX8_copyFrom_24 : decode cX8_copyFrom 24 = .ok (.invokestatic 42, 3) := by decide +kernel
theorem dX8_copyFrom_27 : decode cX8_copyFrom 27 = .ok (.return_, 1) := by decide +kernel
set_option maxRecDepth 100000 in
set_option maxHeartbeats 4000000 in
theorem t_X8_copyFrom (l : Launch) (D : va_G) (ct : Nat → ClassId) (S : ty_S) (ws : va_W) (ph : va_W → Prop) (xx : Nat → Nat → Nat → Prop) (h0 : Nat) (p1 : Nat) (sz : Nat) (hT : ty_V ct S ph ws) (h_h0 : S h0 = some (.inl 8)) (h_p1 : S p1 = some (.inl 8)) (hph : ty_C ph xx) (hy1 : ty_y1 xx) : Met l yX8_copyFrom (ws_ yX8_copyFrom cX8_copyFrom 2 none) ({ frames := 2, cells := 0, slots := 0, locals := 101 } : Room) (va_Pc [.ref h0, .ref p1] (cmP D ct sz ([] ++ ws))) (va_Qv (fun (u9 : va_W) => ty_V ct S ph u9) (cmB D ([] ++ ws) sz (fun (u9 : va_W) => ([] ++ u9))) (va_A ([] ++ ws) sz)) 0 0 (va_A ([] ++ ws) sz) := by
  refine Met.ofW (cc := cX8_copyFrom) (maxL := 2) (ret := none) (by decide) rfl ?_
  intro p e s m args below meth c s₁ B hml hv
  obtain ⟨rfl, hsz, hP, hK, hD0, hX⟩ := hv
  have hx := B.exec
  have hb := B.bytes
  have hr := B.returns
  have hts := ws_all (atoms_spec (ws := ws_ yX8_copyFrom cX8_copyFrom 2 none) B.pre)
  have hown : s.vm.findClass RX8 = some m.cls := findClass_of_methodNamed B.named
  have hlocks := B.notSynchronized
  subst hsz
  have hD := hD0.self (sz := s.heap.size)
  generalize hAe : va_A ([] ++ ws) s.heap.size = A at hD hX ⊢
  have hA : ∀ q : Nat, s.heap.size ≤ q → A q := fun q h => by rw [← hAe]; exact Or.inr h
  have hS : va_S A s.heap s.heap [] := va_S.rf
  have hl := lv_entry ([.ref h0, .ref p1]) (n := 2) (Nat.le_of_ble_eq_true rfl)
  rw [lg_entry_eq]
  generalize (lg_sl ([.ref h0, .ref p1]) ++ List.replicate (2 - (lg_sl ([.ref h0, .ref p1])).length) Slot.unset).toArray = ls at hl ⊢
  have hl : lv_has ls 2 [(0, .ref h0), (1, .ref p1)] := hl
  refine lv_aload_n hx hb dX8_copyFrom_0 rfl (lv_at hl 0 rfl) ?_
  refine lv_aload_n hx hb dX8_copyFrom_1 rfl (lv_at hl 1 rfl) ?_
  refine ty_get (E := []) (ws := ws) (D := D) (ci := 8) (C := RX8) (T := TX8) (N := 5) hx hb hts in_X8 hown hK hP hT h_p1 rfl 3 (by decide) (hts _ kl_RX8_26) (fun _ h9 => h9) rfl dX8_copyFrom_2 (fun _ hv_1 hf_2 => ?_)
  obtain ⟨x_3, rfl⟩ := hv_1
  refine ty_put (v := .int x_3) (ty := .int) (E := []) (ws := ws) (D := D) (ci := 8) (C := RX8) (T := TX8) (N := 5) hx hb hts in_X8 tyX8 tyX8_ok nmX8 hown hK hP hD hS hT h_h0 rfl 3 (by decide) (hts _ kl_RX8_26) (fun _ h9 => h9) rfl (by decide +kernel) rfl rfl rfl ⟨_, rfl⟩ dX8_copyFrom_5 hph (hy1 8 3 h0 rfl) (fun ws_4 H locs hT hP hD hS => ?_)
  refine lv_aload_n hx hb dX8_copyFrom_8 rfl (lv_at hl 0 rfl) ?_
  refine lv_aload_n hx hb dX8_copyFrom_9 rfl (lv_at hl 1 rfl) ?_
  refine ty_get (E := []) (ws := ws_4) (D := D) (ci := 8) (C := RX8) (T := TX8) (N := 5) hx hb hts in_X8 hown hK hP hT h_p1 rfl 4 (by decide) (hts _ kl_RX8_29) (fun _ h9 => h9) rfl dX8_copyFrom_10 (fun _ hv_5 hf_6 => ?_)
  obtain ⟨x_7, rfl⟩ := hv_5
  refine ty_put (v := .int x_7) (ty := .int) (E := []) (ws := ws_4) (D := D) (ci := 8) (C := RX8) (T := TX8) (N := 5) hx hb hts in_X8 tyX8 tyX8_ok nmX8 hown hK hP hD hS hT h_h0 rfl 4 (by decide) (hts _ kl_RX8_29) (fun _ h9 => h9) rfl (by decide +kernel) rfl rfl rfl ⟨_, rfl⟩ dX8_copyFrom_13 hph (hy1 8 4 h0 rfl) (fun ws_8 H locs hT hP hD hS => ?_)
  refine lv_aload_n hx hb dX8_copyFrom_16 rfl (lv_at hl 1 rfl) ?_
  refine ty_get (E := []) (ws := ws_8) (D := D) (ci := 8) (C := RX8) (T := TX8) (N := 5) hx hb hts in_X8 hown hK hP hT h_p1 rfl 2 (by decide) (hts _ kl_RX8_22) (fun _ h9 => h9) rfl dX8_copyFrom_17 (fun _ hv_9 hf_10 => ?_)
  obtain ⟨a_11, n_12, rfl, ha_13⟩ := hv_9
  refine lv_aload_n hx hb dX8_copyFrom_20 rfl (lv_at hl 0 rfl) ?_
  refine ty_get (E := []) (ws := ws_8) (D := D) (ci := 8) (C := RX8) (T := TX8) (N := 5) hx hb hts in_X8 hown hK hP hT h_h0 rfl 2 (by decide) (hts _ kl_RX8_22) (fun _ h9 => h9) rfl dX8_copyFrom_21 (fun _ hv_14 hf_15 => ?_)
  obtain ⟨a_16, n_17, rfl, ha_18⟩ := hv_14
  refine ty_kv (wr := []) (wc := ([] ++ ws_8)) (va_runSN (As := [.ref a_11, .ref a_16]) (rest := []) ⟨hx, hb, hml, hown, hts⟩ (t_X10_copyRow l D ct S ws_8 ph xx a_11 n_12 a_16 n_17 _ hT ha_13 ha_18 hph hy1) (cm_SN 2 hts kc_X10_copyRow ki_RX10 kl_RX8_42 ks_X10_copyRow kd_X10_copyRow ⟨Nat.le_of_ble_eq_true rfl, Nat.le_of_ble_eq_true rfl⟩) (ty_preS (wr := []) (wc := ([] ++ ws_8)) hP hK hD hS hA hX) rfl rfl hl.1 rfl (lv_room (Nat.le_of_ble_eq_true rfl)) dX8_copyFrom_24 ⟨Nat.le_of_ble_eq_true rfl, Nat.le_of_ble_eq_true rfl⟩) hP hD hS hA (fun u H locs hw_20 hP hD hS => ?_)
  obtain ⟨ws_21, rfl⟩ : ∃ z, z = u := ⟨_, rfl⟩
  have hT := hw_20
  have hP : va_P D vwCl ([] ++ ws_21) H := hP
  have hD : va_D A ([] ++ ws_21) := hD
  exact W.vret hx hb hr (fun t ht hW => ⟨⟨ws_21, rfl, hT, by rw [ht]; exact hP, by rw [hAe]; exact hD⟩, hS.F ht⟩) hS.2.2 dX8_copyFrom_27
theorem dX9_note_0 : decode cX9_note 0 = .ok (.aload_n 0, 1) := by decide +kernel
theorem dX9_note_1 : decode cX9_note 1 = .ok (.getfield 50, 3) := by decide +kernel
theorem dX9_note_4 : decode cX9_note 4 = .ok (.invokevirtual 90, 3) := by decide +kernel
theorem dX9_note_7 : decode cX9_note 7 = .ok (.aload_n 0, 1) := by decide +kernel
theorem dX9_note_8 : decode cX9_note 8 = .ok (.getfield 50, 3) := by decide +kernel
theorem dX9_note_11 : decode cX9_note 11 = .ok (.aload_n 0, 1) := by decide +kernel
theorem dX9_note_12 : decode cX9_note 12 = .ok (.getfield 50, 3) := by decide +kernel
theorem dX9_note_15 : decode cX9_note 15 = .ok (.getfield 93, 3) := by decide +kernel
theorem dX9_note_18 : decode cX9_note 18 = .ok (.iconst 1, 1) := by decide +kernel
theorem dX9_note_19 : decode cX9_note 19 = .ok (.isub, 1) := by decide +kernel
theorem dX9_note_20 : decode cX9_note 20 = .ok (.invokevirtual 96, 3) := by decide +kernel
theorem dX9_note_23 : decode cX9_note 23 = .ok (.istore 4, 2) := by decide +kernel
theorem dX9_note_25 : decode cX9_note 25 = .ok (.aload_n 0, 1) := by decide +kernel
theorem dX9_note_26 : decode cX9_note 26 = .ok (.getfield 50, 3) := by decide +kernel
theorem dX9_note_29 : decode cX9_note 29 = .ok (.getfield 100, 3) := by decide +kernel
theorem dX9_note_32 : decode cX9_note 32 = .ok (.iload 4, 2) := by decide +kernel
theorem dX9_note_34 : decode cX9_note 34 = .ok (.iconst 0, 1) := by decide +kernel
theorem dX9_note_35 : decode cX9_note 35 = .ok (.iadd, 1) := by decide +kernel
theorem dX9_note_36 : decode cX9_note 36 = .ok (.aload_n 0, 1) := by decide +kernel
theorem dX9_note_37 : decode cX9_note 37 = .ok (.getfield 53, 3) := by decide +kernel
theorem dX9_note_40 : decode cX9_note 40 = .ok (.invokestatic 104, 3) := by decide +kernel
theorem dX9_note_43 : decode cX9_note 43 = .ok (.aload_n 0, 1) := by decide +kernel
theorem dX9_note_44 : decode cX9_note 44 = .ok (.getfield 50, 3) := by decide +kernel
theorem dX9_note_47 : decode cX9_note 47 = .ok (.getfield 100, 3) := by decide +kernel
theorem dX9_note_50 : decode cX9_note 50 = .ok (.iload 4, 2) := by decide +kernel
theorem dX9_note_52 : decode cX9_note 52 = .ok (.iconst 1, 1) := by decide +kernel
theorem dX9_note_53 : decode cX9_note 53 = .ok (.iadd, 1) := by decide +kernel
theorem dX9_note_54 : decode cX9_note 54 = .ok (.iload_n 1, 1) := by decide +kernel
theorem dX9_note_55 : decode cX9_note 55 = .ok (.invokestatic 104, 3) := by decide +kernel
theorem dX9_note_58 : decode cX9_note 58 = .ok (.aload_n 0, 1) := by decide +kernel
theorem dX9_note_59 : decode cX9_note 59 = .ok (.getfield 50, 3) := by decide +kernel
theorem dX9_note_62 : decode cX9_note 62 = .ok (.getfield 100, 3) := by decide +kernel
theorem dX9_note_65 : decode cX9_note 65 = .ok (.iload 4, 2) := by decide +kernel
theorem dX9_note_67 : decode cX9_note 67 = .ok (.iconst 2, 1) := by decide +kernel
theorem dX9_note_68 : decode cX9_note 68 = .ok (.iadd, 1) := by decide +kernel
theorem dX9_note_69 : decode cX9_note 69 = .ok (.iload_n 2, 1) := by decide +kernel
theorem dX9_note_70 : decode cX9_note 70 = .ok (.invokestatic 104, 3) := by decide +kernel
theorem dX9_note_73 : decode cX9_note 73 = .ok (.aload_n 0, 1) := by decide +kernel
theorem dX9_note_74 : decode cX9_note 74 = .ok (.getfield 50, 3) := by decide +kernel
theorem dX9_note_77 : decode cX9_note 77 = .ok (.getfield 100, 3) := by decide +kernel
theorem dX9_note_80 : decode cX9_note 80 = .ok (.iload 4, 2) := by decide +kernel
theorem dX9_note_82 : decode cX9_note 82 = .ok (.iconst 3, 1) := by decide +kernel
theorem dX9_note_83 : decode cX9_note 83 = .ok (.iadd, 1) := by decide +kernel
theorem dX9_note_84 : decode cX9_note 84 = .ok (.iload_n 3, 1) := by decide +kernel
theorem dX9_note_85 : decode cX9_note 85 = .ok (.invokestatic 104, 3) := by decide +kernel
theorem dX9_note_88 : decode cX9_note 88 = .ok (.return_, 1) := by decide +kernel
set_option maxRecDepth 100000 in
set_option maxHeartbeats 4000000 in
theorem t_X9_note (l : Launch) (D : va_G) (ct : Nat → ClassId) (S : ty_S) (ws : va_W) (ph : va_W → Prop) (xx : Nat → Nat → Nat → Prop) (h0 : Nat) (p1 : Int32) (p2 : Int32) (p3 : Int32) (sz : Nat) (hT : ty_V ct S ph ws) (h_h0 : S h0 = some (.inl 9)) (hph : ty_C ph xx) (hy1 : ty_y1 xx) : Met l yX9_note (ws_ yX9_note cX9_note 5 none) ({ frames := 1, cells := 0, slots := 0, locals := 22 } : Room) (va_Pc [.ref h0, .int p1, .int p2, .int p3] (cmP D ct sz ([] ++ ws))) (va_Qv (fun (u9 : va_W) => ty_V ct S ph u9) (cmB D ([] ++ ws) sz (fun (u9 : va_W) => ([] ++ u9))) (va_A ([] ++ ws) sz)) 0 0 (va_A ([] ++ ws) sz) := by
  refine Met.ofW (cc := cX9_note) (maxL := 5) (ret := none) (by decide) rfl ?_
  intro p e s m args below meth c s₁ B hml hv
  obtain ⟨rfl, hsz, hP, hK, hD0, hX⟩ := hv
  have hx := B.exec
  have hb := B.bytes
  have hr := B.returns
  have hts := ws_all (atoms_spec (ws := ws_ yX9_note cX9_note 5 none) B.pre)
  have hown : s.vm.findClass RX9 = some m.cls := findClass_of_methodNamed B.named
  have hlocks := B.notSynchronized
  subst hsz
  have hD := hD0.self (sz := s.heap.size)
  generalize hAe : va_A ([] ++ ws) s.heap.size = A at hD hX ⊢
  have hA : ∀ q : Nat, s.heap.size ≤ q → A q := fun q h => by rw [← hAe]; exact Or.inr h
  have hS : va_S A s.heap s.heap [] := va_S.rf
  have hl := lv_entry ([.ref h0, .int p1, .int p2, .int p3]) (n := 5) (Nat.le_of_ble_eq_true rfl)
  rw [lg_entry_eq]
  generalize (lg_sl ([.ref h0, .int p1, .int p2, .int p3]) ++ List.replicate (5 - (lg_sl ([.ref h0, .int p1, .int p2, .int p3])).length) Slot.unset).toArray = ls at hl ⊢
  have hl : lv_has ls 5 [(0, .ref h0), (1, .int p1), (2, .int p2), (3, .int p3)] := hl
  refine lv_aload_n hx hb dX9_note_0 rfl (lv_at hl 0 rfl) ?_
  refine ty_get (E := []) (ws := ws) (D := D) (ci := 9) (C := RX9) (T := TX9) (N := 8) hx hb hts in_X9 hown hK hP hT h_h0 rfl 7 (by decide) (hts _ kl_RX9_50) (fun _ h9 => h9) rfl dX9_note_1 (fun _ hv_1 hf_2 => ?_)
  obtain ⟨a_3, rfl, ha_4⟩ := hv_1
  refine ty_kv (wr := []) (wc := ([] ++ ws)) (va_runVN (As := []) (rest := []) ⟨hx, hb, hml, hown, hts⟩ (t_X8_addRow l D ct S ws ph xx a_3 _ hT ha_4 hph hy1) (cm_VN 0 hts kc_X8_addRow ki_RX8 kl_RX9_90 kv_X8_addRow kx_X8_addRow kd_X8_addRow ⟨Nat.le_of_ble_eq_true rfl, Nat.le_of_ble_eq_true rfl⟩) (ty_preV (wr := []) (E := []) (ws := ws) (ci := 8) hP hK hD hS hA hX hT rfl ha_4) rfl rfl hl.1 rfl (lv_room (Nat.le_of_ble_eq_true rfl)) dX9_note_4 ⟨Nat.le_of_ble_eq_true rfl, Nat.le_of_ble_eq_true rfl⟩) hP hD hS hA (fun u H locs hw_6 hP hD hS => ?_)
  obtain ⟨ws_7, rfl⟩ : ∃ z, z = u := ⟨_, rfl⟩
  have hT := hw_6
  have hP : va_P D vwCl ([] ++ ws_7) H := hP
  have hD : va_D A ([] ++ ws_7) := hD
  refine lv_aload_n hx hb dX9_note_7 rfl (lv_at hl 0 rfl) ?_
  refine ty_get (E := []) (ws := ws_7) (D := D) (ci := 9) (C := RX9) (T := TX9) (N := 8) hx hb hts in_X9 hown hK hP hT h_h0 rfl 7 (by decide) (hts _ kl_RX9_50) (fun _ h9 => h9) rfl dX9_note_8 (fun _ hv_8 hf_9 => ?_)
  obtain ⟨a_10, rfl, ha_11⟩ := hv_8
  refine lv_aload_n hx hb dX9_note_11 rfl (lv_at hl 0 rfl) ?_
  refine ty_get (E := []) (ws := ws_7) (D := D) (ci := 9) (C := RX9) (T := TX9) (N := 8) hx hb hts in_X9 hown hK hP hT h_h0 rfl 7 (by decide) (hts _ kl_RX9_50) (fun _ h9 => h9) rfl dX9_note_12 (fun _ hv_12 hf_13 => ?_)
  obtain ⟨a_14, rfl, ha_15⟩ := hv_12
  refine ty_getN (E := []) (ws := ws_7) (D := D) (ci := 8) (C := RX8) (T := TX8) (N := 5) hx hb hts in_X8 hown hK hP hT ha_15 rfl 4 (by decide) (hts _ kl_RX9_93) (fun _ h9 => h9) rfl dX9_note_15 (fun _ hv_16 hf_17 => ?_)
  obtain ⟨x_18, rfl⟩ := hv_16
  refine lv_iconst (v := 1) hx hb dX9_note_18 (by decide) ?_
  refine lv_isub hx hb dX9_note_19 ?_
  refine lv_topi (fun x_19 _ => ?_)
  refine ty_ki (wr := []) (wc := ([] ++ ws_7)) (va_runVN (As := [.int x_19]) (rest := []) ⟨hx, hb, hml, hown, hts⟩ (t_X8_placeOf l D ct S ws_7 ph xx a_10 x_19 _ hT ha_11 hph hy1) (cm_VN 1 hts kc_X8_placeOf ki_RX8 kl_RX9_96 kv_X8_placeOf kx_X8_placeOf kd_X8_placeOf ⟨Nat.le_of_ble_eq_true rfl, Nat.le_of_ble_eq_true rfl⟩) (ty_preV (wr := []) (E := []) (ws := ws_7) (ci := 8) hP hK hD hS hA hX hT rfl ha_11) rfl rfl hl.1 rfl (lv_room (Nat.le_of_ble_eq_true rfl)) dX9_note_20 ⟨Nat.le_of_ble_eq_true rfl, Nat.le_of_ble_eq_true rfl⟩) hP hD hS hA (fun r_20 u H locs hw_21 hP hD hS => ?_)
  obtain ⟨ws_22, rfl⟩ : ∃ z, z = u := ⟨_, rfl⟩
  have hT := hw_21
  have hP : va_P D vwCl ([] ++ ws_22) H := hP
  have hD : va_D A ([] ++ ws_22) := hD
  refine lv_istore (lv' := [(4, .int r_20), (0, .ref h0), (1, .int p1), (2, .int p2), (3, .int p3)]) hx hb dX9_note_23 hl (by decide) rfl (fun ls hl => ?_)
  refine lv_aload_n hx hb dX9_note_25 rfl (lv_at hl 1 rfl) ?_
  refine ty_get (E := []) (ws := ws_22) (D := D) (ci := 9) (C := RX9) (T := TX9) (N := 8) hx hb hts in_X9 hown hK hP hT h_h0 rfl 7 (by decide) (hts _ kl_RX9_50) (fun _ h9 => h9) rfl dX9_note_26 (fun _ hv_23 hf_24 => ?_)
  obtain ⟨a_25, rfl, ha_26⟩ := hv_23
  refine ty_getN (E := []) (ws := ws_22) (D := D) (ci := 8) (C := RX8) (T := TX8) (N := 5) hx hb hts in_X8 hown hK hP hT ha_26 rfl 2 (by decide) (hts _ kl_RX9_100) (fun _ h9 => h9) rfl dX9_note_29 (fun _ hv_27 hf_28 => ?_)
  obtain ⟨a_29, n_30, rfl, ha_31⟩ := hv_27
  refine lv_iload hx hb dX9_note_32 (lv_at hl 0 rfl) ?_
  refine lv_iconst (v := 0) hx hb dX9_note_34 (by decide) ?_
  refine lv_iadd hx hb dX9_note_35 ?_
  refine lv_topi (fun x_32 _ => ?_)
  refine lv_aload_n hx hb dX9_note_36 rfl (lv_at hl 1 rfl) ?_
  refine ty_get (E := []) (ws := ws_22) (D := D) (ci := 9) (C := RX9) (T := TX9) (N := 8) hx hb hts in_X9 hown hK hP hT h_h0 rfl 0 (by decide) (hts _ kl_RX9_53) (fun _ h9 => h9) rfl dX9_note_37 (fun _ hv_33 hf_34 => ?_)
  obtain ⟨x_35, rfl⟩ := hv_33
  refine ty_kv (wr := []) (wc := ([] ++ ws_22)) (va_runSN (As := [.ref a_29, .int x_32, .int x_35]) (rest := []) ⟨hx, hb, hml, hown, hts⟩ (t_X10_put l D ct S ws_22 ph xx a_29 n_30 x_32 x_35 _ hT ha_31 hph hy1) (cm_SN 3 hts kc_X10_put ki_RX10 kl_RX9_104 ks_X10_put kd_X10_put ⟨Nat.le_of_ble_eq_true rfl, Nat.le_of_ble_eq_true rfl⟩) (ty_preS (wr := []) (wc := ([] ++ ws_22)) hP hK hD hS hA hX) rfl rfl hl.1 rfl (lv_room (Nat.le_of_ble_eq_true rfl)) dX9_note_40 ⟨Nat.le_of_ble_eq_true rfl, Nat.le_of_ble_eq_true rfl⟩) hP hD hS hA (fun u H locs hw_37 hP hD hS => ?_)
  obtain ⟨ws_38, rfl⟩ : ∃ z, z = u := ⟨_, rfl⟩
  obtain ⟨hT, hp_39⟩ := hw_37
  have hp_39 : ty_fdle ws_22 ws_38 := hp_39
  have hP : va_P D vwCl ([] ++ ws_38) H := hP
  have hD : va_D A ([] ++ ws_38) := hD
  refine lv_aload_n hx hb dX9_note_43 rfl (lv_at hl 1 rfl) ?_
  refine ty_get (E := []) (ws := ws_38) (D := D) (ci := 9) (C := RX9) (T := TX9) (N := 8) hx hb hts in_X9 hown hK hP hT h_h0 rfl 7 (by decide) (hts _ kl_RX9_50) (fun _ h9 => h9) rfl dX9_note_44 (fun _ hv_40 hf_41 => ?_)
  obtain ⟨a_42, rfl, ha_43⟩ := hv_40
  refine ty_getN (E := []) (ws := ws_38) (D := D) (ci := 8) (C := RX8) (T := TX8) (N := 5) hx hb hts in_X8 hown hK hP hT ha_43 rfl 2 (by decide) (hts _ kl_RX9_100) (fun _ h9 => h9) rfl dX9_note_47 (fun _ hv_44 hf_45 => ?_)
  obtain ⟨a_46, n_47, rfl, ha_48⟩ := hv_44
  refine lv_iload hx hb dX9_note_50 (lv_at hl 0 rfl) ?_
  refine lv_iconst (v := 1) hx hb dX9_note_52 (by decide) ?_
  refine lv_iadd hx hb dX9_note_53 ?_
  refine lv_topi (fun x_49 _ => ?_)
  refine lv_iload_n hx hb dX9_note_54 rfl (lv_at hl 2 rfl) ?_
  refine ty_kv (wr := []) (wc := ([] ++ ws_38)) (va_runSN (As := [.ref a_46, .int x_49, .int p1]) (rest := []) ⟨hx, hb, hml, hown, hts⟩ (t_X10_put l D ct S ws_38 ph xx a_46 n_47 x_49 p1 _ hT ha_48 hph hy1) (cm_SN 3 hts kc_X10_put ki_RX10 kl_RX9_104 ks_X10_put kd_X10_put ⟨Nat.le_of_ble_eq_true rfl, Nat.le_of_ble_eq_true rfl⟩) (ty_preS (wr := []) (wc := ([] ++ ws_38)) hP hK hD hS hA hX) rfl rfl hl.1 rfl (lv_room (Nat.le_of_ble_eq_true rfl)) dX9_note_55 ⟨Nat.le_of_ble_eq_true rfl, Nat.le_of_ble_eq_true rfl⟩) hP hD hS hA (fun u H locs hw_51 hP hD hS => ?_)
  obtain ⟨ws_52, rfl⟩ : ∃ z, z = u := ⟨_, rfl⟩
  obtain ⟨hT, hp_53⟩ := hw_51
  have hp_53 : ty_fdle ws_38 ws_52 := hp_53
  have hP : va_P D vwCl ([] ++ ws_52) H := hP
  have hD : va_D A ([] ++ ws_52) := hD
  refine lv_aload_n hx hb dX9_note_58 rfl (lv_at hl 1 rfl) ?_
  refine ty_get (E := []) (ws := ws_52) (D := D) (ci := 9) (C := RX9) (T := TX9) (N := 8) hx hb hts in_X9 hown hK hP hT h_h0 rfl 7 (by decide) (hts _ kl_RX9_50) (fun _ h9 => h9) rfl dX9_note_59 (fun _ hv_54 hf_55 => ?_)
  obtain ⟨a_56, rfl, ha_57⟩ := hv_54
  refine ty_getN (E := []) (ws := ws_52) (D := D) (ci := 8) (C := RX8) (T := TX8) (N := 5) hx hb hts in_X8 hown hK hP hT ha_57 rfl 2 (by decide) (hts _ kl_RX9_100) (fun _ h9 => h9) rfl dX9_note_62 (fun _ hv_58 hf_59 => ?_)
  obtain ⟨a_60, n_61, rfl, ha_62⟩ := hv_58
  refine lv_iload hx hb dX9_note_65 (lv_at hl 0 rfl) ?_
  refine lv_iconst (v := 2) hx hb dX9_note_67 (by decide) ?_
  refine lv_iadd hx hb dX9_note_68 ?_
  refine lv_topi (fun x_63 _ => ?_)
  refine lv_iload_n hx hb dX9_note_69 rfl (lv_at hl 3 rfl) ?_
  refine ty_kv (wr := []) (wc := ([] ++ ws_52)) (va_runSN (As := [.ref a_60, .int x_63, .int p2]) (rest := []) ⟨hx, hb, hml, hown, hts⟩ (t_X10_put l D ct S ws_52 ph xx a_60 n_61 x_63 p2 _ hT ha_62 hph hy1) (cm_SN 3 hts kc_X10_put ki_RX10 kl_RX9_104 ks_X10_put kd_X10_put ⟨Nat.le_of_ble_eq_true rfl, Nat.le_of_ble_eq_true rfl⟩) (ty_preS (wr := []) (wc := ([] ++ ws_52)) hP hK hD hS hA hX) rfl rfl hl.1 rfl (lv_room (Nat.le_of_ble_eq_true rfl)) dX9_note_70 ⟨Nat.le_of_ble_eq_true rfl, Nat.le_of_ble_eq_true rfl⟩) hP hD hS hA (fun u H locs hw_65 hP hD hS => ?_)
  obtain ⟨ws_66, rfl⟩ : ∃ z, z = u := ⟨_, rfl⟩
  obtain ⟨hT, hp_67⟩ := hw_65
  have hp_67 : ty_fdle ws_52 ws_66 := hp_67
  have hP : va_P D vwCl ([] ++ ws_66) H := hP
  have hD : va_D A ([] ++ ws_66) := hD
  refine lv_aload_n hx hb dX9_note_73 rfl (lv_at hl 1 rfl) ?_
  refine ty_get (E := []) (ws := ws_66) (D := D) (ci := 9) (C := RX9) (T := TX9) (N := 8) hx hb hts in_X9 hown hK hP hT h_h0 rfl 7 (by decide) (hts _ kl_RX9_50) (fun _ h9 => h9) rfl dX9_note_74 (fun _ hv_68 hf_69 => ?_)
  obtain ⟨a_70, rfl, ha_71⟩ := hv_68
  refine ty_getN (E := []) (ws := ws_66) (D := D) (ci := 8) (C := RX8) (T := TX8) (N := 5) hx hb hts in_X8 hown hK hP hT ha_71 rfl 2 (by decide) (hts _ kl_RX9_100) (fun _ h9 => h9) rfl dX9_note_77 (fun _ hv_72 hf_73 => ?_)
  obtain ⟨a_74, n_75, rfl, ha_76⟩ := hv_72
  refine lv_iload hx hb dX9_note_80 (lv_at hl 0 rfl) ?_
  refine lv_iconst (v := 3) hx hb dX9_note_82 (by decide) ?_
  refine lv_iadd hx hb dX9_note_83 ?_
  refine lv_topi (fun x_77 _ => ?_)
  refine lv_iload_n hx hb dX9_note_84 rfl (lv_at hl 4 rfl) ?_
  refine ty_kv (wr := []) (wc := ([] ++ ws_66)) (va_runSN (As := [.ref a_74, .int x_77, .int p3]) (rest := []) ⟨hx, hb, hml, hown, hts⟩ (t_X10_put l D ct S ws_66 ph xx a_74 n_75 x_77 p3 _ hT ha_76 hph hy1) (cm_SN 3 hts kc_X10_put ki_RX10 kl_RX9_104 ks_X10_put kd_X10_put ⟨Nat.le_of_ble_eq_true rfl, Nat.le_of_ble_eq_true rfl⟩) (ty_preS (wr := []) (wc := ([] ++ ws_66)) hP hK hD hS hA hX) rfl rfl hl.1 rfl (lv_room (Nat.le_of_ble_eq_true rfl)) dX9_note_85 ⟨Nat.le_of_ble_eq_true rfl, Nat.le_of_ble_eq_true rfl⟩) hP hD hS hA (fun u H locs hw_79 hP hD hS => ?_)
  obtain ⟨ws_80, rfl⟩ : ∃ z, z = u := ⟨_, rfl⟩
  obtain ⟨hT, hp_81⟩ := hw_79
  have hp_81 : ty_fdle ws_66 ws_80 := hp_81
  have hP : va_P D vwCl ([] ++ ws_80) H := hP
  have hD : va_D A ([] ++ ws_80) := hD
  exact W.vret hx hb hr (fun t ht hW => ⟨⟨ws_80, rfl, hT, by rw [ht]; exact hP, by rw [hAe]; exact hD⟩, hS.F ht⟩) hS.2.2 dX9_note_88
theorem dX9_recordCounts_0 : decode cX9_recordCounts 0 = .ok (.aload_n 0, 1) := by decide +kernel
theorem dX9_recordCounts_1 : decode cX9_recordCounts 1 = .ok (.getfield 46, 3) := by decide +kernel
theorem dX9_recordCounts_4 : decode cX9_recordCounts 4 = .ok (.iload_n 1, 1) := by decide +kernel
theorem dX9_recordCounts_5 : decode cX9_recordCounts 5 = .ok (.iconst 0, 1) := by decide +kernel
theorem dX9_recordCounts_6 : decode cX9_recordCounts 6 = .ok (.invokevirtual 108, 3) := by decide +kernel
theorem dX9_recordCounts_9 : decode cX9_recordCounts 9 = .ok (.iload_n 2, 1) := by decide +kernel
theorem dX9_recordCounts_10 : decode cX9_recordCounts 10 = .ok (.if_icmp .ne 20, 3) := by decide +kernel
theorem dX9_recordCounts_13 : decode cX9_recordCounts 13 = .ok (.aload_n 0, 1) := by decide +kernel
theorem dX9_recordCounts_14 : decode cX9_recordCounts 14 = .ok (.getfield 46, 3) := by decide +kernel
theorem dX9_recordCounts_17 : decode cX9_recordCounts 17 = .ok (.iload_n 1, 1) := by decide +kernel
theorem dX9_recordCounts_18 : decode cX9_recordCounts 18 = .ok (.iconst 4, 1) := by decide +kernel
theorem dX9_recordCounts_19 : decode cX9_recordCounts 19 = .ok (.invokevirtual 108, 3) := by decide +kernel
theorem dX9_recordCounts_22 : decode cX9_recordCounts 22 = .ok (.iconst 1, 1) := by decide +kernel
theorem dX9_recordCounts_23 : decode cX9_recordCounts 23 = .ok (.if_icmp .ne 7, 3) := by decide +kernel
theorem dX9_recordCounts_26 : decode cX9_recordCounts 26 = .ok (.iconst 1, 1) := by decide +kernel
theorem dX9_recordCounts_27 : decode cX9_recordCounts 27 = .ok (.goto 4, 3) := by decide +kernel
theorem dX9_recordCounts_30 : decode cX9_recordCounts 30 = .ok (.iconst 0, 1) := by decide +kernel
theorem dX9_recordCounts_31 : decode cX9_recordCounts 31 = .ok (.ireturn, 1) := by decide +kernel
set_option maxRecDepth 100000 in
set_option maxHeartbeats 4000000 in
theorem t_X9_recordCounts (l : Launch) (D : va_G) (ct : Nat → ClassId) (S : ty_S) (ws : va_W) (ph : va_W → Prop) (xx : Nat → Nat → Nat → Prop) (h0 : Nat) (p1 : Int32) (p2 : Int32) (sz : Nat) (hT : ty_V ct S ph ws) (h_h0 : S h0 = some (.inl 9)) (hph : ty_C ph xx) (hy1 : ty_y1 xx) : Met l yX9_recordCounts (ws_ yX9_recordCounts cX9_recordCounts 3 (some .boolean)) ({ frames := 2, cells := 0, slots := 0, locals := 44 } : Room) (va_Pc [.ref h0, .int p1, .int p2] (cmP D ct sz ([] ++ ws))) (va_Qi (fun (r : Int32) (u9 : va_W) => ty_V ct S ph u9) (cmB D ([] ++ ws) sz (fun (u9 : va_W) => ([] ++ u9))) (va_A ([] ++ ws) sz)) 0 0 (va_A ([] ++ ws) sz) := by
  refine Met.ofW (cc := cX9_recordCounts) (maxL := 3) (ret := (some .boolean)) (by decide) rfl ?_
  intro p e s m args below meth c s₁ B hml hv
  obtain ⟨rfl, hsz, hP, hK, hD0, hX⟩ := hv
  have hx := B.exec
  have hb := B.bytes
  have hr := B.returns
  have hts := ws_all (atoms_spec (ws := ws_ yX9_recordCounts cX9_recordCounts 3 (some .boolean)) B.pre)
  have hown : s.vm.findClass RX9 = some m.cls := findClass_of_methodNamed B.named
  have hlocks := B.notSynchronized
  subst hsz
  have hD := hD0.self (sz := s.heap.size)
  generalize hAe : va_A ([] ++ ws) s.heap.size = A at hD hX ⊢
  have hA : ∀ q : Nat, s.heap.size ≤ q → A q := fun q h => by rw [← hAe]; exact Or.inr h
  have hS : va_S A s.heap s.heap [] := va_S.rf
  have hl := lv_entry ([.ref h0, .int p1, .int p2]) (n := 3) (Nat.le_of_ble_eq_true rfl)
  rw [lg_entry_eq]
  generalize (lg_sl ([.ref h0, .int p1, .int p2]) ++ List.replicate (3 - (lg_sl ([.ref h0, .int p1, .int p2])).length) Slot.unset).toArray = ls at hl ⊢
  have hl : lv_has ls 3 [(0, .ref h0), (1, .int p1), (2, .int p2)] := hl
  refine lv_aload_n hx hb dX9_recordCounts_0 rfl (lv_at hl 0 rfl) ?_
  refine ty_get (E := []) (ws := ws) (D := D) (ci := 9) (C := RX9) (T := TX9) (N := 8) hx hb hts in_X9 hown hK hP hT h_h0 rfl 6 (by decide) (hts _ kl_RX9_46) (fun _ h9 => h9) rfl dX9_recordCounts_1 (fun _ hv_1 hf_2 => ?_)
  obtain ⟨a_3, rfl, ha_4⟩ := hv_1
  refine lv_iload_n hx hb dX9_recordCounts_4 rfl (lv_at hl 1 rfl) ?_
  refine lv_iconst (v := 0) hx hb dX9_recordCounts_5 (by decide) ?_
  refine ty_ki (wr := []) (wc := ([] ++ ws)) (va_runVN (As := [.int p1, .int 0]) (rest := []) ⟨hx, hb, hml, hown, hts⟩ (t_X8_get l D ct S ws ph xx a_3 p1 (0 : Int32) _ hT ha_4 hph hy1) (cm_VN 2 hts kc_X8_get ki_RX8 kl_RX9_108 kv_X8_get kx_X8_get kd_X8_get ⟨Nat.le_of_ble_eq_true rfl, Nat.le_of_ble_eq_true rfl⟩) (ty_preV (wr := []) (E := []) (ws := ws) (ci := 8) hP hK hD hS hA hX hT rfl ha_4) rfl rfl hl.1 rfl (lv_room (Nat.le_of_ble_eq_true rfl)) dX9_recordCounts_6 ⟨Nat.le_of_ble_eq_true rfl, Nat.le_of_ble_eq_true rfl⟩) hP hD hS hA (fun r_5 u H locs hw_6 hP hD hS => ?_)
  obtain ⟨ws_7, rfl⟩ : ∃ z, z = u := ⟨_, rfl⟩
  have hT := hw_6
  have hP : va_P D vwCl ([] ++ ws_7) H := hP
  have hD : va_D A ([] ++ ws_7) := hD
  refine lv_iload_n hx hb dX9_recordCounts_9 rfl (lv_at hl 2 rfl) ?_
  refine lv_icmp_ne (tgt := 30) hx hb dX9_recordCounts_10 (by decide) (fun hc_8 => ?_) (fun hc_8 => ?_)
  · refine lv_iconst (v := 0) hx hb dX9_recordCounts_30 (by decide) ?_
    exact W.zret (v := 0) hx hb hr (by decide) (fun t ht hW => ⟨⟨0, ws_7, rfl, hT, by rw [ht]; exact hP, by rw [hAe]; exact hD⟩, hS.F ht⟩) hS.2.2 dX9_recordCounts_31
  · refine lv_aload_n hx hb dX9_recordCounts_13 rfl (lv_at hl 0 rfl) ?_
    refine ty_get (E := []) (ws := ws_7) (D := D) (ci := 9) (C := RX9) (T := TX9) (N := 8) hx hb hts in_X9 hown hK hP hT h_h0 rfl 6 (by decide) (hts _ kl_RX9_46) (fun _ h9 => h9) rfl dX9_recordCounts_14 (fun _ hv_9 hf_10 => ?_)
    obtain ⟨a_11, rfl, ha_12⟩ := hv_9
    refine lv_iload_n hx hb dX9_recordCounts_17 rfl (lv_at hl 1 rfl) ?_
    refine lv_iconst (v := 4) hx hb dX9_recordCounts_18 (by decide) ?_
    refine ty_ki (wr := []) (wc := ([] ++ ws_7)) (va_runVN (As := [.int p1, .int 4]) (rest := []) ⟨hx, hb, hml, hown, hts⟩ (t_X8_get l D ct S ws_7 ph xx a_11 p1 (4 : Int32) _ hT ha_12 hph hy1) (cm_VN 2 hts kc_X8_get ki_RX8 kl_RX9_108 kv_X8_get kx_X8_get kd_X8_get ⟨Nat.le_of_ble_eq_true rfl, Nat.le_of_ble_eq_true rfl⟩) (ty_preV (wr := []) (E := []) (ws := ws_7) (ci := 8) hP hK hD hS hA hX hT rfl ha_12) rfl rfl hl.1 rfl (lv_room (Nat.le_of_ble_eq_true rfl)) dX9_recordCounts_19 ⟨Nat.le_of_ble_eq_true rfl, Nat.le_of_ble_eq_true rfl⟩) hP hD hS hA (fun r_13 u H locs hw_14 hP hD hS => ?_)
    obtain ⟨ws_15, rfl⟩ : ∃ z, z = u := ⟨_, rfl⟩
    have hT := hw_14
    have hP : va_P D vwCl ([] ++ ws_15) H := hP
    have hD : va_D A ([] ++ ws_15) := hD
    refine lv_iconst (v := 1) hx hb dX9_recordCounts_22 (by decide) ?_
    refine lv_icmp_ne (tgt := 30) hx hb dX9_recordCounts_23 (by decide) (fun hc_16 => ?_) (fun hc_16 => ?_)
    · refine lv_iconst (v := 0) hx hb dX9_recordCounts_30 (by decide) ?_
      exact W.zret (v := 0) hx hb hr (by decide) (fun t ht hW => ⟨⟨0, ws_15, rfl, hT, by rw [ht]; exact hP, by rw [hAe]; exact hD⟩, hS.F ht⟩) hS.2.2 dX9_recordCounts_31
    · refine lv_iconst (v := 1) hx hb dX9_recordCounts_26 (by decide) ?_
      refine lv_goto (tgt := 31) hx hb dX9_recordCounts_27 (by decide) ?_
      exact W.zret (v := 1) hx hb hr (by decide) (fun t ht hW => ⟨⟨1, ws_15, rfl, hT, by rw [ht]; exact hP, by rw [hAe]; exact hD⟩, hS.F ht⟩) hS.2.2 dX9_recordCounts_31
theorem dX10_count_0 : decode cX10_count 0 = .ok (.iload_n 1, 1) := by decide +kernel
theorem dX10_count_1 : decode cX10_count 1 = .ok (.iconst 0, 1) := by decide +kernel
theorem dX10_count_2 : decode cX10_count 2 = .ok (.iconst 2, 1) := by decide +kernel
theorem dX10_count_3 : decode cX10_count 3 = .ok (.invokestatic 81, 3) := by decide +kernel
theorem dX10_count_6 : decode cX10_count 6 = .ok (.iload_n 1, 1) := by decide +kernel
theorem dX10_count_7 : decode cX10_count 7 = .ok (.lookupswitch 44 #[(0, 25), (1, 33)], 25) := by decide +kernel
theorem dX10_count_32 : decode cX10_count 32 = .ok (.aload_n 0, 1) := by decide +kernel
theorem dX10_count_33 : decode cX10_count 33 = .ok (.getfield 10, 3) := by decide +kernel
theorem dX10_count_36 : decode cX10_count 36 = .ok (.getfield 64, 3) := by decide +kernel
theorem dX10_count_39 : decode cX10_count 39 = .ok (.ireturn, 1) := by decide +kernel
theorem dX10_count_40 : decode cX10_count 40 = .ok (.aload_n 0, 1) := by decide +kernel
theorem dX10_count_41 : decode cX10_count 41 = .ok (.getfield 10, 3) := by decide +kernel
theorem dX10_count_44 : decode cX10_count 44 = .ok (.getfield 85, 3) := by decide +kernel
theorem dX10_count_47 : decode cX10_count 47 = .ok (.getfield 89, 3) := by decide +kernel
theorem dX10_count_50 : decode cX10_count 50 = .ok (.ireturn, 1) := by decide +kernel
theorem dX10_count_51 : decode cX10_count 51 = .ok (.aload_n 0, 1) := by decide +kernel
theorem dX10_count_52 : decode cX10_count 52 = .ok (.getfield 10, 3) := by decide +kernel
theorem dX10_count_55 : decode cX10_count 55 = .ok (.getfield 67, 3) := by decide +kernel
theorem dX10_count_58 : decode cX10_count 58 = .ok (.getfield 94, 3) := by decide +kernel
theorem dX10_count_61 : decode cX10_count 61 = .ok (.ireturn, 1) := by decide +kernel
set_option maxRecDepth 100000 in
set_option maxHeartbeats 4000000 in
theorem t_X10_count (l : Launch) (hfl : l.stackTraces = false) (D : va_G) (ct : Nat → ClassId) (S : ty_S) (ws : va_W) (ph : va_W → Prop) (xx : Nat → Nat → Nat → Prop) (x : Nat) (w : Nat) (sp : Nat) (sv : Nat) (bu : Nat) (ns : Nat) (bl : Int32) (le : Int32) (p1 : Int32) (sz : Nat) (hT : ty_V ct S ph ws) (h_w : S w = some (.inl 9)) (h_sp : S sp = some (.inl 9)) (h_sv : S sv = some (.inr (4, ns))) (hph : ty_C ph xx) (hy1 : ty_y1 xx) : vx_Met l yX10_count (ws_ yX10_count cX10_count 2 (some .int)) ({ frames := 7, cells := 1, slots := 6, locals := 112 } : Room) (va_Pc [.ref x, .int p1] (cmP D ct sz ([(ty_XO x w sp sv bu bl le)] ++ ws))) (va_Qi (fun (r : Int32) (u9 : va_W) => ty_V ct S ph u9) (cmB D ([(ty_XO x w sp sv bu bl le)] ++ ws) sz (fun (u9 : va_W) => ([(ty_XO x w sp sv bu bl le)] ++ u9))) (va_A ([(ty_XO x w sp sv bu bl le)] ++ ws) sz)) (vx_X (fun (u9 : va_W) => ty_V ct S ph u9) (cmBY D ([(ty_XO x w sp sv bu bl le)] ++ ws) sz ["java/lang/IllegalArgumentException"] (fun (u9 : va_W) => ([(ty_XO x w sp sv bu bl le)] ++ u9))) (va_A ([(ty_XO x w sp sv bu bl le)] ++ ws) sz)) 1 6 (va_A ([(ty_XO x w sp sv bu bl le)] ++ ws) sz) := by
  refine vx_ofW (cc := cX10_count) (maxL := 2) (ret := (some .int)) (by decide) rfl ?_
  intro p e s m args below meth c s₁ B hml hex hv
  obtain ⟨rfl, hsz, hP, hK, hD0, hX⟩ := hv
  have hx := B.exec
  have hb := B.bytes
  have hr := B.returns
  have hts := ws_all (atoms_spec (ws := ws_ yX10_count cX10_count 2 (some .int)) B.pre)
  have hown : s.vm.findClass RX10 = some m.cls := findClass_of_methodNamed B.named
  have hlocks := B.notSynchronized
  subst hsz
  have hD := hD0.self (sz := s.heap.size)
  generalize hAe : va_A ([(ty_XO x w sp sv bu bl le)] ++ ws) s.heap.size = A at hD hX ⊢
  have hA : ∀ q : Nat, s.heap.size ≤ q → A q := fun q h => by rw [← hAe]; exact Or.inr h
  have hS : va_S A s.heap s.heap [] := va_S.rf
  have hl := lv_entry ([.ref x, .int p1]) (n := 2) (Nat.le_of_ble_eq_true rfl)
  rw [lg_entry_eq]
  generalize (lg_sl ([.ref x, .int p1]) ++ List.replicate (2 - (lg_sl ([.ref x, .int p1])).length) Slot.unset).toArray = ls at hl ⊢
  have hl : lv_has ls 2 [(0, .ref x), (1, .int p1)] := hl
  refine lv_iload_n hx hb dX10_count_0 rfl (lv_at hl 1 rfl) ?_
  refine lv_iconst (v := 0) hx hb dX10_count_1 (by decide) ?_
  refine lv_iconst (v := 2) hx hb dX10_count_2 (by decide) ?_
  refine ty_xv (wr := [(ty_XO x w sp sv bu bl le)]) (wc := ([] ++ ws)) (vx_runS (As := [.int p1, .int 0, .int 2]) (rest := []) ⟨hx, hb, hml, hown, hts⟩ (t_X10_needRange l hfl D ct S ws ph xx p1 (0 : Int32) (2 : Int32) _ hT hph hy1) (cm_S 3 hts kc_X10_needRange ki_RX10 kl_RX10_81 ks_X10_needRange kd_X10_needRange ⟨Nat.le_of_ble_eq_true rfl, Nat.le_of_ble_eq_true rfl⟩) (ty_preS (wr := [(ty_XO x w sp sv bu bl le)]) (wc := ([] ++ ws)) hP hK hD hS hA hX) rfl rfl hl.1 rfl (lv_room (Nat.le_of_ble_eq_true rfl)) dX10_count_3 ⟨Nat.le_of_ble_eq_true rfl, Nat.le_of_ble_eq_true rfl⟩) hP hD hS hA (fun E ce q9 u H locs hu hE hP hD hS hce hcv hcl => ?_) (fun u H locs hw_2 hP hD hS => ?_)
  · obtain ⟨ws_3, rfl⟩ : ∃ z, z = u := ⟨_, rfl⟩
    have hT := hu
    have hP : va_P D vwCl ([(ty_XO x w sp sv bu bl le)] ++ ws_3) H := hP
    have hD : va_D A ([(ty_XO x w sp sv bu bl le)] ++ ws_3) := hD
    exact vx_out (fun x hx => (hex x hx).elim) hlocks hce hcv hcl (fun t ht hW => ⟨ws_3, hT, ⟨hE, by rw [ht]; exact hP, by rw [hAe]; exact hD⟩, hS.F ht⟩) hS.2.2 (Nat.le_of_ble_eq_true rfl) (Nat.le_of_ble_eq_true rfl)
  · obtain ⟨ws_4, rfl⟩ : ∃ z, z = u := ⟨_, rfl⟩
    have hT := hw_2
    have hP : va_P D vwCl ([(ty_XO x w sp sv bu bl le)] ++ ws_4) H := hP
    have hD : va_D A ([(ty_XO x w sp sv bu bl le)] ++ ws_4) := hD
    refine W.widen (k := 1) (n := 6) (Nat.le_of_ble_eq_true rfl) (Nat.le_of_ble_eq_true rfl) ?_
    refine lv_iload_n hx hb dX10_count_6 rfl (lv_at hl 1 rfl) ?_
    by_cases hk_5 : p1 = 0
    · refine cm_cst hk_5 (lv_lookup (off := 25) (tgt := 32) hx hb dX10_count_7 (by decide) (by decide) (by decide) ?_)
      refine lv_aload_n hx hb dX10_count_32 rfl (lv_at hl 0 rfl) ?_
      refine va_get (v := .ref w) (D := D) (ci := 10) (C := RX10) (T := TX10) (N := 6) hx hb hts in_X10 hown hK hP 0 rfl rfl 0 (by decide) (hts _ kl_RX10_10) (fun _ h9 => h9) rfl dX10_count_33 ?_
      refine ty_getN (E := [(ty_XO x w sp sv bu bl le)]) (ws := ws_4) (D := D) (ci := 9) (C := RX9) (T := TX9) (N := 8) hx hb hts in_X9 hown hK hP hT h_w rfl 4 (by decide) (hts _ kl_RX10_64) (fun _ h9 => h9) rfl dX10_count_36 (fun _ hv_6 hf_7 => ?_)
      obtain ⟨x_8, rfl⟩ := hv_6
      refine vx_ret ?_
      exact W.iret (v := x_8) hx hb hr (fun t ht hW => ⟨⟨x_8, ws_4, rfl, hT, by rw [ht]; exact hP, by rw [hAe]; exact hD⟩, hS.F ht⟩) hS.2.2 dX10_count_39
    by_cases hk_9 : p1 = 1
    · refine cm_cst hk_9 (lv_lookup (off := 33) (tgt := 40) hx hb dX10_count_7 (by decide) (by decide) (by decide) ?_)
      refine lv_aload_n hx hb dX10_count_40 rfl (lv_at hl 0 rfl) ?_
      refine va_get (v := .ref w) (D := D) (ci := 10) (C := RX10) (T := TX10) (N := 6) hx hb hts in_X10 hown hK hP 0 rfl rfl 0 (by decide) (hts _ kl_RX10_10) (fun _ h9 => h9) rfl dX10_count_41 ?_
      refine ty_getN (E := [(ty_XO x w sp sv bu bl le)]) (ws := ws_4) (D := D) (ci := 9) (C := RX9) (T := TX9) (N := 8) hx hb hts in_X9 hown hK hP hT h_w rfl 3 (by decide) (hts _ kl_RX10_85) (fun _ h9 => h9) rfl dX10_count_44 (fun _ hv_10 hf_11 => ?_)
      obtain ⟨a_12, rfl, ha_13⟩ := hv_10
      refine ty_getN (E := [(ty_XO x w sp sv bu bl le)]) (ws := ws_4) (D := D) (ci := 5) (C := RX5) (T := TX5) (N := 5) hx hb hts in_X5 hown hK hP hT ha_13 rfl 0 (by decide) (hts _ kl_RX10_89) (fun _ h9 => h9) rfl dX10_count_47 (fun _ hv_14 hf_15 => ?_)
      obtain ⟨x_16, rfl, hz_17⟩ := hv_14
      refine vx_ret ?_
      exact W.iret (v := x_16) hx hb hr (fun t ht hW => ⟨⟨x_16, ws_4, rfl, hT, by rw [ht]; exact hP, by rw [hAe]; exact hD⟩, hS.F ht⟩) hS.2.2 dX10_count_50
    refine lv_lookup (off := 44) (tgt := 51) hx hb dX10_count_7 (by decide) (ty_lk01 hk_5 hk_9) (by decide) ?_
    refine lv_aload_n hx hb dX10_count_51 rfl (lv_at hl 0 rfl) ?_
    refine va_get (v := .ref w) (D := D) (ci := 10) (C := RX10) (T := TX10) (N := 6) hx hb hts in_X10 hown hK hP 0 rfl rfl 0 (by decide) (hts _ kl_RX10_10) (fun _ h9 => h9) rfl dX10_count_52 ?_
    refine ty_getN (E := [(ty_XO x w sp sv bu bl le)]) (ws := ws_4) (D := D) (ci := 9) (C := RX9) (T := TX9) (N := 8) hx hb hts in_X9 hown hK hP hT h_w rfl 2 (by decide) (hts _ kl_RX10_67) (fun _ h9 => h9) rfl dX10_count_55 (fun _ hv_18 hf_19 => ?_)
    obtain ⟨a_20, rfl, ha_21⟩ := hv_18
    refine ty_getN (E := [(ty_XO x w sp sv bu bl le)]) (ws := ws_4) (D := D) (ci := 2) (C := RX2) (T := TX2) (N := 4) hx hb hts in_X2 hown hK hP hT ha_21 rfl 0 (by decide) (hts _ kl_RX10_94) (fun _ h9 => h9) rfl dX10_count_58 (fun _ hv_22 hf_23 => ?_)
    obtain ⟨x_24, rfl⟩ := hv_22
    refine vx_ret ?_
    exact W.iret (v := x_24) hx hb hr (fun t ht hW => ⟨⟨x_24, ws_4, rfl, hT, by rw [ht]; exact hP, by rw [hAe]; exact hD⟩, hS.F ht⟩) hS.2.2 dX10_count_61
theorem dX10_setting_0 : decode cX10_setting 0 = .ok (.iload_n 1, 1) := by decide +kernel
theorem dX10_setting_1 : decode cX10_setting 1 = .ok (.iconst 0, 1) := by decide +kernel
theorem dX10_setting_2 : decode cX10_setting 2 = .ok (.bipush 7, 2) := by decide +kernel
theorem dX10_setting_4 : decode cX10_setting 4 = .ok (.invokestatic 81, 3) := by decide +kernel
theorem dX10_setting_7 : decode cX10_setting 7 = .ok (.aload_n 0, 1) := by decide +kernel
theorem dX10_setting_8 : decode cX10_setting 8 = .ok (.getfield 10, 3) := by decide +kernel
theorem dX10_setting_11 : decode cX10_setting 11 = .ok (.getfield 95, 3) := by decide +kernel
theorem dX10_setting_14 : decode cX10_setting 14 = .ok (.astore_n 2, 1) := by decide +kernel
theorem dX10_setting_15 : decode cX10_setting 15 = .ok (.iload_n 1, 1) := by decide +kernel
theorem dX10_setting_16 : decode cX10_setting 16 = .ok (.tableswitch 79 0 6 #[44, 49, 54, 59, 64, 69, 74], 44) := by decide +kernel
theorem dX10_setting_60 : decode cX10_setting 60 = .ok (.aload_n 2, 1) := by decide +kernel
theorem dX10_setting_61 : decode cX10_setting 61 = .ok (.getfield 99, 3) := by decide +kernel
theorem dX10_setting_64 : decode cX10_setting 64 = .ok (.ireturn, 1) := by decide +kernel
theorem dX10_setting_65 : decode cX10_setting 65 = .ok (.aload_n 2, 1) := by decide +kernel
theorem dX10_setting_66 : decode cX10_setting 66 = .ok (.getfield 104, 3) := by decide +kernel
theorem dX10_setting_69 : decode cX10_setting 69 = .ok (.ireturn, 1) := by decide +kernel
theorem dX10_setting_70 : decode cX10_setting 70 = .ok (.aload_n 2, 1) := by decide +kernel
theorem dX10_setting_71 : decode cX10_setting 71 = .ok (.getfield 107, 3) := by decide +kernel
theorem dX10_setting_74 : decode cX10_setting 74 = .ok (.ireturn, 1) := by decide +kernel
theorem dX10_setting_75 : decode cX10_setting 75 = .ok (.aload_n 2, 1) := by decide +kernel
theorem dX10_setting_76 : decode cX10_setting 76 = .ok (.getfield 110, 3) := by decide +kernel
theorem dX10_setting_79 : decode cX10_setting 79 = .ok (.ireturn, 1) := by decide +kernel
theorem dX10_setting_80 : decode cX10_setting 80 = .ok (.aload_n 2, 1) := by decide +kernel
theorem dX10_setting_81 : decode cX10_setting 81 = .ok (.getfield 113, 3) := by decide +kernel
theorem dX10_setting_84 : decode cX10_setting 84 = .ok (.ireturn, 1) := by decide +kernel
theorem dX10_setting_85 : decode cX10_setting 85 = .ok (.aload_n 2, 1) := by decide +kernel
theorem dX10_setting_86 : decode cX10_setting 86 = .ok (.getfield 116, 3) := by decide +kernel
theorem dX10_setting_89 : decode cX10_setting 89 = .ok (.ireturn, 1) := by decide +kernel
theorem dX10_setting_90 : decode cX10_setting 90 = .ok (.aload_n 2, 1) := by decide +kernel
theorem dX10_setting_91 : decode cX10_setting 91 = .ok (.getfield 119, 3) := by decide +kernel
theorem dX10_setting_94 : decode cX10_setting 94 = .ok (.ireturn, 1) := by decide +kernel
theorem dX10_setting_95 : decode cX10_setting 95 = .ok (.aload_n 2, 1) := by decide +kernel
theorem dX10_setting_96 : decode cX10_setting 96 = .ok (.getfield 122, 3) := by decide +kernel
theorem dX10_setting_99 : decode cX10_setting 99 = .ok (.ireturn, 1) := by decide +kernel
set_option maxRecDepth 100000 in
set_option maxHeartbeats 4000000 in
theorem t_X10_setting (l : Launch) (hfl : l.stackTraces = false) (D : va_G) (ct : Nat → ClassId) (S : ty_S) (ws : va_W) (ph : va_W → Prop) (xx : Nat → Nat → Nat → Prop) (x : Nat) (w : Nat) (sp : Nat) (sv : Nat) (bu : Nat) (ns : Nat) (bl : Int32) (le : Int32) (p1 : Int32) (sz : Nat) (hT : ty_V ct S ph ws) (h_w : S w = some (.inl 9)) (h_sp : S sp = some (.inl 9)) (h_sv : S sv = some (.inr (4, ns))) (hph : ty_C ph xx) (hy1 : ty_y1 xx) : vx_Met l yX10_setting (ws_ yX10_setting cX10_setting 3 (some .int)) ({ frames := 7, cells := 1, slots := 6, locals := 112 } : Room) (va_Pc [.ref x, .int p1] (cmP D ct sz ([(ty_XO x w sp sv bu bl le)] ++ ws))) (va_Qi (fun (r : Int32) (u9 : va_W) => ty_V ct S ph u9) (cmB D ([(ty_XO x w sp sv bu bl le)] ++ ws) sz (fun (u9 : va_W) => ([(ty_XO x w sp sv bu bl le)] ++ u9))) (va_A ([(ty_XO x w sp sv bu bl le)] ++ ws) sz)) (vx_X (fun (u9 : va_W) => ty_V ct S ph u9) (cmBY D ([(ty_XO x w sp sv bu bl le)] ++ ws) sz ["java/lang/IllegalArgumentException"] (fun (u9 : va_W) => ([(ty_XO x w sp sv bu bl le)] ++ u9))) (va_A ([(ty_XO x w sp sv bu bl le)] ++ ws) sz)) 1 6 (va_A ([(ty_XO x w sp sv bu bl le)] ++ ws) sz) := by
  refine vx_ofW (cc := cX10_setting) (maxL := 3) (ret := (some .int)) (by decide) rfl ?_
  intro p e s m args below meth c s₁ B hml hex hv
  obtain ⟨rfl, hsz, hP, hK, hD0, hX⟩ := hv
  have hx := B.exec
  have hb := B.bytes
  have hr := B.returns
  have hts := ws_all (atoms_spec (ws := ws_ yX10_setting cX10_setting 3 (some .int)) B.pre)
  have hown : s.vm.findClass RX10 = some m.cls := findClass_of_methodNamed B.named
  have hlocks := B.notSynchronized
  subst hsz
  have hD := hD0.self (sz := s.heap.size)
  generalize hAe : va_A ([(ty_XO x w sp sv bu bl le)] ++ ws) s.heap.size = A at hD hX ⊢
  have hA : ∀ q : Nat, s.heap.size ≤ q → A q := fun q h => by rw [← hAe]; exact Or.inr h
  have hS : va_S A s.heap s.heap [] := va_S.rf
  have hl := lv_entry ([.ref x, .int p1]) (n := 3) (Nat.le_of_ble_eq_true rfl)
  rw [lg_entry_eq]
  generalize (lg_sl ([.ref x, .int p1]) ++ List.replicate (3 - (lg_sl ([.ref x, .int p1])).length) Slot.unset).toArray = ls at hl ⊢
  have hl : lv_has ls 3 [(0, .ref x), (1, .int p1)] := hl
  refine lv_iload_n hx hb dX10_setting_0 rfl (lv_at hl 1 rfl) ?_
  refine lv_iconst (v := 0) hx hb dX10_setting_1 (by decide) ?_
  refine lv_bipush (v := 7) hx hb dX10_setting_2 (by decide) ?_
  refine ty_xv (wr := [(ty_XO x w sp sv bu bl le)]) (wc := ([] ++ ws)) (vx_runS (As := [.int p1, .int 0, .int 7]) (rest := []) ⟨hx, hb, hml, hown, hts⟩ (t_X10_needRange l hfl D ct S ws ph xx p1 (0 : Int32) (7 : Int32) _ hT hph hy1) (cm_S 3 hts kc_X10_needRange ki_RX10 kl_RX10_81 ks_X10_needRange kd_X10_needRange ⟨Nat.le_of_ble_eq_true rfl, Nat.le_of_ble_eq_true rfl⟩) (ty_preS (wr := [(ty_XO x w sp sv bu bl le)]) (wc := ([] ++ ws)) hP hK hD hS hA hX) rfl rfl hl.1 rfl (lv_room (Nat.le_of_ble_eq_true rfl)) dX10_setting_4 ⟨Nat.le_of_ble_eq_true rfl, Nat.le_of_ble_eq_true rfl⟩) hP hD hS hA (fun E ce q9 u H locs hu hE hP hD hS hce hcv hcl => ?_) (fun u H locs hw_2 hP hD hS => ?_)
  · obtain ⟨ws_3, rfl⟩ : ∃ z, z = u := ⟨_, rfl⟩
    have hT := hu
    have hP : va_P D vwCl ([(ty_XO x w sp sv bu bl le)] ++ ws_3) H := hP
    have hD : va_D A ([(ty_XO x w sp sv bu bl le)] ++ ws_3) := hD
    exact vx_out (fun x hx => (hex x hx).elim) hlocks hce hcv hcl (fun t ht hW => ⟨ws_3, hT, ⟨hE, by rw [ht]; exact hP, by rw [hAe]; exact hD⟩, hS.F ht⟩) hS.2.2 (Nat.le_of_ble_eq_true rfl) (Nat.le_of_ble_eq_true rfl)
  · obtain ⟨ws_4, rfl⟩ : ∃ z, z = u := ⟨_, rfl⟩
    have hT := hw_2
    have hP : va_P D vwCl ([(ty_XO x w sp sv bu bl le)] ++ ws_4) H := hP
    have hD : va_D A ([(ty_XO x w sp sv bu bl le)] ++ ws_4) := hD
    refine W.widen (k := 1) (n := 6) (Nat.le_of_ble_eq_true rfl) (Nat.le_of_ble_eq_true rfl) ?_
    refine lv_aload_n hx hb dX10_setting_7 rfl (lv_at hl 0 rfl) ?_
    refine va_get (v := .ref w) (D := D) (ci := 10) (C := RX10) (T := TX10) (N := 6) hx hb hts in_X10 hown hK hP 0 rfl rfl 0 (by decide) (hts _ kl_RX10_10) (fun _ h9 => h9) rfl dX10_setting_8 ?_
    refine ty_getN (E := [(ty_XO x w sp sv bu bl le)]) (ws := ws_4) (D := D) (ci := 9) (C := RX9) (T := TX9) (N := 8) hx hb hts in_X9 hown hK hP hT h_w rfl 1 (by decide) (hts _ kl_RX10_95) (fun _ h9 => h9) rfl dX10_setting_11 (fun _ hv_5 hf_6 => ?_)
    obtain ⟨a_7, rfl, ha_8⟩ := hv_5
    refine lv_astore_n (lv' := [(2, .ref a_7), (0, .ref x), (1, .int p1)]) hx hb dX10_setting_14 rfl hl (by decide) rfl (fun ls hl => ?_)
    refine lv_iload_n hx hb dX10_setting_15 rfl (lv_at hl 2 rfl) ?_
    by_cases hk_9 : p1 = 0
    · refine cm_cst hk_9 (lv_tableIn (off := 44) (tgt := 60) hx hb dX10_setting_16 (by decide) (by decide) (by decide) (by decide) ?_)
      refine lv_aload_n hx hb dX10_setting_60 rfl (lv_at hl 0 rfl) ?_
      refine ty_getN (E := [(ty_XO x w sp sv bu bl le)]) (ws := ws_4) (D := D) (ci := 7) (C := RX7) (T := TX7) (N := 12) hx hb hts in_X7 hown hK hP hT ha_8 rfl 0 (by decide) (hts _ kl_RX10_99) (fun _ h9 => h9) rfl dX10_setting_61 (fun _ hv_10 hf_11 => ?_)
      obtain ⟨x_12, rfl⟩ := hv_10
      refine vx_ret ?_
      exact W.iret (v := x_12) hx hb hr (fun t ht hW => ⟨⟨x_12, ws_4, rfl, hT, by rw [ht]; exact hP, by rw [hAe]; exact hD⟩, hS.F ht⟩) hS.2.2 dX10_setting_64
    by_cases hk_13 : p1 = 1
    · refine cm_cst hk_13 (lv_tableIn (off := 49) (tgt := 65) hx hb dX10_setting_16 (by decide) (by decide) (by decide) (by decide) ?_)
      refine lv_aload_n hx hb dX10_setting_65 rfl (lv_at hl 0 rfl) ?_
      refine ty_getN (E := [(ty_XO x w sp sv bu bl le)]) (ws := ws_4) (D := D) (ci := 7) (C := RX7) (T := TX7) (N := 12) hx hb hts in_X7 hown hK hP hT ha_8 rfl 1 (by decide) (hts _ kl_RX10_104) (fun _ h9 => h9) rfl dX10_setting_66 (fun _ hv_14 hf_15 => ?_)
      obtain ⟨x_16, rfl⟩ := hv_14
      refine vx_ret ?_
      exact W.iret (v := x_16) hx hb hr (fun t ht hW => ⟨⟨x_16, ws_4, rfl, hT, by rw [ht]; exact hP, by rw [hAe]; exact hD⟩, hS.F ht⟩) hS.2.2 dX10_setting_69
    by_cases hk_17 : p1 = 2
    · refine cm_cst hk_17 (lv_tableIn (off := 54) (tgt := 70) hx hb dX10_setting_16 (by decide) (by decide) (by decide) (by decide) ?_)
      refine lv_aload_n hx hb dX10_setting_70 rfl (lv_at hl 0 rfl) ?_
      refine ty_getN (E := [(ty_XO x w sp sv bu bl le)]) (ws := ws_4) (D := D) (ci := 7) (C := RX7) (T := TX7) (N := 12) hx hb hts in_X7 hown hK hP hT ha_8 rfl 2 (by decide) (hts _ kl_RX10_107) (fun _ h9 => h9) rfl dX10_setting_71 (fun _ hv_18 hf_19 => ?_)
      obtain ⟨x_20, rfl⟩ := hv_18
      refine vx_ret ?_
      exact W.iret (v := x_20) hx hb hr (fun t ht hW => ⟨⟨x_20, ws_4, rfl, hT, by rw [ht]; exact hP, by rw [hAe]; exact hD⟩, hS.F ht⟩) hS.2.2 dX10_setting_74
    by_cases hk_21 : p1 = 3
    · refine cm_cst hk_21 (lv_tableIn (off := 59) (tgt := 75) hx hb dX10_setting_16 (by decide) (by decide) (by decide) (by decide) ?_)
      refine lv_aload_n hx hb dX10_setting_75 rfl (lv_at hl 0 rfl) ?_
      refine ty_getN (E := [(ty_XO x w sp sv bu bl le)]) (ws := ws_4) (D := D) (ci := 7) (C := RX7) (T := TX7) (N := 12) hx hb hts in_X7 hown hK hP hT ha_8 rfl 3 (by decide) (hts _ kl_RX10_110) (fun _ h9 => h9) rfl dX10_setting_76 (fun _ hv_22 hf_23 => ?_)
      obtain ⟨x_24, rfl⟩ := hv_22
      refine vx_ret ?_
      exact W.iret (v := x_24) hx hb hr (fun t ht hW => ⟨⟨x_24, ws_4, rfl, hT, by rw [ht]; exact hP, by rw [hAe]; exact hD⟩, hS.F ht⟩) hS.2.2 dX10_setting_79
    by_cases hk_25 : p1 = 4
    · refine cm_cst hk_25 (lv_tableIn (off := 64) (tgt := 80) hx hb dX10_setting_16 (by decide) (by decide) (by decide) (by decide) ?_)
      refine lv_aload_n hx hb dX10_setting_80 rfl (lv_at hl 0 rfl) ?_
      refine ty_getN (E := [(ty_XO x w sp sv bu bl le)]) (ws := ws_4) (D := D) (ci := 7) (C := RX7) (T := TX7) (N := 12) hx hb hts in_X7 hown hK hP hT ha_8 rfl 4 (by decide) (hts _ kl_RX10_113) (fun _ h9 => h9) rfl dX10_setting_81 (fun _ hv_26 hf_27 => ?_)
      obtain ⟨x_28, rfl⟩ := hv_26
      refine vx_ret ?_
      exact W.iret (v := x_28) hx hb hr (fun t ht hW => ⟨⟨x_28, ws_4, rfl, hT, by rw [ht]; exact hP, by rw [hAe]; exact hD⟩, hS.F ht⟩) hS.2.2 dX10_setting_84
    by_cases hk_29 : p1 = 5
    · refine cm_cst hk_29 (lv_tableIn (off := 69) (tgt := 85) hx hb dX10_setting_16 (by decide) (by decide) (by decide) (by decide) ?_)
      refine lv_aload_n hx hb dX10_setting_85 rfl (lv_at hl 0 rfl) ?_
      refine ty_getN (E := [(ty_XO x w sp sv bu bl le)]) (ws := ws_4) (D := D) (ci := 7) (C := RX7) (T := TX7) (N := 12) hx hb hts in_X7 hown hK hP hT ha_8 rfl 5 (by decide) (hts _ kl_RX10_116) (fun _ h9 => h9) rfl dX10_setting_86 (fun _ hv_30 hf_31 => ?_)
      obtain ⟨x_32, rfl⟩ := hv_30
      refine vx_ret ?_
      exact W.iret (v := x_32) hx hb hr (fun t ht hW => ⟨⟨x_32, ws_4, rfl, hT, by rw [ht]; exact hP, by rw [hAe]; exact hD⟩, hS.F ht⟩) hS.2.2 dX10_setting_89
    by_cases hk_33 : p1 = 6
    · refine cm_cst hk_33 (lv_tableIn (off := 74) (tgt := 90) hx hb dX10_setting_16 (by decide) (by decide) (by decide) (by decide) ?_)
      refine lv_aload_n hx hb dX10_setting_90 rfl (lv_at hl 0 rfl) ?_
      refine ty_getN (E := [(ty_XO x w sp sv bu bl le)]) (ws := ws_4) (D := D) (ci := 7) (C := RX7) (T := TX7) (N := 12) hx hb hts in_X7 hown hK hP hT ha_8 rfl 6 (by decide) (hts _ kl_RX10_119) (fun _ h9 => h9) rfl dX10_setting_91 (fun _ hv_34 hf_35 => ?_)
      obtain ⟨x_36, rfl⟩ := hv_34
      refine vx_ret ?_
      exact W.iret (v := x_36) hx hb hr (fun t ht hW => ⟨⟨x_36, ws_4, rfl, hT, by rw [ht]; exact hP, by rw [hAe]; exact hD⟩, hS.F ht⟩) hS.2.2 dX10_setting_94
    refine lv_tableOut (tgt := 95) hx hb dX10_setting_16 (ty_sw0_6 hk_9 hk_13 hk_17 hk_21 hk_25 hk_29 hk_33) (by decide) ?_
    refine lv_aload_n hx hb dX10_setting_95 rfl (lv_at hl 0 rfl) ?_
    refine ty_getN (E := [(ty_XO x w sp sv bu bl le)]) (ws := ws_4) (D := D) (ci := 7) (C := RX7) (T := TX7) (N := 12) hx hb hts in_X7 hown hK hP hT ha_8 rfl 7 (by decide) (hts _ kl_RX10_122) (fun _ h9 => h9) rfl dX10_setting_96 (fun _ hv_37 hf_38 => ?_)
    obtain ⟨x_39, rfl⟩ := hv_37
    refine vx_ret ?_
    exact W.iret (v := x_39) hx hb hr (fun t ht hW => ⟨⟨x_39, ws_4, rfl, hT, by rw [ht]; exact hP, by rw [hAe]; exact hD⟩, hS.F ht⟩) hS.2.2 dX10_setting_99
theorem dX10_setAmbient_0 : decode cX10_setAmbient 0 = .ok (.iload_n 1, 1) := by decide +kernel
theorem dX10_setAmbient_1 : decode cX10_setAmbient 1 = .ok (.iconst 0, 1) := by decide +kernel
theorem dX10_setAmbient_2 : decode cX10_setAmbient 2 = .ok (.sipush 500, 3) := by decide +kernel
theorem dX10_setAmbient_5 : decode cX10_setAmbient 5 = .ok (.invokestatic 81, 3) := by decide +kernel
theorem dX10_setAmbient_8 : decode cX10_setAmbient 8 = .ok (.aload_n 0, 1) := by decide +kernel
theorem dX10_setAmbient_9 : decode cX10_setAmbient 9 = .ok (.getfield 10, 3) := by decide +kernel
theorem dX10_setAmbient_12 : decode cX10_setAmbient 12 = .ok (.getfield 95, 3) := by decide +kernel
theorem dX10_setAmbient_15 : decode cX10_setAmbient 15 = .ok (.getfield 122, 3) := by decide +kernel
theorem dX10_setAmbient_18 : decode cX10_setAmbient 18 = .ok (.istore_n 2, 1) := by decide +kernel
theorem dX10_setAmbient_19 : decode cX10_setAmbient 19 = .ok (.aload_n 0, 1) := by decide +kernel
theorem dX10_setAmbient_20 : decode cX10_setAmbient 20 = .ok (.getfield 10, 3) := by decide +kernel
theorem dX10_setAmbient_23 : decode cX10_setAmbient 23 = .ok (.getfield 95, 3) := by decide +kernel
theorem dX10_setAmbient_26 : decode cX10_setAmbient 26 = .ok (.iload_n 1, 1) := by decide +kernel
theorem dX10_setAmbient_27 : decode cX10_setAmbient 27 = .ok (.putfield 122, 3) := by decide +kernel
theorem dX10_setAmbient_30 : decode cX10_setAmbient 30 = .ok (.iload_n 2, 1) := by decide +kernel
theorem dX10_setAmbient_31 : decode cX10_setAmbient 31 = .ok (.ireturn, 1) := by decide +kernel
set_option maxRecDepth 100000 in
set_option maxHeartbeats 4000000 in
theorem t_X10_setAmbient (l : Launch) (hfl : l.stackTraces = false) (D : va_G) (ct : Nat → ClassId) (S : ty_S) (ws : va_W) (ph : va_W → Prop) (xx : Nat → Nat → Nat → Prop) (x : Nat) (w : Nat) (sp : Nat) (sv : Nat) (bu : Nat) (ns : Nat) (bl : Int32) (le : Int32) (p1 : Int32) (sz : Nat) (hT : ty_V ct S ph ws) (h_w : S w = some (.inl 9)) (h_sp : S sp = some (.inl 9)) (h_sv : S sv = some (.inr (4, ns))) (hph : ty_C ph xx) (hy1 : ty_y1 xx) (hy7 : ty_yc xx 7) : vx_Met l yX10_setAmbient (ws_ yX10_setAmbient cX10_setAmbient 3 (some .int)) ({ frames := 7, cells := 1, slots := 6, locals := 112 } : Room) (va_Pc [.ref x, .int p1] (cmP D ct sz ([(ty_XO x w sp sv bu bl le)] ++ ws))) (va_Qi (fun (r : Int32) (u9 : va_W) => ty_V ct S ph u9) (cmB D ([(ty_XO x w sp sv bu bl le)] ++ ws) sz (fun (u9 : va_W) => ([(ty_XO x w sp sv bu bl le)] ++ u9))) (va_A ([(ty_XO x w sp sv bu bl le)] ++ ws) sz)) (vx_X (fun (u9 : va_W) => ty_V ct S ph u9) (cmBY D ([(ty_XO x w sp sv bu bl le)] ++ ws) sz ["java/lang/IllegalArgumentException"] (fun (u9 : va_W) => ([(ty_XO x w sp sv bu bl le)] ++ u9))) (va_A ([(ty_XO x w sp sv bu bl le)] ++ ws) sz)) 1 6 (va_A ([(ty_XO x w sp sv bu bl le)] ++ ws) sz) := by
  refine vx_ofW (cc := cX10_setAmbient) (maxL := 3) (ret := (some .int)) (by decide) rfl ?_
  intro p e s m args below meth c s₁ B hml hex hv
  obtain ⟨rfl, hsz, hP, hK, hD0, hX⟩ := hv
  have hx := B.exec
  have hb := B.bytes
  have hr := B.returns
  have hts := ws_all (atoms_spec (ws := ws_ yX10_setAmbient cX10_setAmbient 3 (some .int)) B.pre)
  have hown : s.vm.findClass RX10 = some m.cls := findClass_of_methodNamed B.named
  have hlocks := B.notSynchronized
  subst hsz
  have hD := hD0.self (sz := s.heap.size)
  generalize hAe : va_A ([(ty_XO x w sp sv bu bl le)] ++ ws) s.heap.size = A at hD hX ⊢
  have hA : ∀ q : Nat, s.heap.size ≤ q → A q := fun q h => by rw [← hAe]; exact Or.inr h
  have hS : va_S A s.heap s.heap [] := va_S.rf
  have hl := lv_entry ([.ref x, .int p1]) (n := 3) (Nat.le_of_ble_eq_true rfl)
  rw [lg_entry_eq]
  generalize (lg_sl ([.ref x, .int p1]) ++ List.replicate (3 - (lg_sl ([.ref x, .int p1])).length) Slot.unset).toArray = ls at hl ⊢
  have hl : lv_has ls 3 [(0, .ref x), (1, .int p1)] := hl
  refine lv_iload_n hx hb dX10_setAmbient_0 rfl (lv_at hl 1 rfl) ?_
  refine lv_iconst (v := 0) hx hb dX10_setAmbient_1 (by decide) ?_
  refine lv_sipush (v := 500) hx hb dX10_setAmbient_2 (by decide) ?_
  refine ty_xv (wr := [(ty_XO x w sp sv bu bl le)]) (wc := ([] ++ ws)) (vx_runS (As := [.int p1, .int 0, .int 500]) (rest := []) ⟨hx, hb, hml, hown, hts⟩ (t_X10_needRange l hfl D ct S ws ph xx p1 (0 : Int32) (500 : Int32) _ hT hph hy1) (cm_S 3 hts kc_X10_needRange ki_RX10 kl_RX10_81 ks_X10_needRange kd_X10_needRange ⟨Nat.le_of_ble_eq_true rfl, Nat.le_of_ble_eq_true rfl⟩) (ty_preS (wr := [(ty_XO x w sp sv bu bl le)]) (wc := ([] ++ ws)) hP hK hD hS hA hX) rfl rfl hl.1 rfl (lv_room (Nat.le_of_ble_eq_true rfl)) dX10_setAmbient_5 ⟨Nat.le_of_ble_eq_true rfl, Nat.le_of_ble_eq_true rfl⟩) hP hD hS hA (fun E ce q9 u H locs hu hE hP hD hS hce hcv hcl => ?_) (fun u H locs hw_2 hP hD hS => ?_)
  · obtain ⟨ws_3, rfl⟩ : ∃ z, z = u := ⟨_, rfl⟩
    have hT := hu
    have hP : va_P D vwCl ([(ty_XO x w sp sv bu bl le)] ++ ws_3) H := hP
    have hD : va_D A ([(ty_XO x w sp sv bu bl le)] ++ ws_3) := hD
    exact vx_out (fun x hx => (hex x hx).elim) hlocks hce hcv hcl (fun t ht hW => ⟨ws_3, hT, ⟨hE, by rw [ht]; exact hP, by rw [hAe]; exact hD⟩, hS.F ht⟩) hS.2.2 (Nat.le_of_ble_eq_true rfl) (Nat.le_of_ble_eq_true rfl)
  · obtain ⟨ws_4, rfl⟩ : ∃ z, z = u := ⟨_, rfl⟩
    have hT := hw_2
    have hP : va_P D vwCl ([(ty_XO x w sp sv bu bl le)] ++ ws_4) H := hP
    have hD : va_D A ([(ty_XO x w sp sv bu bl le)] ++ ws_4) := hD
    refine W.widen (k := 1) (n := 6) (Nat.le_of_ble_eq_true rfl) (Nat.le_of_ble_eq_true rfl) ?_
    refine lv_aload_n hx hb dX10_setAmbient_8 rfl (lv_at hl 0 rfl) ?_
    refine va_get (v := .ref w) (D := D) (ci := 10) (C := RX10) (T := TX10) (N := 6) hx hb hts in_X10 hown hK hP 0 rfl rfl 0 (by decide) (hts _ kl_RX10_10) (fun _ h9 => h9) rfl dX10_setAmbient_9 ?_
    refine ty_getN (E := [(ty_XO x w sp sv bu bl le)]) (ws := ws_4) (D := D) (ci := 9) (C := RX9) (T := TX9) (N := 8) hx hb hts in_X9 hown hK hP hT h_w rfl 1 (by decide) (hts _ kl_RX10_95) (fun _ h9 => h9) rfl dX10_setAmbient_12 (fun _ hv_5 hf_6 => ?_)
    obtain ⟨a_7, rfl, ha_8⟩ := hv_5
    refine ty_getN (E := [(ty_XO x w sp sv bu bl le)]) (ws := ws_4) (D := D) (ci := 7) (C := RX7) (T := TX7) (N := 12) hx hb hts in_X7 hown hK hP hT ha_8 rfl 7 (by decide) (hts _ kl_RX10_122) (fun _ h9 => h9) rfl dX10_setAmbient_15 (fun _ hv_9 hf_10 => ?_)
    obtain ⟨x_11, rfl⟩ := hv_9
    refine lv_istore_n (lv' := [(2, .int x_11), (0, .ref x), (1, .int p1)]) hx hb dX10_setAmbient_18 rfl hl (by decide) rfl (fun ls hl => ?_)
    refine lv_aload_n hx hb dX10_setAmbient_19 rfl (lv_at hl 1 rfl) ?_
    refine va_get (v := .ref w) (D := D) (ci := 10) (C := RX10) (T := TX10) (N := 6) hx hb hts in_X10 hown hK hP 0 rfl rfl 0 (by decide) (hts _ kl_RX10_10) (fun _ h9 => h9) rfl dX10_setAmbient_20 ?_
    refine ty_getN (E := [(ty_XO x w sp sv bu bl le)]) (ws := ws_4) (D := D) (ci := 9) (C := RX9) (T := TX9) (N := 8) hx hb hts in_X9 hown hK hP hT h_w rfl 1 (by decide) (hts _ kl_RX10_95) (fun _ h9 => h9) rfl dX10_setAmbient_23 (fun _ hv_12 hf_13 => ?_)
    obtain ⟨a_14, rfl, ha_15⟩ := hv_12
    refine lv_iload_n hx hb dX10_setAmbient_26 rfl (lv_at hl 2 rfl) ?_
    refine ty_putN (v := .int p1) (ty := .int) (E := [(ty_XO x w sp sv bu bl le)]) (ws := ws_4) (D := D) (ci := 7) (C := RX7) (T := TX7) (N := 12) hx hb hts in_X7 tyX7 tyX7_ok nmX7 hown hK hP hD hS hT ha_15 rfl 7 (by decide) (hts _ kl_RX10_122) (fun _ h9 => h9) rfl (by decide +kernel) rfl rfl rfl ⟨_, rfl⟩ dX10_setAmbient_27 hph (hy7 7 a_14) (fun ws_16 H locs hT hP hD hS => ?_)
    refine lv_iload_n hx hb dX10_setAmbient_30 rfl (lv_at hl 0 rfl) ?_
    refine vx_ret ?_
    exact W.iret (v := x_11) hx hb hr (fun t ht hW => ⟨⟨x_11, ws_16, rfl, hT, by rw [ht]; exact hP, by rw [hAe]; exact hD⟩, hS.F ht⟩) hS.2.2 dX10_setAmbient_31
theorem dX10_setLimits_0 : decode cX10_setLimits 0 = .ok (.iload_n 1, 1) := by decide +kernel
theorem dX10_setLimits_1 : decode cX10_setLimits 1 = .ok (.iconst 0, 1) := by decide +kernel
theorem dX10_setLimits_2 : decode cX10_setLimits 2 = .ok (.sipush 5000, 3) := by decide +kernel
theorem dX10_setLimits_5 : decode cX10_setLimits 5 = .ok (.invokestatic 81, 3) := by decide +kernel
theorem dX10_setLimits_8 : decode cX10_setLimits 8 = .ok (.iload_n 2, 1) := by decide +kernel
theorem dX10_setLimits_9 : decode cX10_setLimits 9 = .ok (.iload_n 1, 1) := by decide +kernel
theorem dX10_setLimits_10 : decode cX10_setLimits 10 = .ok (.sipush 5000, 3) := by decide +kernel
theorem dX10_setLimits_13 : decode cX10_setLimits 13 = .ok (.invokestatic 81, 3) := by decide +kernel
theorem dX10_setLimits_16 : decode cX10_setLimits 16 = .ok (.aload_n 0, 1) := by decide +kernel
theorem dX10_setLimits_17 : decode cX10_setLimits 17 = .ok (.getfield 10, 3) := by decide +kernel
theorem dX10_setLimits_20 : decode cX10_setLimits 20 = .ok (.getfield 95, 3) := by decide +kernel
theorem dX10_setLimits_23 : decode cX10_setLimits 23 = .ok (.iload_n 1, 1) := by decide +kernel
theorem dX10_setLimits_24 : decode cX10_setLimits 24 = .ok (.putfield 113, 3) := by decide +kernel
theorem dX10_setLimits_27 : decode cX10_setLimits 27 = .ok (.aload_n 0, 1) := by decide +kernel
theorem dX10_setLimits_28 : decode cX10_setLimits 28 = .ok (.getfield 10, 3) := by decide +kernel
theorem dX10_setLimits_31 : decode cX10_setLimits 31 = .ok (.getfield 95, 3) := by decide +kernel
theorem dX10_setLimits_34 : decode cX10_setLimits 34 = .ok (.iload_n 2, 1) := by decide +kernel
theorem dX10_setLimits_35 : decode cX10_setLimits 35 = .ok (.putfield 116, 3) := by decide +kernel
theorem dX10_setLimits_38 : decode cX10_setLimits 38 = .ok (.iconst 0, 1) := by decide +kernel
theorem dX10_setLimits_39 : decode cX10_setLimits 39 = .ok (.istore_n 3, 1) := by decide +kernel
theorem dX10_setLimits_40 : decode cX10_setLimits 40 = .ok (.iconst 0, 1) := by decide +kernel
theorem dX10_setLimits_41 : decode cX10_setLimits 41 = .ok (.istore 4, 2) := by decide +kernel
theorem dX10_setLimits_43 : decode cX10_setLimits 43 = .ok (.iload 4, 2) := by decide +kernel
theorem dX10_setLimits_45 : decode cX10_setLimits 45 = .ok (.aload_n 0, 1) := by decide +kernel
theorem dX10_setLimits_46 : decode cX10_setLimits 46 = .ok (.getfield 10, 3) := by decide +kernel
theorem dX10_setLimits_49 : decode cX10_setLimits 49 = .ok (.getfield 64, 3) := by decide +kernel
theorem dX10_setLimits_52 : decode cX10_setLimits 52 = .ok (.if_icmp .ge 61, 3) := by decide +kernel
theorem dX10_setLimits_55 : decode cX10_setLimits 55 = .ok (.aload_n 0, 1) := by decide +kernel
theorem dX10_setLimits_56 : decode cX10_setLimits 56 = .ok (.getfield 10, 3) := by decide +kernel
theorem dX10_setLimits_59 : decode cX10_setLimits 59 = .ok (.iload 4, 2) := by decide +kernel
theorem dX10_setLimits_61 : decode cX10_setLimits 61 = .ok (.invokevirtual 125, 3) := by decide +kernel
theorem dX10_setLimits_64 : decode cX10_setLimits 64 = .ok (.astore 5, 2) := by decide +kernel
theorem dX10_setLimits_66 : decode cX10_setLimits 66 = .ok (.aload 5, 2) := by decide +kernel
theorem dX10_setLimits_68 : decode cX10_setLimits 68 = .ok (.ifnull 39, 3) := by decide +kernel
theorem dX10_setLimits_71 : decode cX10_setLimits 71 = .ok (.aload 5, 2) := by decide +kernel
theorem dX10_setLimits_73 : decode cX10_setLimits 73 = .ok (.getfield 129, 3) := by decide +kernel
theorem dX10_setLimits_76 : decode cX10_setLimits 76 = .ok (.iconst 1, 1) := by decide +kernel
theorem dX10_setLimits_77 : decode cX10_setLimits 77 = .ok (.if_icmp .ne 30, 3) := by decide +kernel
theorem dX10_setLimits_80 : decode cX10_setLimits 80 = .ok (.aload 5, 2) := by decide +kernel
theorem dX10_setLimits_82 : decode cX10_setLimits 82 = .ok (.getfield 134, 3) := by decide +kernel
theorem dX10_setLimits_85 : decode cX10_setLimits 85 = .ok (.getfield 138, 3) := by decide +kernel
theorem dX10_setLimits_88 : decode cX10_setLimits 88 = .ok (.iload_n 1, 1) := by decide +kernel
theorem dX10_setLimits_89 : decode cX10_setLimits 89 = .ok (.if_icmp .lt 15, 3) := by decide +kernel
theorem dX10_setLimits_92 : decode cX10_setLimits 92 = .ok (.aload 5, 2) := by decide +kernel
theorem dX10_setLimits_94 : decode cX10_setLimits 94 = .ok (.getfield 134, 3) := by decide +kernel
theorem dX10_setLimits_97 : decode cX10_setLimits 97 = .ok (.getfield 138, 3) := by decide +kernel
theorem dX10_setLimits_100 : decode cX10_setLimits 100 = .ok (.iload_n 2, 1) := by decide +kernel
theorem dX10_setLimits_101 : decode cX10_setLimits 101 = .ok (.if_icmp .le 6, 3) := by decide +kernel
theorem dX10_setLimits_104 : decode cX10_setLimits 104 = .ok (.iinc 3 1, 3) := by decide +kernel
theorem dX10_setLimits_107 : decode cX10_setLimits 107 = .ok (.iinc 4 1, 3) := by decide +kernel
theorem dX10_setLimits_110 : decode cX10_setLimits 110 = .ok (.goto (-67), 3) := by decide +kernel
theorem dX10_setLimits_113 : decode cX10_setLimits 113 = .ok (.iload_n 3, 1) := by decide +kernel
theorem dX10_setLimits_114 : decode cX10_setLimits 114 = .ok (.ireturn, 1) := by decide +kernel
set_option maxRecDepth 100000 in
set_option maxHeartbeats 4000000 in
theorem t_X10_setLimits (l : Launch) (hfl : l.stackTraces = false) (D : va_G) (ct : Nat → ClassId) (S : ty_S) (ws : va_W) (ph : va_W → Prop) (xx : Nat → Nat → Nat → Prop) (x : Nat) (w : Nat) (sp : Nat) (sv : Nat) (bu : Nat) (ns : Nat) (bl : Int32) (le : Int32) (p1 : Int32) (p2 : Int32) (sz : Nat) (hT : ty_V ct S ph ws) (h_w : S w = some (.inl 9)) (h_sp : S sp = some (.inl 9)) (h_sv : S sv = some (.inr (4, ns))) (hph : ty_C ph xx) (hy1 : ty_y1 xx) (hy7 : ty_yc xx 7) : vx_Met l yX10_setLimits (ws_ yX10_setLimits cX10_setLimits 6 (some .int)) ({ frames := 7, cells := 2, slots := 12, locals := 112 } : Room) (va_Pc [.ref x, .int p1, .int p2] (cmP D ct sz ([(ty_XO x w sp sv bu bl le)] ++ ws))) (va_Qi (fun (r : Int32) (u9 : va_W) => ty_V ct S ph u9) (cmB D ([(ty_XO x w sp sv bu bl le)] ++ ws) sz (fun (u9 : va_W) => ([(ty_XO x w sp sv bu bl le)] ++ u9))) (va_A ([(ty_XO x w sp sv bu bl le)] ++ ws) sz)) (vx_X (fun (u9 : va_W) => ty_V ct S ph u9) (cmBY D ([(ty_XO x w sp sv bu bl le)] ++ ws) sz ["java/lang/IllegalArgumentException"] (fun (u9 : va_W) => ([(ty_XO x w sp sv bu bl le)] ++ u9))) (va_A ([(ty_XO x w sp sv bu bl le)] ++ ws) sz)) 2 12 (va_A ([(ty_XO x w sp sv bu bl le)] ++ ws) sz) := by
  refine vx_ofW (cc := cX10_setLimits) (maxL := 6) (ret := (some .int)) (by decide) rfl ?_
  intro p e s m args below meth c s₁ B hml hex hv
  obtain ⟨rfl, hsz, hP, hK, hD0, hX⟩ := hv
  have hx := B.exec
  have hb := B.bytes
  have hr := B.returns
  have hts := ws_all (atoms_spec (ws := ws_ yX10_setLimits cX10_setLimits 6 (some .int)) B.pre)
  have hown : s.vm.findClass RX10 = some m.cls := findClass_of_methodNamed B.named
  have hlocks := B.notSynchronized
  subst hsz
  have hD := hD0.self (sz := s.heap.size)
  generalize hAe : va_A ([(ty_XO x w sp sv bu bl le)] ++ ws) s.heap.size = A at hD hX ⊢
  have hA : ∀ q : Nat, s.heap.size ≤ q → A q := fun q h => by rw [← hAe]; exact Or.inr h
  have hS : va_S A s.heap s.heap [] := va_S.rf
  have hl := lv_entry ([.ref x, .int p1, .int p2]) (n := 6) (Nat.le_of_ble_eq_true rfl)
  rw [lg_entry_eq]
  generalize (lg_sl ([.ref x, .int p1, .int p2]) ++ List.replicate (6 - (lg_sl ([.ref x, .int p1, .int p2])).length) Slot.unset).toArray = ls at hl ⊢
  have hl : lv_has ls 6 [(0, .ref x), (1, .int p1), (2, .int p2)] := hl
  refine lv_iload_n hx hb dX10_setLimits_0 rfl (lv_at hl 1 rfl) ?_
  refine lv_iconst (v := 0) hx hb dX10_setLimits_1 (by decide) ?_
  refine lv_sipush (v := 5000) hx hb dX10_setLimits_2 (by decide) ?_
  refine ty_xv (wr := [(ty_XO x w sp sv bu bl le)]) (wc := ([] ++ ws)) (vx_runS (As := [.int p1, .int 0, .int 5000]) (rest := []) ⟨hx, hb, hml, hown, hts⟩ (t_X10_needRange l hfl D ct S ws ph xx p1 (0 : Int32) (5000 : Int32) _ hT hph hy1) (cm_S 3 hts kc_X10_needRange ki_RX10 kl_RX10_81 ks_X10_needRange kd_X10_needRange ⟨Nat.le_of_ble_eq_true rfl, Nat.le_of_ble_eq_true rfl⟩) (ty_preS (wr := [(ty_XO x w sp sv bu bl le)]) (wc := ([] ++ ws)) hP hK hD hS hA hX) rfl rfl hl.1 rfl (lv_room (Nat.le_of_ble_eq_true rfl)) dX10_setLimits_5 ⟨Nat.le_of_ble_eq_true rfl, Nat.le_of_ble_eq_true rfl⟩) hP hD hS hA (fun E ce q9 u H locs hu hE hP hD hS hce hcv hcl => ?_) (fun u H locs hw_2 hP hD hS => ?_)
  · obtain ⟨ws_3, rfl⟩ : ∃ z, z = u := ⟨_, rfl⟩
    have hT := hu
    have hP : va_P D vwCl ([(ty_XO x w sp sv bu bl le)] ++ ws_3) H := hP
    have hD : va_D A ([(ty_XO x w sp sv bu bl le)] ++ ws_3) := hD
    exact vx_out (fun x hx => (hex x hx).elim) hlocks hce hcv hcl (fun t ht hW => ⟨ws_3, hT, ⟨hE, by rw [ht]; exact hP, by rw [hAe]; exact hD⟩, hS.F ht⟩) hS.2.2 (Nat.le_of_ble_eq_true rfl) (Nat.le_of_ble_eq_true rfl)
  · obtain ⟨ws_4, rfl⟩ : ∃ z, z = u := ⟨_, rfl⟩
    have hT := hw_2
    have hP : va_P D vwCl ([(ty_XO x w sp sv bu bl le)] ++ ws_4) H := hP
    have hD : va_D A ([(ty_XO x w sp sv bu bl le)] ++ ws_4) := hD
    refine W.widen (k := 1) (n := 6) (Nat.le_of_ble_eq_true rfl) (Nat.le_of_ble_eq_true rfl) ?_
    refine lv_iload_n hx hb dX10_setLimits_8 rfl (lv_at hl 2 rfl) ?_
    refine lv_iload_n hx hb dX10_setLimits_9 rfl (lv_at hl 1 rfl) ?_
    refine lv_sipush (v := 5000) hx hb dX10_setLimits_10 (by decide) ?_
    refine ty_xv (wr := [(ty_XO x w sp sv bu bl le)]) (wc := ([] ++ ws_4)) (vx_runS (As := [.int p2, .int p1, .int 5000]) (rest := []) ⟨hx, hb, hml, hown, hts⟩ (t_X10_needRange l hfl D ct S ws_4 ph xx p2 p1 (5000 : Int32) _ hT hph hy1) (cm_S 3 hts kc_X10_needRange ki_RX10 kl_RX10_81 ks_X10_needRange kd_X10_needRange ⟨Nat.le_of_ble_eq_true rfl, Nat.le_of_ble_eq_true rfl⟩) (ty_preS (wr := [(ty_XO x w sp sv bu bl le)]) (wc := ([] ++ ws_4)) hP hK hD hS hA hX) rfl rfl hl.1 rfl (lv_room (Nat.le_of_ble_eq_true rfl)) dX10_setLimits_13 ⟨Nat.le_of_ble_eq_true rfl, Nat.le_of_ble_eq_true rfl⟩) hP hD hS hA (fun E ce q9 u H locs hu hE hP hD hS hce hcv hcl => ?_) (fun u H locs hw_6 hP hD hS => ?_)
    · obtain ⟨ws_7, rfl⟩ : ∃ z, z = u := ⟨_, rfl⟩
      have hT := hu
      have hP : va_P D vwCl ([(ty_XO x w sp sv bu bl le)] ++ ws_7) H := hP
      have hD : va_D A ([(ty_XO x w sp sv bu bl le)] ++ ws_7) := hD
      exact vx_out (fun x hx => (hex x hx).elim) hlocks hce hcv hcl (fun t ht hW => ⟨ws_7, hT, ⟨hE, by rw [ht]; exact hP, by rw [hAe]; exact hD⟩, hS.F ht⟩) hS.2.2 (Nat.le_of_ble_eq_true rfl) (Nat.le_of_ble_eq_true rfl)
    · obtain ⟨ws_8, rfl⟩ : ∃ z, z = u := ⟨_, rfl⟩
      have hT := hw_6
      have hP : va_P D vwCl ([(ty_XO x w sp sv bu bl le)] ++ ws_8) H := hP
      have hD : va_D A ([(ty_XO x w sp sv bu bl le)] ++ ws_8) := hD
      refine W.widen (k := 2) (n := 12) (Nat.le_of_ble_eq_true rfl) (Nat.le_of_ble_eq_true rfl) ?_
      refine lv_aload_n hx hb dX10_setLimits_16 rfl (lv_at hl 0 rfl) ?_
      refine va_get (v := .ref w) (D := D) (ci := 10) (C := RX10) (T := TX10) (N := 6) hx hb hts in_X10 hown hK hP 0 rfl rfl 0 (by decide) (hts _ kl_RX10_10) (fun _ h9 => h9) rfl dX10_setLimits_17 ?_
      refine ty_getN (E := [(ty_XO x w sp sv bu bl le)]) (ws := ws_8) (D := D) (ci := 9) (C := RX9) (T := TX9) (N := 8) hx hb hts in_X9 hown hK hP hT h_w rfl 1 (by decide) (hts _ kl_RX10_95) (fun _ h9 => h9) rfl dX10_setLimits_20 (fun _ hv_9 hf_10 => ?_)
      obtain ⟨a_11, rfl, ha_12⟩ := hv_9
      refine lv_iload_n hx hb dX10_setLimits_23 rfl (lv_at hl 1 rfl) ?_
      refine ty_putN (v := .int p1) (ty := .int) (E := [(ty_XO x w sp sv bu bl le)]) (ws := ws_8) (D := D) (ci := 7) (C := RX7) (T := TX7) (N := 12) hx hb hts in_X7 tyX7 tyX7_ok nmX7 hown hK hP hD hS hT ha_12 rfl 4 (by decide) (hts _ kl_RX10_113) (fun _ h9 => h9) rfl (by decide +kernel) rfl rfl rfl ⟨_, rfl⟩ dX10_setLimits_24 hph (hy7 4 a_11) (fun ws_13 H locs hT hP hD hS => ?_)
      refine lv_aload_n hx hb dX10_setLimits_27 rfl (lv_at hl 0 rfl) ?_
      refine va_get (v := .ref w) (D := D) (ci := 10) (C := RX10) (T := TX10) (N := 6) hx hb hts in_X10 hown hK hP 0 rfl rfl 0 (by decide) (hts _ kl_RX10_10) (fun _ h9 => h9) rfl dX10_setLimits_28 ?_
      refine ty_getN (E := [(ty_XO x w sp sv bu bl le)]) (ws := ws_13) (D := D) (ci := 9) (C := RX9) (T := TX9) (N := 8) hx hb hts in_X9 hown hK hP hT h_w rfl 1 (by decide) (hts _ kl_RX10_95) (fun _ h9 => h9) rfl dX10_setLimits_31 (fun _ hv_14 hf_15 => ?_)
      obtain ⟨a_16, rfl, ha_17⟩ := hv_14
      refine lv_iload_n hx hb dX10_setLimits_34 rfl (lv_at hl 2 rfl) ?_
      refine ty_putN (v := .int p2) (ty := .int) (E := [(ty_XO x w sp sv bu bl le)]) (ws := ws_13) (D := D) (ci := 7) (C := RX7) (T := TX7) (N := 12) hx hb hts in_X7 tyX7 tyX7_ok nmX7 hown hK hP hD hS hT ha_17 rfl 5 (by decide) (hts _ kl_RX10_116) (fun _ h9 => h9) rfl (by decide +kernel) rfl rfl rfl ⟨_, rfl⟩ dX10_setLimits_35 hph (hy7 5 a_16) (fun ws_18 H locs hT hP hD hS => ?_)
      refine lv_iconst (v := 0) hx hb dX10_setLimits_38 (by decide) ?_
      refine lv_istore_n (lv' := [(3, .int 0), (0, .ref x), (1, .int p1), (2, .int p2)]) hx hb dX10_setLimits_39 rfl hl (by decide) rfl (fun ls hl => ?_)
      refine lv_iconst (v := 0) hx hb dX10_setLimits_40 (by decide) ?_
      refine lv_istore (lv' := [(4, .int 0), (3, .int 0), (0, .ref x), (1, .int p1), (2, .int p2)]) hx hb dX10_setLimits_41 hl (by decide) rfl (fun ls hl => ?_)
      refine ty_loop (I := fun μ H locs ls => ∃ (ws : va_W) (y_19 : Int32) (y_20 : Int32), μ = (2147483648 - y_20.toInt).toNat ∧ ty_V ct S ph ws ∧ va_P D vwCl ([(ty_XO x w sp sv bu bl le)] ++ ws) H ∧ va_D A ([(ty_XO x w sp sv bu bl le)] ++ ws) ∧ va_S A s.heap H locs ∧ lv_has ls 6 [(0, .ref x), (1, .int p1), (2, .int p2), (3, .int y_19), (4, .int y_20)]) ⟨_, ws_18, (0 : Int32), (0 : Int32), rfl, hT, hP, hD, hS, (lv_sub hl [2, 3, 4, 1, 0] rfl)⟩ (fun μ H locs ls hI ih_43 => ?_)
      obtain ⟨ws, y_19, y_20, rfl, hT, hP, hD, hS, hl⟩ := hI
      refine lv_iload hx hb dX10_setLimits_43 (lv_at hl 4 rfl) ?_
      refine lv_aload_n hx hb dX10_setLimits_45 rfl (lv_at hl 0 rfl) ?_
      refine va_get (v := .ref w) (D := D) (ci := 10) (C := RX10) (T := TX10) (N := 6) hx hb hts in_X10 hown hK hP 0 rfl rfl 0 (by decide) (hts _ kl_RX10_10) (fun _ h9 => h9) rfl dX10_setLimits_46 ?_
      refine ty_getN (E := [(ty_XO x w sp sv bu bl le)]) (ws := ws) (D := D) (ci := 9) (C := RX9) (T := TX9) (N := 8) hx hb hts in_X9 hown hK hP hT h_w rfl 4 (by decide) (hts _ kl_RX10_64) (fun _ h9 => h9) rfl dX10_setLimits_49 (fun _ hv_21 hf_22 => ?_)
      obtain ⟨x_23, rfl⟩ := hv_21
      refine lv_icmp_ge (tgt := 113) hx hb dX10_setLimits_52 (by decide) (fun hc_24 => ?_) (fun hc_24 => ?_)
      · refine lv_iload_n hx hb dX10_setLimits_113 rfl (lv_at hl 3 rfl) ?_
        refine vx_ret ?_
        exact W.iret (v := y_19) hx hb hr (fun t ht hW => ⟨⟨y_19, ws, rfl, hT, by rw [ht]; exact hP, by rw [hAe]; exact hD⟩, hS.F ht⟩) hS.2.2 dX10_setLimits_114
      · refine lv_aload_n hx hb dX10_setLimits_55 rfl (lv_at hl 0 rfl) ?_
        refine va_get (v := .ref w) (D := D) (ci := 10) (C := RX10) (T := TX10) (N := 6) hx hb hts in_X10 hown hK hP 0 rfl rfl 0 (by decide) (hts _ kl_RX10_10) (fun _ h9 => h9) rfl dX10_setLimits_56 ?_
        refine lv_iload hx hb dX10_setLimits_59 (lv_at hl 4 rfl) ?_
        refine ty_kq (wr := [(ty_XO x w sp sv bu bl le)]) (wc := ([] ++ ws)) (va_runVN (As := [.int y_20]) (rest := []) ⟨hx, hb, hml, hown, hts⟩ (t_X9_channelAt l D ct S ws ph xx w y_20 _ hT h_w hph hy1) (cm_VN 1 hts kc_X9_channelAt ki_RX9 kl_RX10_125 kv_X9_channelAt kx_X9_channelAt kd_X9_channelAt ⟨Nat.le_of_ble_eq_true rfl, Nat.le_of_ble_eq_true rfl⟩) (ty_preV (wr := [(ty_XO x w sp sv bu bl le)]) (E := []) (ws := ws) (ci := 9) hP hK hD hS hA hX hT rfl h_w) rfl rfl hl.1 rfl (lv_room (Nat.le_of_ble_eq_true rfl)) dX10_setLimits_61 ⟨Nat.le_of_ble_eq_true rfl, Nat.le_of_ble_eq_true rfl⟩) hP hD hS hA (fun r_25 u H locs hw_26 hP hD hS => ?_)
        obtain ⟨ws_27, rfl⟩ : ∃ z, z = u := ⟨_, rfl⟩
        obtain ⟨hT, hq_28⟩ := hw_26
        have hP : va_P D vwCl ([(ty_XO x w sp sv bu bl le)] ++ ws_27) H := hP
        have hD : va_D A ([(ty_XO x w sp sv bu bl le)] ++ ws_27) := hD
        rcases hq_28 with rfl | ⟨a_29, rfl, ha_30⟩
        · refine W.eq (g2 := F0 m 64 ls (.null :: [])) rfl ?_
          refine lv_astoreN (lv' := [(5, .null), (0, .ref x), (1, .int p1), (2, .int p2), (3, .int y_19), (4, .int y_20)]) hx hb dX10_setLimits_64 hl (by decide) rfl (fun ls hl => ?_)
          refine lv_aloadN hx hb dX10_setLimits_66 (lv_at hl 0 rfl) ?_
          refine lv_ifnullN (tgt := 107) hx hb dX10_setLimits_68 (by decide) ?_
          refine lv_iinc (v := (y_20 + Int32.ofInt 1)) (lv' := [(4, .int (y_20 + Int32.ofInt 1)), (5, .null), (0, .ref x), (1, .int p1), (2, .int p2), (3, .int y_19)]) hx hb dX10_setLimits_107 hl (k := 5) rfl rfl (by decide) rfl (fun ls hl => ?_)
          refine lv_goto (tgt := 43) hx hb dX10_setLimits_110 (by decide) ?_
          exact ih_43 _ _ _ _ (ty_inc (cm_lt hc_24)) ⟨ws_27, y_19, (y_20 + Int32.ofInt 1), rfl, hT, hP, hD, hS, (lv_sub hl [2, 3, 4, 5, 0] rfl)⟩
        · refine W.eq (g2 := F0 m 64 ls (.ref a_29 :: [])) rfl ?_
          refine lv_astore (lv' := [(5, .ref a_29), (0, .ref x), (1, .int p1), (2, .int p2), (3, .int y_19), (4, .int y_20)]) hx hb dX10_setLimits_64 hl (by decide) rfl (fun ls hl => ?_)
          refine lv_aload hx hb dX10_setLimits_66 (lv_at hl 0 rfl) ?_
          refine lv_ifnull hx hb dX10_setLimits_68 ?_
          refine lv_aload hx hb dX10_setLimits_71 (lv_at hl 0 rfl) ?_
          refine ty_getN (E := [(ty_XO x w sp sv bu bl le)]) (ws := ws_27) (D := D) (ci := 1) (C := RX1) (T := TX1) (N := 14) hx hb hts in_X1 hown hK hP hT ha_30 rfl 3 (by decide) (hts _ kl_RX10_129) (fun _ h9 => h9) rfl dX10_setLimits_73 (fun _ hv_31 hf_32 => ?_)
          obtain ⟨x_33, rfl⟩ := hv_31
          refine lv_iconst (v := 1) hx hb dX10_setLimits_76 (by decide) ?_
          refine lv_icmp_ne (tgt := 107) hx hb dX10_setLimits_77 (by decide) (fun hc_34 => ?_) (fun hc_34 => ?_)
          · refine lv_iinc (v := (y_20 + Int32.ofInt 1)) (lv' := [(4, .int (y_20 + Int32.ofInt 1)), (5, .ref a_29), (0, .ref x), (1, .int p1), (2, .int p2), (3, .int y_19)]) hx hb dX10_setLimits_107 hl (k := 5) rfl rfl (by decide) rfl (fun ls hl => ?_)
            refine lv_goto (tgt := 43) hx hb dX10_setLimits_110 (by decide) ?_
            exact ih_43 _ _ _ _ (ty_inc (cm_lt hc_24)) ⟨ws_27, y_19, (y_20 + Int32.ofInt 1), rfl, hT, hP, hD, hS, (lv_sub hl [2, 3, 4, 5, 0] rfl)⟩
          · refine lv_aload hx hb dX10_setLimits_80 (lv_at hl 0 rfl) ?_
            refine ty_getN (E := [(ty_XO x w sp sv bu bl le)]) (ws := ws_27) (D := D) (ci := 1) (C := RX1) (T := TX1) (N := 14) hx hb hts in_X1 hown hK hP hT ha_30 rfl 1 (by decide) (hts _ kl_RX10_134) (fun _ h9 => h9) rfl dX10_setLimits_82 (fun _ hv_35 hf_36 => ?_)
            obtain ⟨a_37, rfl, ha_38⟩ := hv_35
            refine ty_getN (E := [(ty_XO x w sp sv bu bl le)]) (ws := ws_27) (D := D) (ci := 0) (C := RX0) (T := TX0) (N := 16) hx hb hts in_X0 hown hK hP hT ha_38 rfl 14 (by decide) (hts _ kl_RX10_138) (fun _ h9 => h9) rfl dX10_setLimits_85 (fun _ hv_39 hf_40 => ?_)
            obtain ⟨x_41, rfl⟩ := hv_39
            refine lv_iload_n hx hb dX10_setLimits_88 rfl (lv_at hl 2 rfl) ?_
            refine lv_icmp_lt (tgt := 104) hx hb dX10_setLimits_89 (by decide) (fun hc_42 => ?_) (fun hc_42 => ?_)
            · refine lv_iinc (v := (y_19 + Int32.ofInt 1)) (lv' := [(3, .int (y_19 + Int32.ofInt 1)), (5, .ref a_29), (0, .ref x), (1, .int p1), (2, .int p2), (4, .int y_20)]) hx hb dX10_setLimits_104 hl (k := 4) rfl rfl (by decide) rfl (fun ls hl => ?_)
              refine lv_iinc (v := (y_20 + Int32.ofInt 1)) (lv' := [(4, .int (y_20 + Int32.ofInt 1)), (3, .int (y_19 + Int32.ofInt 1)), (5, .ref a_29), (0, .ref x), (1, .int p1), (2, .int p2)]) hx hb dX10_setLimits_107 hl (k := 5) rfl rfl (by decide) rfl (fun ls hl => ?_)
              refine lv_goto (tgt := 43) hx hb dX10_setLimits_110 (by decide) ?_
              exact ih_43 _ _ _ _ (ty_inc (cm_lt hc_24)) ⟨ws_27, (y_19 + Int32.ofInt 1), (y_20 + Int32.ofInt 1), rfl, hT, hP, hD, hS, (lv_sub hl [3, 4, 5, 1, 0] rfl)⟩
            · refine lv_aload hx hb dX10_setLimits_92 (lv_at hl 0 rfl) ?_
              refine ty_getN (E := [(ty_XO x w sp sv bu bl le)]) (ws := ws_27) (D := D) (ci := 1) (C := RX1) (T := TX1) (N := 14) hx hb hts in_X1 hown hK hP hT ha_30 rfl 1 (by decide) (hts _ kl_RX10_134) (fun _ h9 => h9) rfl dX10_setLimits_94 (fun _ hv_43 hf_44 => ?_)
              obtain ⟨a_45, rfl, ha_46⟩ := hv_43
              refine ty_getN (E := [(ty_XO x w sp sv bu bl le)]) (ws := ws_27) (D := D) (ci := 0) (C := RX0) (T := TX0) (N := 16) hx hb hts in_X0 hown hK hP hT ha_46 rfl 14 (by decide) (hts _ kl_RX10_138) (fun _ h9 => h9) rfl dX10_setLimits_97 (fun _ hv_47 hf_48 => ?_)
              obtain ⟨x_49, rfl⟩ := hv_47
              refine lv_iload_n hx hb dX10_setLimits_100 rfl (lv_at hl 3 rfl) ?_
              refine lv_icmp_le (tgt := 107) hx hb dX10_setLimits_101 (by decide) (fun hc_50 => ?_) (fun hc_50 => ?_)
              · refine lv_iinc (v := (y_20 + Int32.ofInt 1)) (lv' := [(4, .int (y_20 + Int32.ofInt 1)), (5, .ref a_29), (0, .ref x), (1, .int p1), (2, .int p2), (3, .int y_19)]) hx hb dX10_setLimits_107 hl (k := 5) rfl rfl (by decide) rfl (fun ls hl => ?_)
                refine lv_goto (tgt := 43) hx hb dX10_setLimits_110 (by decide) ?_
                exact ih_43 _ _ _ _ (ty_inc (cm_lt hc_24)) ⟨ws_27, y_19, (y_20 + Int32.ofInt 1), rfl, hT, hP, hD, hS, (lv_sub hl [2, 3, 4, 5, 0] rfl)⟩
              · refine lv_iinc (v := (y_19 + Int32.ofInt 1)) (lv' := [(3, .int (y_19 + Int32.ofInt 1)), (5, .ref a_29), (0, .ref x), (1, .int p1), (2, .int p2), (4, .int y_20)]) hx hb dX10_setLimits_104 hl (k := 4) rfl rfl (by decide) rfl (fun ls hl => ?_)
                refine lv_iinc (v := (y_20 + Int32.ofInt 1)) (lv' := [(4, .int (y_20 + Int32.ofInt 1)), (3, .int (y_19 + Int32.ofInt 1)), (5, .ref a_29), (0, .ref x), (1, .int p1), (2, .int p2)]) hx hb dX10_setLimits_107 hl (k := 5) rfl rfl (by decide) rfl (fun ls hl => ?_)
                refine lv_goto (tgt := 43) hx hb dX10_setLimits_110 (by decide) ?_
                exact ih_43 _ _ _ _ (ty_inc (cm_lt hc_24)) ⟨ws_27, (y_19 + Int32.ofInt 1), (y_20 + Int32.ofInt 1), rfl, hT, hP, hD, hS, (lv_sub hl [3, 4, 5, 1, 0] rfl)⟩
theorem dX10_setDerate_0 : decode cX10_setDerate 0 = .ok (.iload_n 1, 1) := by decide +kernel
theorem dX10_setDerate_1 : decode cX10_setDerate 1 = .ok (.iconst 0, 1) := by decide +kernel
theorem dX10_setDerate_2 : decode cX10_setDerate 2 = .ok (.sipush 200, 3) := by decide +kernel
theorem dX10_setDerate_5 : decode cX10_setDerate 5 = .ok (.invokestatic 81, 3) := by decide +kernel
theorem dX10_setDerate_8 : decode cX10_setDerate 8 = .ok (.aload_n 0, 1) := by decide +kernel
theorem dX10_setDerate_9 : decode cX10_setDerate 9 = .ok (.getfield 10, 3) := by decide +kernel
theorem dX10_setDerate_12 : decode cX10_setDerate 12 = .ok (.getfield 95, 3) := by decide +kernel
theorem dX10_setDerate_15 : decode cX10_setDerate 15 = .ok (.getfield 143, 3) := by decide +kernel
theorem dX10_setDerate_18 : decode cX10_setDerate 18 = .ok (.istore_n 2, 1) := by decide +kernel
theorem dX10_setDerate_19 : decode cX10_setDerate 19 = .ok (.aload_n 0, 1) := by decide +kernel
theorem dX10_setDerate_20 : decode cX10_setDerate 20 = .ok (.getfield 10, 3) := by decide +kernel
theorem dX10_setDerate_23 : decode cX10_setDerate 23 = .ok (.getfield 95, 3) := by decide +kernel
theorem dX10_setDerate_26 : decode cX10_setDerate 26 = .ok (.iload_n 1, 1) := by decide +kernel
theorem dX10_setDerate_27 : decode cX10_setDerate 27 = .ok (.putfield 143, 3) := by decide +kernel
theorem dX10_setDerate_30 : decode cX10_setDerate 30 = .ok (.iload_n 2, 1) := by decide +kernel
theorem dX10_setDerate_31 : decode cX10_setDerate 31 = .ok (.ireturn, 1) := by decide +kernel
set_option maxRecDepth 100000 in
set_option maxHeartbeats 4000000 in
theorem t_X10_setDerate (l : Launch) (hfl : l.stackTraces = false) (D : va_G) (ct : Nat → ClassId) (S : ty_S) (ws : va_W) (ph : va_W → Prop) (xx : Nat → Nat → Nat → Prop) (x : Nat) (w : Nat) (sp : Nat) (sv : Nat) (bu : Nat) (ns : Nat) (bl : Int32) (le : Int32) (p1 : Int32) (sz : Nat) (hT : ty_V ct S ph ws) (h_w : S w = some (.inl 9)) (h_sp : S sp = some (.inl 9)) (h_sv : S sv = some (.inr (4, ns))) (hph : ty_C ph xx) (hy1 : ty_y1 xx) (hy7 : ty_yc xx 7) : vx_Met l yX10_setDerate (ws_ yX10_setDerate cX10_setDerate 3 (some .int)) ({ frames := 7, cells := 1, slots := 6, locals := 112 } : Room) (va_Pc [.ref x, .int p1] (cmP D ct sz ([(ty_XO x w sp sv bu bl le)] ++ ws))) (va_Qi (fun (r : Int32) (u9 : va_W) => ty_V ct S ph u9) (cmB D ([(ty_XO x w sp sv bu bl le)] ++ ws) sz (fun (u9 : va_W) => ([(ty_XO x w sp sv bu bl le)] ++ u9))) (va_A ([(ty_XO x w sp sv bu bl le)] ++ ws) sz)) (vx_X (fun (u9 : va_W) => ty_V ct S ph u9) (cmBY D ([(ty_XO x w sp sv bu bl le)] ++ ws) sz ["java/lang/IllegalArgumentException"] (fun (u9 : va_W) => ([(ty_XO x w sp sv bu bl le)] ++ u9))) (va_A ([(ty_XO x w sp sv bu bl le)] ++ ws) sz)) 1 6 (va_A ([(ty_XO x w sp sv bu bl le)] ++ ws) sz) := by
  refine vx_ofW (cc := cX10_setDerate) (maxL := 3) (ret := (some .int)) (by decide) rfl ?_
  intro p e s m args below meth c s₁ B hml hex hv
  obtain ⟨rfl, hsz, hP, hK, hD0, hX⟩ := hv
  have hx := B.exec
  have hb := B.bytes
  have hr := B.returns
  have hts := ws_all (atoms_spec (ws := ws_ yX10_setDerate cX10_setDerate 3 (some .int)) B.pre)
  have hown : s.vm.findClass RX10 = some m.cls := findClass_of_methodNamed B.named
  have hlocks := B.notSynchronized
  subst hsz
  have hD := hD0.self (sz := s.heap.size)
  generalize hAe : va_A ([(ty_XO x w sp sv bu bl le)] ++ ws) s.heap.size = A at hD hX ⊢
  have hA : ∀ q : Nat, s.heap.size ≤ q → A q := fun q h => by rw [← hAe]; exact Or.inr h
  have hS : va_S A s.heap s.heap [] := va_S.rf
  have hl := lv_entry ([.ref x, .int p1]) (n := 3) (Nat.le_of_ble_eq_true rfl)
  rw [lg_entry_eq]
  generalize (lg_sl ([.ref x, .int p1]) ++ List.replicate (3 - (lg_sl ([.ref x, .int p1])).length) Slot.unset).toArray = ls at hl ⊢
  have hl : lv_has ls 3 [(0, .ref x), (1, .int p1)] := hl
  refine lv_iload_n hx hb dX10_setDerate_0 rfl (lv_at hl 1 rfl) ?_
  refine lv_iconst (v := 0) hx hb dX10_setDerate_1 (by decide) ?_
  refine lv_sipush (v := 200) hx hb dX10_setDerate_2 (by decide) ?_
  refine ty_xv (wr := [(ty_XO x w sp sv bu bl le)]) (wc := ([] ++ ws)) (vx_runS (As := [.int p1, .int 0, .int 200]) (rest := []) ⟨hx, hb, hml, hown, hts⟩ (t_X10_needRange l hfl D ct S ws ph xx p1 (0 : Int32) (200 : Int32) _ hT hph hy1) (cm_S 3 hts kc_X10_needRange ki_RX10 kl_RX10_81 ks_X10_needRange kd_X10_needRange ⟨Nat.le_of_ble_eq_true rfl, Nat.le_of_ble_eq_true rfl⟩) (ty_preS (wr := [(ty_XO x w sp sv bu bl le)]) (wc := ([] ++ ws)) hP hK hD hS hA hX) rfl rfl hl.1 rfl (lv_room (Nat.le_of_ble_eq_true rfl)) dX10_setDerate_5 ⟨Nat.le_of_ble_eq_true rfl, Nat.le_of_ble_eq_true rfl⟩) hP hD hS hA (fun E ce q9 u H locs hu hE hP hD hS hce hcv hcl => ?_) (fun u H locs hw_2 hP hD hS => ?_)
  · obtain ⟨ws_3, rfl⟩ : ∃ z, z = u := ⟨_, rfl⟩
    have hT := hu
    have hP : va_P D vwCl ([(ty_XO x w sp sv bu bl le)] ++ ws_3) H := hP
    have hD : va_D A ([(ty_XO x w sp sv bu bl le)] ++ ws_3) := hD
    exact vx_out (fun x hx => (hex x hx).elim) hlocks hce hcv hcl (fun t ht hW => ⟨ws_3, hT, ⟨hE, by rw [ht]; exact hP, by rw [hAe]; exact hD⟩, hS.F ht⟩) hS.2.2 (Nat.le_of_ble_eq_true rfl) (Nat.le_of_ble_eq_true rfl)
  · obtain ⟨ws_4, rfl⟩ : ∃ z, z = u := ⟨_, rfl⟩
    have hT := hw_2
    have hP : va_P D vwCl ([(ty_XO x w sp sv bu bl le)] ++ ws_4) H := hP
    have hD : va_D A ([(ty_XO x w sp sv bu bl le)] ++ ws_4) := hD
    refine W.widen (k := 1) (n := 6) (Nat.le_of_ble_eq_true rfl) (Nat.le_of_ble_eq_true rfl) ?_
    refine lv_aload_n hx hb dX10_setDerate_8 rfl (lv_at hl 0 rfl) ?_
    refine va_get (v := .ref w) (D := D) (ci := 10) (C := RX10) (T := TX10) (N := 6) hx hb hts in_X10 hown hK hP 0 rfl rfl 0 (by decide) (hts _ kl_RX10_10) (fun _ h9 => h9) rfl dX10_setDerate_9 ?_
    refine ty_getN (E := [(ty_XO x w sp sv bu bl le)]) (ws := ws_4) (D := D) (ci := 9) (C := RX9) (T := TX9) (N := 8) hx hb hts in_X9 hown hK hP hT h_w rfl 1 (by decide) (hts _ kl_RX10_95) (fun _ h9 => h9) rfl dX10_setDerate_12 (fun _ hv_5 hf_6 => ?_)
    obtain ⟨a_7, rfl, ha_8⟩ := hv_5
    refine ty_getN (E := [(ty_XO x w sp sv bu bl le)]) (ws := ws_4) (D := D) (ci := 7) (C := RX7) (T := TX7) (N := 12) hx hb hts in_X7 hown hK hP hT ha_8 rfl 11 (by decide) (hts _ kl_RX10_143) (fun _ h9 => h9) rfl dX10_setDerate_15 (fun _ hv_9 hf_10 => ?_)
    obtain ⟨x_11, rfl⟩ := hv_9
    refine lv_istore_n (lv' := [(2, .int x_11), (0, .ref x), (1, .int p1)]) hx hb dX10_setDerate_18 rfl hl (by decide) rfl (fun ls hl => ?_)
    refine lv_aload_n hx hb dX10_setDerate_19 rfl (lv_at hl 1 rfl) ?_
    refine va_get (v := .ref w) (D := D) (ci := 10) (C := RX10) (T := TX10) (N := 6) hx hb hts in_X10 hown hK hP 0 rfl rfl 0 (by decide) (hts _ kl_RX10_10) (fun _ h9 => h9) rfl dX10_setDerate_20 ?_
    refine ty_getN (E := [(ty_XO x w sp sv bu bl le)]) (ws := ws_4) (D := D) (ci := 9) (C := RX9) (T := TX9) (N := 8) hx hb hts in_X9 hown hK hP hT h_w rfl 1 (by decide) (hts _ kl_RX10_95) (fun _ h9 => h9) rfl dX10_setDerate_23 (fun _ hv_12 hf_13 => ?_)
    obtain ⟨a_14, rfl, ha_15⟩ := hv_12
    refine lv_iload_n hx hb dX10_setDerate_26 rfl (lv_at hl 2 rfl) ?_
    refine ty_putN (v := .int p1) (ty := .int) (E := [(ty_XO x w sp sv bu bl le)]) (ws := ws_4) (D := D) (ci := 7) (C := RX7) (T := TX7) (N := 12) hx hb hts in_X7 tyX7 tyX7_ok nmX7 hown hK hP hD hS hT ha_15 rfl 11 (by decide) (hts _ kl_RX10_143) (fun _ h9 => h9) rfl (by decide +kernel) rfl rfl rfl ⟨_, rfl⟩ dX10_setDerate_27 hph (hy7 11 a_14) (fun ws_16 H locs hT hP hD hS => ?_)
    refine lv_iload_n hx hb dX10_setDerate_30 rfl (lv_at hl 0 rfl) ?_
    refine vx_ret ?_
    exact W.iret (v := x_11) hx hb hr (fun t ht hW => ⟨⟨x_11, ws_16, rfl, hT, by rw [ht]; exact hP, by rw [hAe]; exact hD⟩, hS.F ht⟩) hS.2.2 dX10_setDerate_31
