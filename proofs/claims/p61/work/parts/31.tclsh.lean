theorem dX10_start_0 : decode cX10_start 0 = .ok (.aload_n 0, 1) := by decide +kernel
theorem dX10_start_1 : decode cX10_start 1 = .ok (.iload_n 1, 1) := by decide +kernel
theorem dX10_start_2 : decode cX10_start 2 = .ok (.invokevirtual 172, 3) := by decide +kernel
theorem dX10_start_5 : decode cX10_start 5 = .ok (.astore_n 3, 1) := by decide +kernel
theorem dX10_start_6 : decode cX10_start 6 = .ok (.aload_n 0, 1) := by decide +kernel
theorem dX10_start_7 : decode cX10_start 7 = .ok (.iload_n 2, 1) := by decide +kernel
theorem dX10_start_8 : decode cX10_start 8 = .ok (.invokevirtual 146, 3) := by decide +kernel
theorem dX10_start_11 : decode cX10_start 11 = .ok (.aload_n 3, 1) := by decide +kernel
theorem dX10_start_12 : decode cX10_start 12 = .ok (.invokevirtual 175, 3) := by decide +kernel
theorem dX10_start_15 : decode cX10_start 15 = .ok (.ifCond .ne 6, 3) := by decide +kernel
theorem dX10_start_18 : decode cX10_start 18 = .ok (.bipush (-3), 2) := by decide +kernel
theorem dX10_start_20 : decode cX10_start 20 = .ok (.ireturn, 1) := by decide +kernel
theorem dX10_start_21 : decode cX10_start 21 = .ok (.aload_n 3, 1) := by decide +kernel
theorem dX10_start_22 : decode cX10_start 22 = .ok (.iload_n 2, 1) := by decide +kernel
theorem dX10_start_23 : decode cX10_start 23 = .ok (.aload_n 0, 1) := by decide +kernel
theorem dX10_start_24 : decode cX10_start 24 = .ok (.getfield 10, 3) := by decide +kernel
theorem dX10_start_27 : decode cX10_start 27 = .ok (.invokevirtual 179, 3) := by decide +kernel
theorem dX10_start_30 : decode cX10_start 30 = .ok (.aload_n 0, 1) := by decide +kernel
theorem dX10_start_31 : decode cX10_start 31 = .ok (.getfield 10, 3) := by decide +kernel
theorem dX10_start_34 : decode cX10_start 34 = .ok (.iconst 1, 1) := by decide +kernel
theorem dX10_start_35 : decode cX10_start 35 = .ok (.invokevirtual 183, 3) := by decide +kernel
theorem dX10_start_38 : decode cX10_start 38 = .ok (.invokestatic 186, 3) := by decide +kernel
theorem dX10_start_41 : decode cX10_start 41 = .ok (.ireturn, 1) := by decide +kernel
set_option maxRecDepth 100000 in
set_option maxHeartbeats 4000000 in
theorem t_X10_start (l : Launch) (hfl : l.stackTraces = false) (D : va_G) (ct : Nat → ClassId) (S : ty_S) (ws : va_W) (ph : va_W → Prop) (xx : Nat → Nat → Nat → Prop) (x : Nat) (w : Nat) (sp : Nat) (sv : Nat) (bu : Nat) (ns : Nat) (bl : Int32) (le : Int32) (p1 : Int32) (p2 : Int32) (sz : Nat) (hT : ty_V ct S ph ws) (h_w : S w = some (.inl 9)) (h_sp : S sp = some (.inl 9)) (h_sv : S sv = some (.inr (4, ns))) (hph : ty_C ph xx) (hy1 : ty_y1 xx) : vx_Met l yX10_start (ws_ yX10_start cX10_start 4 (some .int)) ({ frames := 7, cells := 2, slots := 12, locals := 112 } : Room) (va_Pc [.ref x, .int p1, .int p2] (cmP D ct sz ([(ty_XO x w sp sv bu bl le)] ++ ws))) (va_Qi (fun (r : Int32) (u9 : va_W) => ty_V ct S ph u9) (cmB D ([(ty_XO x w sp sv bu bl le)] ++ ws) sz (fun (u9 : va_W) => ([(ty_XO x w sp sv bu bl le)] ++ u9))) (va_A ([(ty_XO x w sp sv bu bl le)] ++ ws) sz)) (vx_X (fun (u9 : va_W) => ty_V ct S ph u9) (cmBY D ([(ty_XO x w sp sv bu bl le)] ++ ws) sz ["java/lang/IndexOutOfBoundsException"] (fun (u9 : va_W) => ([(ty_XO x w sp sv bu bl le)] ++ u9))) (va_A ([(ty_XO x w sp sv bu bl le)] ++ ws) sz)) 2 12 (va_A ([(ty_XO x w sp sv bu bl le)] ++ ws) sz) := by
  refine vx_ofW (cc := cX10_start) (maxL := 4) (ret := (some .int)) (by decide) rfl ?_
  intro p e s m args below meth c s₁ B hml hex hv
  obtain ⟨rfl, hsz, hP, hK, hD0, hX⟩ := hv
  have hx := B.exec
  have hb := B.bytes
  have hr := B.returns
  have hts := ws_all (atoms_spec (ws := ws_ yX10_start cX10_start 4 (some .int)) B.pre)
  have hown : s.vm.findClass RX10 = some m.cls := findClass_of_methodNamed B.named
  have hlocks := B.notSynchronized
  subst hsz
  have hD := hD0.self (sz := s.heap.size)
  generalize hAe : va_A ([(ty_XO x w sp sv bu bl le)] ++ ws) s.heap.size = A at hD hX ⊢
  have hA : ∀ q : Nat, s.heap.size ≤ q → A q := fun q h => by rw [← hAe]; exact Or.inr h
  have hS : va_S A s.heap s.heap [] := va_S.rf
  have hl := lv_entry ([.ref x, .int p1, .int p2]) (n := 4) (Nat.le_of_ble_eq_true rfl)
  rw [lg_entry_eq]
  generalize (lg_sl ([.ref x, .int p1, .int p2]) ++ List.replicate (4 - (lg_sl ([.ref x, .int p1, .int p2])).length) Slot.unset).toArray = ls at hl ⊢
  have hl : lv_has ls 4 [(0, .ref x), (1, .int p1), (2, .int p2)] := hl
  refine lv_aload_n hx hb dX10_start_0 rfl (lv_at hl 0 rfl) ?_
  refine lv_iload_n hx hb dX10_start_1 rfl (lv_at hl 1 rfl) ?_
  refine ty_xq (wr := []) (wc := ([(ty_XO x w sp sv bu bl le)] ++ ws)) (vx_runV (As := [.int p1]) (rest := []) ⟨hx, hb, hml, hown, hts⟩ (t_X10_needChannel l hfl D ct S ws ph xx x w sp sv bu ns bl le p1 _ hT h_w h_sp h_sv hph hy1) (cm_V 1 hts kc_X10_needChannel ki_RX10 kl_RX10_172 kv_X10_needChannel kx_X10_needChannel kd_X10_needChannel ⟨Nat.le_of_ble_eq_true rfl, Nat.le_of_ble_eq_true rfl⟩) (ty_preE (wr := []) (wc := ([(ty_XO x w sp sv bu bl le)] ++ ws)) (ci := 10) (q0 := 0) hP hK hD hS hA hX rfl rfl) rfl rfl hl.1 rfl (lv_room (Nat.le_of_ble_eq_true rfl)) dX10_start_2 ⟨Nat.le_of_ble_eq_true rfl, Nat.le_of_ble_eq_true rfl⟩) hP hD hS hA (fun E ce q9 u H locs hu hE hP hD hS hce hcv hcl => ?_) (fun r_1 u H locs hw_2 hP hD hS => ?_)
  · obtain ⟨ws_3, rfl⟩ : ∃ z, z = u := ⟨_, rfl⟩
    have hT := hu
    have hP : va_P D vwCl ([(ty_XO x w sp sv bu bl le)] ++ ws_3) H := hP
    have hD : va_D A ([(ty_XO x w sp sv bu bl le)] ++ ws_3) := hD
    exact vx_out (fun x hx => (hex x hx).elim) hlocks hce hcv hcl (fun t ht hW => ⟨ws_3, hT, ⟨hE, by rw [ht]; exact hP, by rw [hAe]; exact hD⟩, hS.F ht⟩) hS.2.2 (Nat.le_of_ble_eq_true rfl) (Nat.le_of_ble_eq_true rfl)
  · obtain ⟨ws_4, rfl⟩ : ∃ z, z = u := ⟨_, rfl⟩
    obtain ⟨hT, hq_5⟩ := hw_2
    have hP : va_P D vwCl ([(ty_XO x w sp sv bu bl le)] ++ ws_4) H := hP
    have hD : va_D A ([(ty_XO x w sp sv bu bl le)] ++ ws_4) := hD
    refine W.widen (k := 1) (n := 6) (Nat.le_of_ble_eq_true rfl) (Nat.le_of_ble_eq_true rfl) ?_
    obtain ⟨a_6, rfl, ha_7⟩ := hq_5
    refine W.eq (g2 := F0 m 5 ls (.ref a_6 :: [])) rfl ?_
    refine lv_astore_n (lv' := [(3, .ref a_6), (0, .ref x), (1, .int p1), (2, .int p2)]) hx hb dX10_start_5 rfl hl (by decide) rfl (fun ls hl => ?_)
    refine lv_aload_n hx hb dX10_start_6 rfl (lv_at hl 1 rfl) ?_
    refine lv_iload_n hx hb dX10_start_7 rfl (lv_at hl 3 rfl) ?_
    refine ty_xv (wr := []) (wc := ([(ty_XO x w sp sv bu bl le)] ++ ws_4)) (vx_runV (As := [.int p2]) (rest := []) ⟨hx, hb, hml, hown, hts⟩ (t_X10_needProgram l hfl D ct S ws_4 ph xx x w sp sv bu ns bl le p2 _ hT h_w h_sp h_sv hph hy1) (cm_V 1 hts kc_X10_needProgram ki_RX10 kl_RX10_146 kv_X10_needProgram kx_X10_needProgram kd_X10_needProgram ⟨Nat.le_of_ble_eq_true rfl, Nat.le_of_ble_eq_true rfl⟩) (ty_preE (wr := []) (wc := ([(ty_XO x w sp sv bu bl le)] ++ ws_4)) (ci := 10) (q0 := 0) hP hK hD hS hA hX rfl rfl) rfl rfl hl.1 rfl (lv_room (Nat.le_of_ble_eq_true rfl)) dX10_start_8 ⟨Nat.le_of_ble_eq_true rfl, Nat.le_of_ble_eq_true rfl⟩) hP hD hS hA (fun E ce q9 u H locs hu hE hP hD hS hce hcv hcl => ?_) (fun u H locs hw_9 hP hD hS => ?_)
    · obtain ⟨ws_10, rfl⟩ : ∃ z, z = u := ⟨_, rfl⟩
      have hT := hu
      have hP : va_P D vwCl ([(ty_XO x w sp sv bu bl le)] ++ ws_10) H := hP
      have hD : va_D A ([(ty_XO x w sp sv bu bl le)] ++ ws_10) := hD
      exact vx_out (fun x hx => (hex x hx).elim) hlocks hce hcv hcl (fun t ht hW => ⟨ws_10, hT, ⟨hE, by rw [ht]; exact hP, by rw [hAe]; exact hD⟩, hS.F ht⟩) hS.2.2 (Nat.le_of_ble_eq_true rfl) (Nat.le_of_ble_eq_true rfl)
    · obtain ⟨ws_11, rfl⟩ : ∃ z, z = u := ⟨_, rfl⟩
      have hT := hw_9
      have hP : va_P D vwCl ([(ty_XO x w sp sv bu bl le)] ++ ws_11) H := hP
      have hD : va_D A ([(ty_XO x w sp sv bu bl le)] ++ ws_11) := hD
      refine W.widen (k := 2) (n := 12) (Nat.le_of_ble_eq_true rfl) (Nat.le_of_ble_eq_true rfl) ?_
      refine lv_aload_n hx hb dX10_start_11 rfl (lv_at hl 0 rfl) ?_
      refine ty_ki (wr := [(ty_XO x w sp sv bu bl le)]) (wc := ([] ++ ws_11)) (va_runVN (As := []) (rest := []) ⟨hx, hb, hml, hown, hts⟩ (t_X1_isFree l D ct S ws_11 ph xx a_6 _ hT ha_7 hph hy1) (cm_VN 0 hts kc_X1_isFree ki_RX1 kl_RX10_175 kv_X1_isFree kx_X1_isFree kd_X1_isFree ⟨Nat.le_of_ble_eq_true rfl, Nat.le_of_ble_eq_true rfl⟩) (ty_preV (wr := [(ty_XO x w sp sv bu bl le)]) (E := []) (ws := ws_11) (ci := 1) hP hK hD hS hA hX hT rfl ha_7) rfl rfl hl.1 rfl (lv_room (Nat.le_of_ble_eq_true rfl)) dX10_start_12 ⟨Nat.le_of_ble_eq_true rfl, Nat.le_of_ble_eq_true rfl⟩) hP hD hS hA (fun r_12 u H locs hw_13 hP hD hS => ?_)
      obtain ⟨ws_14, rfl⟩ : ∃ z, z = u := ⟨_, rfl⟩
      have hT := hw_13
      have hP : va_P D vwCl ([(ty_XO x w sp sv bu bl le)] ++ ws_14) H := hP
      have hD : va_D A ([(ty_XO x w sp sv bu bl le)] ++ ws_14) := hD
      refine lv_if_ne (tgt := 21) hx hb dX10_start_15 (by decide) (fun hc_15 => ?_) (fun hc_15 => ?_)
      · refine lv_aload_n hx hb dX10_start_21 rfl (lv_at hl 0 rfl) ?_
        refine lv_iload_n hx hb dX10_start_22 rfl (lv_at hl 3 rfl) ?_
        refine lv_aload_n hx hb dX10_start_23 rfl (lv_at hl 1 rfl) ?_
        refine va_get (v := .ref w) (D := D) (ci := 10) (C := RX10) (T := TX10) (N := 6) hx hb hts in_X10 hown hK hP 0 rfl rfl 0 (by decide) (hts _ kl_RX10_10) (fun _ h9 => h9) rfl dX10_start_24 ?_
        refine ty_kv (wr := [(ty_XO x w sp sv bu bl le)]) (wc := ([] ++ ws_14)) (va_runVN (As := [.int p2, .ref w]) (rest := []) ⟨hx, hb, hml, hown, hts⟩ (t_X1_begin l D ct S ws_14 ph xx a_6 p2 w _ hT ha_7 h_w hph hy1) (cm_VN 2 hts kc_X1_begin ki_RX1 kl_RX10_179 kv_X1_begin kx_X1_begin kd_X1_begin ⟨Nat.le_of_ble_eq_true rfl, Nat.le_of_ble_eq_true rfl⟩) (ty_preV (wr := [(ty_XO x w sp sv bu bl le)]) (E := []) (ws := ws_14) (ci := 1) hP hK hD hS hA hX hT rfl ha_7) rfl rfl hl.1 rfl (lv_room (Nat.le_of_ble_eq_true rfl)) dX10_start_27 ⟨Nat.le_of_ble_eq_true rfl, Nat.le_of_ble_eq_true rfl⟩) hP hD hS hA (fun u H locs hw_17 hP hD hS => ?_)
        obtain ⟨ws_18, rfl⟩ : ∃ z, z = u := ⟨_, rfl⟩
        have hT := hw_17
        have hP : va_P D vwCl ([(ty_XO x w sp sv bu bl le)] ++ ws_18) H := hP
        have hD : va_D A ([(ty_XO x w sp sv bu bl le)] ++ ws_18) := hD
        refine lv_aload_n hx hb dX10_start_30 rfl (lv_at hl 1 rfl) ?_
        refine va_get (v := .ref w) (D := D) (ci := 10) (C := RX10) (T := TX10) (N := 6) hx hb hts in_X10 hown hK hP 0 rfl rfl 0 (by decide) (hts _ kl_RX10_10) (fun _ h9 => h9) rfl dX10_start_31 ?_
        refine lv_iconst (v := 1) hx hb dX10_start_34 (by decide) ?_
        refine ty_ki (wr := [(ty_XO x w sp sv bu bl le)]) (wc := ([] ++ ws_18)) (va_runVN (As := [.int 1]) (rest := []) ⟨hx, hb, hml, hown, hts⟩ (t_X9_channelsIn l D ct S ws_18 ph xx w (1 : Int32) _ hT h_w hph hy1) (cm_VN 1 hts kc_X9_channelsIn ki_RX9 kl_RX10_183 kv_X9_channelsIn kx_X9_channelsIn kd_X9_channelsIn ⟨Nat.le_of_ble_eq_true rfl, Nat.le_of_ble_eq_true rfl⟩) (ty_preV (wr := [(ty_XO x w sp sv bu bl le)]) (E := []) (ws := ws_18) (ci := 9) hP hK hD hS hA hX hT rfl h_w) rfl rfl hl.1 rfl (lv_room (Nat.le_of_ble_eq_true rfl)) dX10_start_35 ⟨Nat.le_of_ble_eq_true rfl, Nat.le_of_ble_eq_true rfl⟩) hP hD hS hA (fun r_19 u H locs hw_20 hP hD hS => ?_)
        obtain ⟨ws_21, rfl⟩ : ∃ z, z = u := ⟨_, rfl⟩
        have hT := hw_20
        have hP : va_P D vwCl ([(ty_XO x w sp sv bu bl le)] ++ ws_21) H := hP
        have hD : va_D A ([(ty_XO x w sp sv bu bl le)] ++ ws_21) := hD
        refine ty_ki (wr := [(ty_XO x w sp sv bu bl le)]) (wc := ([] ++ ws_21)) (va_runS (As := [.int r_19]) (rest := []) ⟨hx, hb, hml, hown, hts⟩ (t_J6_bitCount_0f7a4 l D ct S ws_21 ph xx r_19 _ hT hph hy1) (cm_S 1 hts kc_J6_bitCount_0f7a4 ki_RJ6 kl_RX10_186 ks_J6_bitCount_0f7a4 kd_J6_bitCount_0f7a4 ⟨Nat.le_of_ble_eq_true rfl, Nat.le_of_ble_eq_true rfl⟩) (ty_preS (wr := [(ty_XO x w sp sv bu bl le)]) (wc := ([] ++ ws_21)) hP hK hD hS hA hX) rfl rfl hl.1 rfl (lv_room (Nat.le_of_ble_eq_true rfl)) dX10_start_38 ⟨Nat.le_of_ble_eq_true rfl, Nat.le_of_ble_eq_true rfl⟩) hP hD hS hA (fun r_22 u H locs hw_23 hP hD hS => ?_)
        obtain ⟨ws_24, rfl⟩ : ∃ z, z = u := ⟨_, rfl⟩
        have hT := hw_23
        have hP : va_P D vwCl ([(ty_XO x w sp sv bu bl le)] ++ ws_24) H := hP
        have hD : va_D A ([(ty_XO x w sp sv bu bl le)] ++ ws_24) := hD
        refine vx_ret ?_
        exact W.iret (v := r_22) hx hb hr (fun t ht hW => ⟨⟨r_22, ws_24, rfl, hT, by rw [ht]; exact hP, by rw [hAe]; exact hD⟩, hS.F ht⟩) hS.2.2 dX10_start_41
      · refine lv_bipush (v := (-3)) hx hb dX10_start_18 (by decide) ?_
        refine vx_ret ?_
        exact W.iret (v := (-3)) hx hb hr (fun t ht hW => ⟨⟨(-3), ws_14, rfl, hT, by rw [ht]; exact hP, by rw [hAe]; exact hD⟩, hS.F ht⟩) hS.2.2 dX10_start_20
theorem dX10_replace_0 : decode cX10_replace 0 = .ok (.aload_n 0, 1) := by decide +kernel
theorem dX10_replace_1 : decode cX10_replace 1 = .ok (.iload_n 1, 1) := by decide +kernel
theorem dX10_replace_2 : decode cX10_replace 2 = .ok (.invokevirtual 172, 3) := by decide +kernel
theorem dX10_replace_5 : decode cX10_replace 5 = .ok (.astore_n 3, 1) := by decide +kernel
theorem dX10_replace_6 : decode cX10_replace 6 = .ok (.iload_n 2, 1) := by decide +kernel
theorem dX10_replace_7 : decode cX10_replace 7 = .ok (.iconst 0, 1) := by decide +kernel
theorem dX10_replace_8 : decode cX10_replace 8 = .ok (.aload_n 3, 1) := by decide +kernel
theorem dX10_replace_9 : decode cX10_replace 9 = .ok (.getfield 134, 3) := by decide +kernel
theorem dX10_replace_12 : decode cX10_replace 12 = .ok (.getfield 197, 3) := by decide +kernel
theorem dX10_replace_15 : decode cX10_replace 15 = .ok (.invokestatic 81, 3) := by decide +kernel
theorem dX10_replace_18 : decode cX10_replace 18 = .ok (.aload_n 3, 1) := by decide +kernel
theorem dX10_replace_19 : decode cX10_replace 19 = .ok (.getfield 129, 3) := by decide +kernel
theorem dX10_replace_22 : decode cX10_replace 22 = .ok (.iconst 1, 1) := by decide +kernel
theorem dX10_replace_23 : decode cX10_replace 23 = .ok (.if_icmp .eq 11, 3) := by decide +kernel
theorem dX10_replace_26 : decode cX10_replace 26 = .ok (.aload_n 3, 1) := by decide +kernel
theorem dX10_replace_27 : decode cX10_replace 27 = .ok (.getfield 129, 3) := by decide +kernel
theorem dX10_replace_30 : decode cX10_replace 30 = .ok (.iconst 2, 1) := by decide +kernel
theorem dX10_replace_31 : decode cX10_replace 31 = .ok (.if_icmp .ne 6, 3) := by decide +kernel
theorem dX10_replace_34 : decode cX10_replace 34 = .ok (.bipush (-3), 2) := by decide +kernel
theorem dX10_replace_36 : decode cX10_replace 36 = .ok (.ireturn, 1) := by decide +kernel
theorem dX10_replace_37 : decode cX10_replace 37 = .ok (.aload_n 3, 1) := by decide +kernel
theorem dX10_replace_38 : decode cX10_replace 38 = .ok (.getfield 134, 3) := by decide +kernel
theorem dX10_replace_41 : decode cX10_replace 41 = .ok (.getfield 200, 3) := by decide +kernel
theorem dX10_replace_44 : decode cX10_replace 44 = .ok (.istore 4, 2) := by decide +kernel
theorem dX10_replace_46 : decode cX10_replace 46 = .ok (.aload_n 3, 1) := by decide +kernel
theorem dX10_replace_47 : decode cX10_replace 47 = .ok (.iload_n 2, 1) := by decide +kernel
theorem dX10_replace_48 : decode cX10_replace 48 = .ok (.aload_n 0, 1) := by decide +kernel
theorem dX10_replace_49 : decode cX10_replace 49 = .ok (.getfield 10, 3) := by decide +kernel
theorem dX10_replace_52 : decode cX10_replace 52 = .ok (.getfield 95, 3) := by decide +kernel
theorem dX10_replace_55 : decode cX10_replace 55 = .ok (.getfield 122, 3) := by decide +kernel
theorem dX10_replace_58 : decode cX10_replace 58 = .ok (.invokevirtual 203, 3) := by decide +kernel
theorem dX10_replace_61 : decode cX10_replace 61 = .ok (.aload_n 0, 1) := by decide +kernel
theorem dX10_replace_62 : decode cX10_replace 62 = .ok (.getfield 10, 3) := by decide +kernel
theorem dX10_replace_65 : decode cX10_replace 65 = .ok (.iload_n 1, 1) := by decide +kernel
theorem dX10_replace_66 : decode cX10_replace 66 = .ok (.iconst 5, 1) := by decide +kernel
theorem dX10_replace_67 : decode cX10_replace 67 = .ok (.iconst 0, 1) := by decide +kernel
theorem dX10_replace_68 : decode cX10_replace 68 = .ok (.invokevirtual 207, 3) := by decide +kernel
theorem dX10_replace_71 : decode cX10_replace 71 = .ok (.iload 4, 2) := by decide +kernel
theorem dX10_replace_73 : decode cX10_replace 73 = .ok (.ireturn, 1) := by decide +kernel
set_option maxRecDepth 100000 in
set_option maxHeartbeats 4000000 in
theorem t_X10_replace (l : Launch) (hfl : l.stackTraces = false) (D : va_G) (ct : Nat → ClassId) (S : ty_S) (ws : va_W) (ph : va_W → Prop) (xx : Nat → Nat → Nat → Prop) (x : Nat) (w : Nat) (sp : Nat) (sv : Nat) (bu : Nat) (ns : Nat) (bl : Int32) (le : Int32) (p1 : Int32) (p2 : Int32) (sz : Nat) (hT : ty_V ct S ph ws) (h_w : S w = some (.inl 9)) (h_sp : S sp = some (.inl 9)) (h_sv : S sv = some (.inr (4, ns))) (hph : ty_C ph xx) (hy1 : ty_y1 xx) : vx_Met l yX10_replace (ws_ yX10_replace cX10_replace 5 (some .int)) ({ frames := 7, cells := 2, slots := 12, locals := 112 } : Room) (va_Pc [.ref x, .int p1, .int p2] (cmP D ct sz ([(ty_XO x w sp sv bu bl le)] ++ ws))) (va_Qi (fun (r : Int32) (u9 : va_W) => ty_V ct S ph u9) (cmB D ([(ty_XO x w sp sv bu bl le)] ++ ws) sz (fun (u9 : va_W) => ([(ty_XO x w sp sv bu bl le)] ++ u9))) (va_A ([(ty_XO x w sp sv bu bl le)] ++ ws) sz)) (vx_X (fun (u9 : va_W) => ty_V ct S ph u9) (cmBY D ([(ty_XO x w sp sv bu bl le)] ++ ws) sz ["java/lang/IllegalArgumentException", "java/lang/IndexOutOfBoundsException"] (fun (u9 : va_W) => ([(ty_XO x w sp sv bu bl le)] ++ u9))) (va_A ([(ty_XO x w sp sv bu bl le)] ++ ws) sz)) 2 12 (va_A ([(ty_XO x w sp sv bu bl le)] ++ ws) sz) := by
  refine vx_ofW (cc := cX10_replace) (maxL := 5) (ret := (some .int)) (by decide) rfl ?_
  intro p e s m args below meth c s₁ B hml hex hv
  obtain ⟨rfl, hsz, hP, hK, hD0, hX⟩ := hv
  have hx := B.exec
  have hb := B.bytes
  have hr := B.returns
  have hts := ws_all (atoms_spec (ws := ws_ yX10_replace cX10_replace 5 (some .int)) B.pre)
  have hown : s.vm.findClass RX10 = some m.cls := findClass_of_methodNamed B.named
  have hlocks := B.notSynchronized
  subst hsz
  have hD := hD0.self (sz := s.heap.size)
  generalize hAe : va_A ([(ty_XO x w sp sv bu bl le)] ++ ws) s.heap.size = A at hD hX ⊢
  have hA : ∀ q : Nat, s.heap.size ≤ q → A q := fun q h => by rw [← hAe]; exact Or.inr h
  have hS : va_S A s.heap s.heap [] := va_S.rf
  have hl := lv_entry ([.ref x, .int p1, .int p2]) (n := 5) (Nat.le_of_ble_eq_true rfl)
  rw [lg_entry_eq]
  generalize (lg_sl ([.ref x, .int p1, .int p2]) ++ List.replicate (5 - (lg_sl ([.ref x, .int p1, .int p2])).length) Slot.unset).toArray = ls at hl ⊢
  have hl : lv_has ls 5 [(0, .ref x), (1, .int p1), (2, .int p2)] := hl
  refine lv_aload_n hx hb dX10_replace_0 rfl (lv_at hl 0 rfl) ?_
  refine lv_iload_n hx hb dX10_replace_1 rfl (lv_at hl 1 rfl) ?_
  refine ty_xq (wr := []) (wc := ([(ty_XO x w sp sv bu bl le)] ++ ws)) (vx_runV (As := [.int p1]) (rest := []) ⟨hx, hb, hml, hown, hts⟩ (t_X10_needChannel l hfl D ct S ws ph xx x w sp sv bu ns bl le p1 _ hT h_w h_sp h_sv hph hy1) (cm_V 1 hts kc_X10_needChannel ki_RX10 kl_RX10_172 kv_X10_needChannel kx_X10_needChannel kd_X10_needChannel ⟨Nat.le_of_ble_eq_true rfl, Nat.le_of_ble_eq_true rfl⟩) (ty_preE (wr := []) (wc := ([(ty_XO x w sp sv bu bl le)] ++ ws)) (ci := 10) (q0 := 0) hP hK hD hS hA hX rfl rfl) rfl rfl hl.1 rfl (lv_room (Nat.le_of_ble_eq_true rfl)) dX10_replace_2 ⟨Nat.le_of_ble_eq_true rfl, Nat.le_of_ble_eq_true rfl⟩) hP hD hS hA (fun E ce q9 u H locs hu hE hP hD hS hce hcv hcl => ?_) (fun r_1 u H locs hw_2 hP hD hS => ?_)
  · obtain ⟨ws_3, rfl⟩ : ∃ z, z = u := ⟨_, rfl⟩
    have hT := hu
    have hP : va_P D vwCl ([(ty_XO x w sp sv bu bl le)] ++ ws_3) H := hP
    have hD : va_D A ([(ty_XO x w sp sv bu bl le)] ++ ws_3) := hD
    exact vx_out (fun x hx => (hex x hx).elim) hlocks hce hcv hcl (fun t ht hW => ⟨ws_3, hT, ⟨(ty_mem hE (by decide)), by rw [ht]; exact hP, by rw [hAe]; exact hD⟩, hS.F ht⟩) hS.2.2 (Nat.le_of_ble_eq_true rfl) (Nat.le_of_ble_eq_true rfl)
  · obtain ⟨ws_4, rfl⟩ : ∃ z, z = u := ⟨_, rfl⟩
    obtain ⟨hT, hq_5⟩ := hw_2
    have hP : va_P D vwCl ([(ty_XO x w sp sv bu bl le)] ++ ws_4) H := hP
    have hD : va_D A ([(ty_XO x w sp sv bu bl le)] ++ ws_4) := hD
    refine W.widen (k := 1) (n := 6) (Nat.le_of_ble_eq_true rfl) (Nat.le_of_ble_eq_true rfl) ?_
    obtain ⟨a_6, rfl, ha_7⟩ := hq_5
    refine W.eq (g2 := F0 m 5 ls (.ref a_6 :: [])) rfl ?_
    refine lv_astore_n (lv' := [(3, .ref a_6), (0, .ref x), (1, .int p1), (2, .int p2)]) hx hb dX10_replace_5 rfl hl (by decide) rfl (fun ls hl => ?_)
    refine lv_iload_n hx hb dX10_replace_6 rfl (lv_at hl 3 rfl) ?_
    refine lv_iconst (v := 0) hx hb dX10_replace_7 (by decide) ?_
    refine lv_aload_n hx hb dX10_replace_8 rfl (lv_at hl 0 rfl) ?_
    refine ty_getN (E := [(ty_XO x w sp sv bu bl le)]) (ws := ws_4) (D := D) (ci := 1) (C := RX1) (T := TX1) (N := 14) hx hb hts in_X1 hown hK hP hT ha_7 rfl 1 (by decide) (hts _ kl_RX10_134) (fun _ h9 => h9) rfl dX10_replace_9 (fun _ hv_8 hf_9 => ?_)
    obtain ⟨a_10, rfl, ha_11⟩ := hv_8
    refine ty_getN (E := [(ty_XO x w sp sv bu bl le)]) (ws := ws_4) (D := D) (ci := 0) (C := RX0) (T := TX0) (N := 16) hx hb hts in_X0 hown hK hP hT ha_11 rfl 2 (by decide) (hts _ kl_RX10_197) (fun _ h9 => h9) rfl dX10_replace_12 (fun _ hv_12 hf_13 => ?_)
    obtain ⟨x_14, rfl⟩ := hv_12
    refine ty_xv (wr := [(ty_XO x w sp sv bu bl le)]) (wc := ([] ++ ws_4)) (vx_runS (As := [.int p2, .int 0, .int x_14]) (rest := []) ⟨hx, hb, hml, hown, hts⟩ (t_X10_needRange l hfl D ct S ws_4 ph xx p2 (0 : Int32) x_14 _ hT hph hy1) (cm_S 3 hts kc_X10_needRange ki_RX10 kl_RX10_81 ks_X10_needRange kd_X10_needRange ⟨Nat.le_of_ble_eq_true rfl, Nat.le_of_ble_eq_true rfl⟩) (ty_preS (wr := [(ty_XO x w sp sv bu bl le)]) (wc := ([] ++ ws_4)) hP hK hD hS hA hX) rfl rfl hl.1 rfl (lv_room (Nat.le_of_ble_eq_true rfl)) dX10_replace_15 ⟨Nat.le_of_ble_eq_true rfl, Nat.le_of_ble_eq_true rfl⟩) hP hD hS hA (fun E ce q9 u H locs hu hE hP hD hS hce hcv hcl => ?_) (fun u H locs hw_16 hP hD hS => ?_)
    · obtain ⟨ws_17, rfl⟩ : ∃ z, z = u := ⟨_, rfl⟩
      have hT := hu
      have hP : va_P D vwCl ([(ty_XO x w sp sv bu bl le)] ++ ws_17) H := hP
      have hD : va_D A ([(ty_XO x w sp sv bu bl le)] ++ ws_17) := hD
      exact vx_out (fun x hx => (hex x hx).elim) hlocks hce hcv hcl (fun t ht hW => ⟨ws_17, hT, ⟨(ty_mem hE (by decide)), by rw [ht]; exact hP, by rw [hAe]; exact hD⟩, hS.F ht⟩) hS.2.2 (Nat.le_of_ble_eq_true rfl) (Nat.le_of_ble_eq_true rfl)
    · obtain ⟨ws_18, rfl⟩ : ∃ z, z = u := ⟨_, rfl⟩
      have hT := hw_16
      have hP : va_P D vwCl ([(ty_XO x w sp sv bu bl le)] ++ ws_18) H := hP
      have hD : va_D A ([(ty_XO x w sp sv bu bl le)] ++ ws_18) := hD
      refine W.widen (k := 2) (n := 12) (Nat.le_of_ble_eq_true rfl) (Nat.le_of_ble_eq_true rfl) ?_
      refine lv_aload_n hx hb dX10_replace_18 rfl (lv_at hl 0 rfl) ?_
      refine ty_getN (E := [(ty_XO x w sp sv bu bl le)]) (ws := ws_18) (D := D) (ci := 1) (C := RX1) (T := TX1) (N := 14) hx hb hts in_X1 hown hK hP hT ha_7 rfl 3 (by decide) (hts _ kl_RX10_129) (fun _ h9 => h9) rfl dX10_replace_19 (fun _ hv_19 hf_20 => ?_)
      obtain ⟨x_21, rfl⟩ := hv_19
      refine lv_iconst (v := 1) hx hb dX10_replace_22 (by decide) ?_
      refine lv_icmp_eq (tgt := 34) hx hb dX10_replace_23 (by decide) (fun hc_22 => ?_) (fun hc_22 => ?_)
      · refine lv_bipush (v := (-3)) hx hb dX10_replace_34 (by decide) ?_
        refine vx_ret ?_
        exact W.iret (v := (-3)) hx hb hr (fun t ht hW => ⟨⟨(-3), ws_18, rfl, hT, by rw [ht]; exact hP, by rw [hAe]; exact hD⟩, hS.F ht⟩) hS.2.2 dX10_replace_36
      · refine lv_aload_n hx hb dX10_replace_26 rfl (lv_at hl 0 rfl) ?_
        refine ty_getN (E := [(ty_XO x w sp sv bu bl le)]) (ws := ws_18) (D := D) (ci := 1) (C := RX1) (T := TX1) (N := 14) hx hb hts in_X1 hown hK hP hT ha_7 rfl 3 (by decide) (hts _ kl_RX10_129) (fun _ h9 => h9) rfl dX10_replace_27 (fun _ hv_23 hf_24 => ?_)
        obtain ⟨x_25, rfl⟩ := hv_23
        refine lv_iconst (v := 2) hx hb dX10_replace_30 (by decide) ?_
        refine lv_icmp_ne (tgt := 37) hx hb dX10_replace_31 (by decide) (fun hc_26 => ?_) (fun hc_26 => ?_)
        · refine lv_aload_n hx hb dX10_replace_37 rfl (lv_at hl 0 rfl) ?_
          refine ty_getN (E := [(ty_XO x w sp sv bu bl le)]) (ws := ws_18) (D := D) (ci := 1) (C := RX1) (T := TX1) (N := 14) hx hb hts in_X1 hown hK hP hT ha_7 rfl 1 (by decide) (hts _ kl_RX10_134) (fun _ h9 => h9) rfl dX10_replace_38 (fun _ hv_27 hf_28 => ?_)
          obtain ⟨a_29, rfl, ha_30⟩ := hv_27
          refine ty_getN (E := [(ty_XO x w sp sv bu bl le)]) (ws := ws_18) (D := D) (ci := 0) (C := RX0) (T := TX0) (N := 16) hx hb hts in_X0 hown hK hP hT ha_30 rfl 6 (by decide) (hts _ kl_RX10_200) (fun _ h9 => h9) rfl dX10_replace_41 (fun _ hv_31 hf_32 => ?_)
          obtain ⟨x_33, rfl⟩ := hv_31
          refine lv_istore (lv' := [(4, .int x_33), (3, .ref a_6), (0, .ref x), (1, .int p1), (2, .int p2)]) hx hb dX10_replace_44 hl (by decide) rfl (fun ls hl => ?_)
          refine lv_aload_n hx hb dX10_replace_46 rfl (lv_at hl 1 rfl) ?_
          refine lv_iload_n hx hb dX10_replace_47 rfl (lv_at hl 4 rfl) ?_
          refine lv_aload_n hx hb dX10_replace_48 rfl (lv_at hl 2 rfl) ?_
          refine va_get (v := .ref w) (D := D) (ci := 10) (C := RX10) (T := TX10) (N := 6) hx hb hts in_X10 hown hK hP 0 rfl rfl 0 (by decide) (hts _ kl_RX10_10) (fun _ h9 => h9) rfl dX10_replace_49 ?_
          refine ty_getN (E := [(ty_XO x w sp sv bu bl le)]) (ws := ws_18) (D := D) (ci := 9) (C := RX9) (T := TX9) (N := 8) hx hb hts in_X9 hown hK hP hT h_w rfl 1 (by decide) (hts _ kl_RX10_95) (fun _ h9 => h9) rfl dX10_replace_52 (fun _ hv_34 hf_35 => ?_)
          obtain ⟨a_36, rfl, ha_37⟩ := hv_34
          refine ty_getN (E := [(ty_XO x w sp sv bu bl le)]) (ws := ws_18) (D := D) (ci := 7) (C := RX7) (T := TX7) (N := 12) hx hb hts in_X7 hown hK hP hT ha_37 rfl 7 (by decide) (hts _ kl_RX10_122) (fun _ h9 => h9) rfl dX10_replace_55 (fun _ hv_38 hf_39 => ?_)
          obtain ⟨x_40, rfl⟩ := hv_38
          refine ty_kv (wr := [(ty_XO x w sp sv bu bl le)]) (wc := ([] ++ ws_18)) (va_runVN (As := [.int p2, .int x_40]) (rest := []) ⟨hx, hb, hml, hown, hts⟩ (t_X1_insertCell l D ct S ws_18 ph xx a_6 p2 x_40 _ hT ha_7 hph hy1) (cm_VN 2 hts kc_X1_insertCell ki_RX1 kl_RX10_203 kv_X1_insertCell kx_X1_insertCell kd_X1_insertCell ⟨Nat.le_of_ble_eq_true rfl, Nat.le_of_ble_eq_true rfl⟩) (ty_preV (wr := [(ty_XO x w sp sv bu bl le)]) (E := []) (ws := ws_18) (ci := 1) hP hK hD hS hA hX hT rfl ha_7) rfl rfl hl.1 rfl (lv_room (Nat.le_of_ble_eq_true rfl)) dX10_replace_58 ⟨Nat.le_of_ble_eq_true rfl, Nat.le_of_ble_eq_true rfl⟩) hP hD hS hA (fun u H locs hw_42 hP hD hS => ?_)
          obtain ⟨ws_43, rfl⟩ : ∃ z, z = u := ⟨_, rfl⟩
          have hT := hw_42
          have hP : va_P D vwCl ([(ty_XO x w sp sv bu bl le)] ++ ws_43) H := hP
          have hD : va_D A ([(ty_XO x w sp sv bu bl le)] ++ ws_43) := hD
          refine lv_aload_n hx hb dX10_replace_61 rfl (lv_at hl 2 rfl) ?_
          refine va_get (v := .ref w) (D := D) (ci := 10) (C := RX10) (T := TX10) (N := 6) hx hb hts in_X10 hown hK hP 0 rfl rfl 0 (by decide) (hts _ kl_RX10_10) (fun _ h9 => h9) rfl dX10_replace_62 ?_
          refine lv_iload_n hx hb dX10_replace_65 rfl (lv_at hl 3 rfl) ?_
          refine lv_iconst (v := 5) hx hb dX10_replace_66 (by decide) ?_
          refine lv_iconst (v := 0) hx hb dX10_replace_67 (by decide) ?_
          refine ty_kv (wr := [(ty_XO x w sp sv bu bl le)]) (wc := ([] ++ ws_43)) (va_runVN (As := [.int p1, .int 5, .int 0]) (rest := []) ⟨hx, hb, hml, hown, hts⟩ (t_X9_note l D ct S ws_43 ph xx w p1 (5 : Int32) (0 : Int32) _ hT h_w hph hy1) (cm_VN 3 hts kc_X9_note ki_RX9 kl_RX10_207 kv_X9_note kx_X9_note kd_X9_note ⟨Nat.le_of_ble_eq_true rfl, Nat.le_of_ble_eq_true rfl⟩) (ty_preV (wr := [(ty_XO x w sp sv bu bl le)]) (E := []) (ws := ws_43) (ci := 9) hP hK hD hS hA hX hT rfl h_w) rfl rfl hl.1 rfl (lv_room (Nat.le_of_ble_eq_true rfl)) dX10_replace_68 ⟨Nat.le_of_ble_eq_true rfl, Nat.le_of_ble_eq_true rfl⟩) hP hD hS hA (fun u H locs hw_45 hP hD hS => ?_)
          obtain ⟨ws_46, rfl⟩ : ∃ z, z = u := ⟨_, rfl⟩
          have hT := hw_45
          have hP : va_P D vwCl ([(ty_XO x w sp sv bu bl le)] ++ ws_46) H := hP
          have hD : va_D A ([(ty_XO x w sp sv bu bl le)] ++ ws_46) := hD
          refine lv_iload hx hb dX10_replace_71 (lv_at hl 0 rfl) ?_
          refine vx_ret ?_
          exact W.iret (v := x_33) hx hb hr (fun t ht hW => ⟨⟨x_33, ws_46, rfl, hT, by rw [ht]; exact hP, by rw [hAe]; exact hD⟩, hS.F ht⟩) hS.2.2 dX10_replace_73
        · refine lv_bipush (v := (-3)) hx hb dX10_replace_34 (by decide) ?_
          refine vx_ret ?_
          exact W.iret (v := (-3)) hx hb hr (fun t ht hW => ⟨⟨(-3), ws_18, rfl, hT, by rw [ht]; exact hP, by rw [hAe]; exact hD⟩, hS.F ht⟩) hS.2.2 dX10_replace_36
theorem dX10_startNext_0 : decode cX10_startNext 0 = .ok (.aload_n 0, 1) := by decide +kernel
theorem dX10_startNext_1 : decode cX10_startNext 1 = .ok (.iload_n 1, 1) := by decide +kernel
theorem dX10_startNext_2 : decode cX10_startNext 2 = .ok (.invokevirtual 172, 3) := by decide +kernel
theorem dX10_startNext_5 : decode cX10_startNext 5 = .ok (.astore_n 2, 1) := by decide +kernel
theorem dX10_startNext_6 : decode cX10_startNext 6 = .ok (.aload_n 2, 1) := by decide +kernel
theorem dX10_startNext_7 : decode cX10_startNext 7 = .ok (.invokevirtual 175, 3) := by decide +kernel
theorem dX10_startNext_10 : decode cX10_startNext 10 = .ok (.ifCond .ne 6, 3) := by decide +kernel
theorem dX10_startNext_13 : decode cX10_startNext 13 = .ok (.bipush (-3), 2) := by decide +kernel
theorem dX10_startNext_15 : decode cX10_startNext 15 = .ok (.ireturn, 1) := by decide +kernel
theorem dX10_startNext_16 : decode cX10_startNext 16 = .ok (.aload_n 2, 1) := by decide +kernel
theorem dX10_startNext_17 : decode cX10_startNext 17 = .ok (.getfield 210, 3) := by decide +kernel
theorem dX10_startNext_20 : decode cX10_startNext 20 = .ok (.ifCond .ne 5, 3) := by decide +kernel
theorem dX10_startNext_23 : decode cX10_startNext 23 = .ok (.iconst (-1), 1) := by decide +kernel
theorem dX10_startNext_24 : decode cX10_startNext 24 = .ok (.ireturn, 1) := by decide +kernel
theorem dX10_startNext_25 : decode cX10_startNext 25 = .ok (.aload_n 2, 1) := by decide +kernel
theorem dX10_startNext_26 : decode cX10_startNext 26 = .ok (.aload_n 2, 1) := by decide +kernel
theorem dX10_startNext_27 : decode cX10_startNext 27 = .ok (.invokevirtual 220, 3) := by decide +kernel
theorem dX10_startNext_30 : decode cX10_startNext 30 = .ok (.aload_n 0, 1) := by decide +kernel
theorem dX10_startNext_31 : decode cX10_startNext 31 = .ok (.getfield 10, 3) := by decide +kernel
theorem dX10_startNext_34 : decode cX10_startNext 34 = .ok (.invokevirtual 179, 3) := by decide +kernel
theorem dX10_startNext_37 : decode cX10_startNext 37 = .ok (.aload_n 2, 1) := by decide +kernel
theorem dX10_startNext_38 : decode cX10_startNext 38 = .ok (.getfield 224, 3) := by decide +kernel
theorem dX10_startNext_41 : decode cX10_startNext 41 = .ok (.ireturn, 1) := by decide +kernel
set_option maxRecDepth 100000 in
set_option maxHeartbeats 4000000 in
theorem t_X10_startNext (l : Launch) (hfl : l.stackTraces = false) (D : va_G) (ct : Nat → ClassId) (S : ty_S) (ws : va_W) (ph : va_W → Prop) (xx : Nat → Nat → Nat → Prop) (x : Nat) (w : Nat) (sp : Nat) (sv : Nat) (bu : Nat) (ns : Nat) (bl : Int32) (le : Int32) (p1 : Int32) (sz : Nat) (hT : ty_V ct S ph ws) (h_w : S w = some (.inl 9)) (h_sp : S sp = some (.inl 9)) (h_sv : S sv = some (.inr (4, ns))) (hph : ty_C ph xx) (hy1 : ty_y1 xx) : vx_Met l yX10_startNext (ws_ yX10_startNext cX10_startNext 3 (some .int)) ({ frames := 7, cells := 1, slots := 6, locals := 112 } : Room) (va_Pc [.ref x, .int p1] (cmP D ct sz ([(ty_XO x w sp sv bu bl le)] ++ ws))) (va_Qi (fun (r : Int32) (u9 : va_W) => ty_V ct S ph u9) (cmB D ([(ty_XO x w sp sv bu bl le)] ++ ws) sz (fun (u9 : va_W) => ([(ty_XO x w sp sv bu bl le)] ++ u9))) (va_A ([(ty_XO x w sp sv bu bl le)] ++ ws) sz)) (vx_X (fun (u9 : va_W) => ty_V ct S ph u9) (cmBY D ([(ty_XO x w sp sv bu bl le)] ++ ws) sz ["java/lang/IndexOutOfBoundsException"] (fun (u9 : va_W) => ([(ty_XO x w sp sv bu bl le)] ++ u9))) (va_A ([(ty_XO x w sp sv bu bl le)] ++ ws) sz)) 1 6 (va_A ([(ty_XO x w sp sv bu bl le)] ++ ws) sz) := by
  refine vx_ofW (cc := cX10_startNext) (maxL := 3) (ret := (some .int)) (by decide) rfl ?_
  intro p e s m args below meth c s₁ B hml hex hv
  obtain ⟨rfl, hsz, hP, hK, hD0, hX⟩ := hv
  have hx := B.exec
  have hb := B.bytes
  have hr := B.returns
  have hts := ws_all (atoms_spec (ws := ws_ yX10_startNext cX10_startNext 3 (some .int)) B.pre)
  have hown : s.vm.findClass RX10 = some m.cls := findClass_of_methodNamed B.named
  have hlocks := B.notSynchronized
  subst hsz
  have hD := hD0.self (sz := s.heap.size)
  generalize hAe : va_A ([(ty_XO x w sp sv bu bl le)] ++ ws) s.heap.size = A at hD hX ⊢
  have hA : ∀ q : Nat, s.heap.size ≤ q → A q := fun q h => by rw [← hAe]; exact Or.inr h
  have hS : va_S A s.heap s.heap [] := va_S.rf
  have hl := lv_entry ([.ref x, .int p1]) (n := 3) (Nat.le_of_ble_eq_true rfl)
  rw [lg_entry_eq]
  generalize (lg_sl ([.ref x, .int p1]) ++ List.replicate (3 - (lg_sl ([.ref x, .int p1])).length) Slot.unset).toArray = ls at hl ⊢
  have hl : lv_has ls 3 [(0, .ref x), (1, .int p1)] := hl
  refine lv_aload_n hx hb dX10_startNext_0 rfl (lv_at hl 0 rfl) ?_
  refine lv_iload_n hx hb dX10_startNext_1 rfl (lv_at hl 1 rfl) ?_
  refine ty_xq (wr := []) (wc := ([(ty_XO x w sp sv bu bl le)] ++ ws)) (vx_runV (As := [.int p1]) (rest := []) ⟨hx, hb, hml, hown, hts⟩ (t_X10_needChannel l hfl D ct S ws ph xx x w sp sv bu ns bl le p1 _ hT h_w h_sp h_sv hph hy1) (cm_V 1 hts kc_X10_needChannel ki_RX10 kl_RX10_172 kv_X10_needChannel kx_X10_needChannel kd_X10_needChannel ⟨Nat.le_of_ble_eq_true rfl, Nat.le_of_ble_eq_true rfl⟩) (ty_preE (wr := []) (wc := ([(ty_XO x w sp sv bu bl le)] ++ ws)) (ci := 10) (q0 := 0) hP hK hD hS hA hX rfl rfl) rfl rfl hl.1 rfl (lv_room (Nat.le_of_ble_eq_true rfl)) dX10_startNext_2 ⟨Nat.le_of_ble_eq_true rfl, Nat.le_of_ble_eq_true rfl⟩) hP hD hS hA (fun E ce q9 u H locs hu hE hP hD hS hce hcv hcl => ?_) (fun r_1 u H locs hw_2 hP hD hS => ?_)
  · obtain ⟨ws_3, rfl⟩ : ∃ z, z = u := ⟨_, rfl⟩
    have hT := hu
    have hP : va_P D vwCl ([(ty_XO x w sp sv bu bl le)] ++ ws_3) H := hP
    have hD : va_D A ([(ty_XO x w sp sv bu bl le)] ++ ws_3) := hD
    exact vx_out (fun x hx => (hex x hx).elim) hlocks hce hcv hcl (fun t ht hW => ⟨ws_3, hT, ⟨hE, by rw [ht]; exact hP, by rw [hAe]; exact hD⟩, hS.F ht⟩) hS.2.2 (Nat.le_of_ble_eq_true rfl) (Nat.le_of_ble_eq_true rfl)
  · obtain ⟨ws_4, rfl⟩ : ∃ z, z = u := ⟨_, rfl⟩
    obtain ⟨hT, hq_5⟩ := hw_2
    have hP : va_P D vwCl ([(ty_XO x w sp sv bu bl le)] ++ ws_4) H := hP
    have hD : va_D A ([(ty_XO x w sp sv bu bl le)] ++ ws_4) := hD
    refine W.widen (k := 1) (n := 6) (Nat.le_of_ble_eq_true rfl) (Nat.le_of_ble_eq_true rfl) ?_
    obtain ⟨a_6, rfl, ha_7⟩ := hq_5
    refine W.eq (g2 := F0 m 5 ls (.ref a_6 :: [])) rfl ?_
    refine lv_astore_n (lv' := [(2, .ref a_6), (0, .ref x), (1, .int p1)]) hx hb dX10_startNext_5 rfl hl (by decide) rfl (fun ls hl => ?_)
    refine lv_aload_n hx hb dX10_startNext_6 rfl (lv_at hl 0 rfl) ?_
    refine ty_ki (wr := [(ty_XO x w sp sv bu bl le)]) (wc := ([] ++ ws_4)) (va_runVN (As := []) (rest := []) ⟨hx, hb, hml, hown, hts⟩ (t_X1_isFree l D ct S ws_4 ph xx a_6 _ hT ha_7 hph hy1) (cm_VN 0 hts kc_X1_isFree ki_RX1 kl_RX10_175 kv_X1_isFree kx_X1_isFree kd_X1_isFree ⟨Nat.le_of_ble_eq_true rfl, Nat.le_of_ble_eq_true rfl⟩) (ty_preV (wr := [(ty_XO x w sp sv bu bl le)]) (E := []) (ws := ws_4) (ci := 1) hP hK hD hS hA hX hT rfl ha_7) rfl rfl hl.1 rfl (lv_room (Nat.le_of_ble_eq_true rfl)) dX10_startNext_7 ⟨Nat.le_of_ble_eq_true rfl, Nat.le_of_ble_eq_true rfl⟩) hP hD hS hA (fun r_8 u H locs hw_9 hP hD hS => ?_)
    obtain ⟨ws_10, rfl⟩ : ∃ z, z = u := ⟨_, rfl⟩
    have hT := hw_9
    have hP : va_P D vwCl ([(ty_XO x w sp sv bu bl le)] ++ ws_10) H := hP
    have hD : va_D A ([(ty_XO x w sp sv bu bl le)] ++ ws_10) := hD
    refine lv_if_ne (tgt := 16) hx hb dX10_startNext_10 (by decide) (fun hc_11 => ?_) (fun hc_11 => ?_)
    · refine lv_aload_n hx hb dX10_startNext_16 rfl (lv_at hl 0 rfl) ?_
      refine ty_getN (E := [(ty_XO x w sp sv bu bl le)]) (ws := ws_10) (D := D) (ci := 1) (C := RX1) (T := TX1) (N := 14) hx hb hts in_X1 hown hK hP hT ha_7 rfl 9 (by decide) (hts _ kl_RX10_210) (fun _ h9 => h9) rfl dX10_startNext_17 (fun _ hv_12 hf_13 => ?_)
      obtain ⟨x_14, rfl⟩ := hv_12
      refine lv_if_ne (tgt := 25) hx hb dX10_startNext_20 (by decide) (fun hc_15 => ?_) (fun hc_15 => ?_)
      · refine lv_aload_n hx hb dX10_startNext_25 rfl (lv_at hl 0 rfl) ?_
        refine lv_aload_n hx hb dX10_startNext_26 rfl (lv_at hl 0 rfl) ?_
        refine ty_ki (wr := [(ty_XO x w sp sv bu bl le)]) (wc := ([] ++ ws_10)) (va_runVN (As := []) (rest := [.ref a_6]) ⟨hx, hb, hml, hown, hts⟩ (t_X1_takeWaiting l D ct S ws_10 ph xx a_6 _ hT ha_7 hph hy1) (cm_VN 0 hts kc_X1_takeWaiting ki_RX1 kl_RX10_220 kv_X1_takeWaiting kx_X1_takeWaiting kd_X1_takeWaiting ⟨Nat.le_of_ble_eq_true rfl, Nat.le_of_ble_eq_true rfl⟩) (ty_preV (wr := [(ty_XO x w sp sv bu bl le)]) (E := []) (ws := ws_10) (ci := 1) hP hK hD hS hA hX hT rfl ha_7) rfl rfl hl.1 rfl (lv_room (Nat.le_of_ble_eq_true rfl)) dX10_startNext_27 ⟨Nat.le_of_ble_eq_true rfl, Nat.le_of_ble_eq_true rfl⟩) hP hD hS hA (fun r_16 u H locs hw_17 hP hD hS => ?_)
        obtain ⟨ws_18, rfl⟩ : ∃ z, z = u := ⟨_, rfl⟩
        have hT := hw_17
        have hP : va_P D vwCl ([(ty_XO x w sp sv bu bl le)] ++ ws_18) H := hP
        have hD : va_D A ([(ty_XO x w sp sv bu bl le)] ++ ws_18) := hD
        refine lv_aload_n hx hb dX10_startNext_30 rfl (lv_at hl 1 rfl) ?_
        refine va_get (v := .ref w) (D := D) (ci := 10) (C := RX10) (T := TX10) (N := 6) hx hb hts in_X10 hown hK hP 0 rfl rfl 0 (by decide) (hts _ kl_RX10_10) (fun _ h9 => h9) rfl dX10_startNext_31 ?_
        refine ty_kv (wr := [(ty_XO x w sp sv bu bl le)]) (wc := ([] ++ ws_18)) (va_runVN (As := [.int r_16, .ref w]) (rest := []) ⟨hx, hb, hml, hown, hts⟩ (t_X1_begin l D ct S ws_18 ph xx a_6 r_16 w _ hT ha_7 h_w hph hy1) (cm_VN 2 hts kc_X1_begin ki_RX1 kl_RX10_179 kv_X1_begin kx_X1_begin kd_X1_begin ⟨Nat.le_of_ble_eq_true rfl, Nat.le_of_ble_eq_true rfl⟩) (ty_preV (wr := [(ty_XO x w sp sv bu bl le)]) (E := []) (ws := ws_18) (ci := 1) hP hK hD hS hA hX hT rfl ha_7) rfl rfl hl.1 rfl (lv_room (Nat.le_of_ble_eq_true rfl)) dX10_startNext_34 ⟨Nat.le_of_ble_eq_true rfl, Nat.le_of_ble_eq_true rfl⟩) hP hD hS hA (fun u H locs hw_20 hP hD hS => ?_)
        obtain ⟨ws_21, rfl⟩ : ∃ z, z = u := ⟨_, rfl⟩
        have hT := hw_20
        have hP : va_P D vwCl ([(ty_XO x w sp sv bu bl le)] ++ ws_21) H := hP
        have hD : va_D A ([(ty_XO x w sp sv bu bl le)] ++ ws_21) := hD
        refine lv_aload_n hx hb dX10_startNext_37 rfl (lv_at hl 0 rfl) ?_
        refine ty_getN (E := [(ty_XO x w sp sv bu bl le)]) (ws := ws_21) (D := D) (ci := 1) (C := RX1) (T := TX1) (N := 14) hx hb hts in_X1 hown hK hP hT ha_7 rfl 4 (by decide) (hts _ kl_RX10_224) (fun _ h9 => h9) rfl dX10_startNext_38 (fun _ hv_22 hf_23 => ?_)
        obtain ⟨x_24, rfl⟩ := hv_22
        refine vx_ret ?_
        exact W.iret (v := x_24) hx hb hr (fun t ht hW => ⟨⟨x_24, ws_21, rfl, hT, by rw [ht]; exact hP, by rw [hAe]; exact hD⟩, hS.F ht⟩) hS.2.2 dX10_startNext_41
      · refine lv_iconst (v := (-1)) hx hb dX10_startNext_23 (by decide) ?_
        refine vx_ret ?_
        exact W.iret (v := (-1)) hx hb hr (fun t ht hW => ⟨⟨(-1), ws_10, rfl, hT, by rw [ht]; exact hP, by rw [hAe]; exact hD⟩, hS.F ht⟩) hS.2.2 dX10_startNext_24
    · refine lv_bipush (v := (-3)) hx hb dX10_startNext_13 (by decide) ?_
      refine vx_ret ?_
      exact W.iret (v := (-3)) hx hb hr (fun t ht hW => ⟨⟨(-3), ws_10, rfl, hT, by rw [ht]; exact hP, by rw [hAe]; exact hD⟩, hS.F ht⟩) hS.2.2 dX10_startNext_15
theorem dX10_needTrial_0 : decode cX10_needTrial 0 = .ok (.aload_n 0, 1) := by decide +kernel
theorem dX10_needTrial_1 : decode cX10_needTrial 1 = .ok (.getfield 16, 3) := by decide +kernel
theorem dX10_needTrial_4 : decode cX10_needTrial 4 = .ok (.aload_n 0, 1) := by decide +kernel
theorem dX10_needTrial_5 : decode cX10_needTrial 5 = .ok (.getfield 10, 3) := by decide +kernel
theorem dX10_needTrial_8 : decode cX10_needTrial 8 = .ok (.invokevirtual 60, 3) := by decide +kernel
theorem dX10_needTrial_11 : decode cX10_needTrial 11 = .ok (.aload_n 0, 1) := by decide +kernel
theorem dX10_needTrial_12 : decode cX10_needTrial 12 = .ok (.getfield 16, 3) := by decide +kernel
theorem dX10_needTrial_15 : decode cX10_needTrial 15 = .ok (.iload_n 1, 1) := by decide +kernel
theorem dX10_needTrial_16 : decode cX10_needTrial 16 = .ok (.invokevirtual 125, 3) := by decide +kernel
theorem dX10_needTrial_19 : decode cX10_needTrial 19 = .ok (.astore_n 2, 1) := by decide +kernel
theorem dX10_needTrial_20 : decode cX10_needTrial 20 = .ok (.aload_n 2, 1) := by decide +kernel
theorem dX10_needTrial_21 : decode cX10_needTrial 21 = .ok (.ifnonnull 11, 3) := by decide +kernel
theorem dX10_needTrial_24 : decode cX10_needTrial 24 = .ok (.new 357, 3) := by decide +kernel
theorem dX10_needTrial_27 : decode cX10_needTrial 27 = .ok (.dup, 1) := by decide +kernel
theorem dX10_needTrial_28 : decode cX10_needTrial 28 = .ok (.invokespecial 359, 3) := by decide +kernel
theorem dX10_needTrial_31 : decode cX10_needTrial 31 = .ok (.athrow, 1) := by decide +kernel
theorem dX10_needTrial_32 : decode cX10_needTrial 32 = .ok (.aload_n 2, 1) := by decide +kernel
theorem dX10_needTrial_33 : decode cX10_needTrial 33 = .ok (.areturn, 1) := by decide +kernel
set_option maxRecDepth 100000 in
set_option maxHeartbeats 4000000 in
theorem t_X10_needTrial (l : Launch) (hfl : l.stackTraces = false) (D : va_G) (ct : Nat → ClassId) (S : ty_S) (ws : va_W) (ph : va_W → Prop) (xx : Nat → Nat → Nat → Prop) (x : Nat) (w : Nat) (sp : Nat) (sv : Nat) (bu : Nat) (ns : Nat) (bl : Int32) (le : Int32) (p1 : Int32) (sz : Nat) (hT : ty_V ct S ph ws) (h_w : S w = some (.inl 9)) (h_sp : S sp = some (.inl 9)) (h_sv : S sv = some (.inr (4, ns))) (hph : ty_C ph xx) (hy1 : ty_y1 xx) (hy2 : ty_y0 xx 2) (hy5 : ty_y0 xx 5) (hy7 : ty_yc xx 7) (hy11 : ty_y0 xx 11) (hys : xx 9 0 sp ∧ xx 9 4 sp) : vx_Met l yX10_needTrial (ws_ yX10_needTrial cX10_needTrial 3 (some (.object "CellCycler$Channel"))) ({ frames := 6, cells := 1, slots := 6, locals := 167 } : Room) (va_Pc [.ref x, .int p1] (cmP D ct sz ([(ty_XO x w sp sv bu bl le)] ++ ws))) (va_Qq (fun (r : Option Nat) (u9 : va_W) => ty_V ct S ph u9 ∧ (∃ a : Nat, r = some a ∧ S a = some (.inl 1))) (cmB D ([(ty_XO x w sp sv bu bl le)] ++ ws) sz (fun (u9 : va_W) => ([(ty_XO x w sp sv bu bl le)] ++ u9))) (va_A ([(ty_XO x w sp sv bu bl le)] ++ ws) sz)) (vx_X (fun (u9 : va_W) => ty_V ct S ph u9) (cmBY D ([(ty_XO x w sp sv bu bl le)] ++ ws) sz ["java/lang/IndexOutOfBoundsException"] (fun (u9 : va_W) => ([(ty_XO x w sp sv bu bl le)] ++ u9))) (va_A ([(ty_XO x w sp sv bu bl le)] ++ ws) sz)) 1 6 (va_A ([(ty_XO x w sp sv bu bl le)] ++ ws) sz) := by
  refine vx_ofW (cc := cX10_needTrial) (maxL := 3) (ret := (some (.object "CellCycler$Channel"))) (by decide) rfl ?_
  intro p e s m args below meth c s₁ B hml hex hv
  obtain ⟨rfl, hsz, hP, hK, hD0, hX⟩ := hv
  have hx := B.exec
  have hb := B.bytes
  have hr := B.returns
  have hts := ws_all (atoms_spec (ws := ws_ yX10_needTrial cX10_needTrial 3 (some (.object "CellCycler$Channel"))) B.pre)
  have hown : s.vm.findClass RX10 = some m.cls := findClass_of_methodNamed B.named
  have hlocks := B.notSynchronized
  subst hsz
  have hD := hD0.self (sz := s.heap.size)
  generalize hAe : va_A ([(ty_XO x w sp sv bu bl le)] ++ ws) s.heap.size = A at hD hX ⊢
  have hA : ∀ q : Nat, s.heap.size ≤ q → A q := fun q h => by rw [← hAe]; exact Or.inr h
  have hS : va_S A s.heap s.heap [] := va_S.rf
  have hl := lv_entry ([.ref x, .int p1]) (n := 3) (Nat.le_of_ble_eq_true rfl)
  rw [lg_entry_eq]
  generalize (lg_sl ([.ref x, .int p1]) ++ List.replicate (3 - (lg_sl ([.ref x, .int p1])).length) Slot.unset).toArray = ls at hl ⊢
  have hl : lv_has ls 3 [(0, .ref x), (1, .int p1)] := hl
  refine lv_aload_n hx hb dX10_needTrial_0 rfl (lv_at hl 0 rfl) ?_
  refine va_get (v := .ref sp) (D := D) (ci := 10) (C := RX10) (T := TX10) (N := 6) hx hb hts in_X10 hown hK hP 0 rfl rfl 1 (by decide) (hts _ kl_RX10_16) (fun _ h9 => h9) rfl dX10_needTrial_1 ?_
  refine lv_aload_n hx hb dX10_needTrial_4 rfl (lv_at hl 0 rfl) ?_
  refine va_get (v := .ref w) (D := D) (ci := 10) (C := RX10) (T := TX10) (N := 6) hx hb hts in_X10 hown hK hP 0 rfl rfl 0 (by decide) (hts _ kl_RX10_10) (fun _ h9 => h9) rfl dX10_needTrial_5 ?_
  refine ty_kv (wr := [(ty_XO x w sp sv bu bl le)]) (wc := ([] ++ ws)) (va_runVN (As := [.ref w]) (rest := []) ⟨hx, hb, hml, hown, hts⟩ (t_X9_copyFrom l D ct S ws ph xx sp w _ hT h_sp h_w hph hy1 hy2 hy5 hy7 hy11 hys) (cm_VN 1 hts kc_X9_copyFrom ki_RX9 kl_RX10_60 kv_X9_copyFrom kx_X9_copyFrom kd_X9_copyFrom ⟨Nat.le_of_ble_eq_true rfl, Nat.le_of_ble_eq_true rfl⟩) (ty_preV (wr := [(ty_XO x w sp sv bu bl le)]) (E := []) (ws := ws) (ci := 9) hP hK hD hS hA hX hT rfl h_sp) rfl rfl hl.1 rfl (lv_room (Nat.le_of_ble_eq_true rfl)) dX10_needTrial_8 ⟨Nat.le_of_ble_eq_true rfl, Nat.le_of_ble_eq_true rfl⟩) hP hD hS hA (fun u H locs hw_2 hP hD hS => ?_)
  obtain ⟨ws_3, rfl⟩ : ∃ z, z = u := ⟨_, rfl⟩
  have hT := hw_2
  have hP : va_P D vwCl ([(ty_XO x w sp sv bu bl le)] ++ ws_3) H := hP
  have hD : va_D A ([(ty_XO x w sp sv bu bl le)] ++ ws_3) := hD
  refine lv_aload_n hx hb dX10_needTrial_11 rfl (lv_at hl 0 rfl) ?_
  refine va_get (v := .ref sp) (D := D) (ci := 10) (C := RX10) (T := TX10) (N := 6) hx hb hts in_X10 hown hK hP 0 rfl rfl 1 (by decide) (hts _ kl_RX10_16) (fun _ h9 => h9) rfl dX10_needTrial_12 ?_
  refine lv_iload_n hx hb dX10_needTrial_15 rfl (lv_at hl 1 rfl) ?_
  refine ty_kq (wr := [(ty_XO x w sp sv bu bl le)]) (wc := ([] ++ ws_3)) (va_runVN (As := [.int p1]) (rest := []) ⟨hx, hb, hml, hown, hts⟩ (t_X9_channelAt l D ct S ws_3 ph xx sp p1 _ hT h_sp hph hy1) (cm_VN 1 hts kc_X9_channelAt ki_RX9 kl_RX10_125 kv_X9_channelAt kx_X9_channelAt kd_X9_channelAt ⟨Nat.le_of_ble_eq_true rfl, Nat.le_of_ble_eq_true rfl⟩) (ty_preV (wr := [(ty_XO x w sp sv bu bl le)]) (E := []) (ws := ws_3) (ci := 9) hP hK hD hS hA hX hT rfl h_sp) rfl rfl hl.1 rfl (lv_room (Nat.le_of_ble_eq_true rfl)) dX10_needTrial_16 ⟨Nat.le_of_ble_eq_true rfl, Nat.le_of_ble_eq_true rfl⟩) hP hD hS hA (fun r_4 u H locs hw_5 hP hD hS => ?_)
  obtain ⟨ws_6, rfl⟩ : ∃ z, z = u := ⟨_, rfl⟩
  obtain ⟨hT, hq_7⟩ := hw_5
  have hP : va_P D vwCl ([(ty_XO x w sp sv bu bl le)] ++ ws_6) H := hP
  have hD : va_D A ([(ty_XO x w sp sv bu bl le)] ++ ws_6) := hD
  rcases hq_7 with rfl | ⟨a_8, rfl, ha_9⟩
  · refine W.eq (g2 := F0 m 19 ls (.null :: [])) rfl ?_
    refine lv_astore_nN (lv' := [(2, .null), (0, .ref x), (1, .int p1)]) hx hb dX10_needTrial_19 rfl hl (by decide) rfl (fun ls hl => ?_)
    refine lv_aload_nN hx hb dX10_needTrial_20 rfl (lv_at hl 0 rfl) ?_
    refine lv_ifnonnullN hx hb dX10_needTrial_21 ?_
    exact vx_throw0 (names := cm_names) hx hb hfl hown (by decide +kernel) (by decide +kernel) (hts _ kl_RX10_357) (hts _ ki_java_lang_IndexOutOfBoundsException) (cm_at0 kt_RX10_359 hts) ktg_RX10_359 hX.1 hX.2.1 hS (hl.1.trans hml.symm) dX10_needTrial_24 dX10_needTrial_27 dX10_needTrial_28 dX10_needTrial_31 (fun x hx => (hex x hx).elim) (Nat.le_of_ble_eq_true rfl) (Nat.le_of_ble_eq_true rfl) (Nat.le_of_ble_eq_true rfl) (Nat.le_of_ble_eq_true rfl) hlocks (fun t hv hz hk => ⟨ws_6, hT, ⟨by decide, hP.kept (fun k q hq => hk q.1 ((hP k q hq).lt)), by rw [hAe]; exact hD⟩, cm_F hS hz hk⟩) hS.2.2 (Nat.le_of_ble_eq_true rfl) (Nat.le_of_ble_eq_true rfl)
  · refine W.eq (g2 := F0 m 19 ls (.ref a_8 :: [])) rfl ?_
    refine lv_astore_n (lv' := [(2, .ref a_8), (0, .ref x), (1, .int p1)]) hx hb dX10_needTrial_19 rfl hl (by decide) rfl (fun ls hl => ?_)
    refine lv_aload_n hx hb dX10_needTrial_20 rfl (lv_at hl 0 rfl) ?_
    refine lv_ifnonnull (tgt := 32) hx hb dX10_needTrial_21 (by decide) ?_
    refine lv_aload_n hx hb dX10_needTrial_32 rfl (lv_at hl 0 rfl) ?_
    refine W.widen (k := 1) (n := 6) (Nat.le_of_ble_eq_true rfl) (Nat.le_of_ble_eq_true rfl) ?_
    refine vx_ret ?_
    exact W.aret (v := .ref a_8) hx hb hr (Or.inl ⟨_, rfl⟩) (Or.inr ⟨_, rfl⟩) (fun t ht hW => ⟨⟨(some a_8), ws_6, rfl, ⟨hT, ⟨_, rfl, ha_9⟩⟩, by rw [ht]; exact hP, by rw [hAe]; exact hD⟩, hS.F ht⟩) hS.2.2 dX10_needTrial_33
theorem dX10_needTrialOf_0 : decode cX10_needTrialOf 0 = .ok (.aload_n 0, 1) := by decide +kernel
theorem dX10_needTrialOf_1 : decode cX10_needTrialOf 1 = .ok (.iload_n 1, 1) := by decide +kernel
theorem dX10_needTrialOf_2 : decode cX10_needTrialOf 2 = .ok (.invokevirtual 321, 3) := by decide +kernel
theorem dX10_needTrialOf_5 : decode cX10_needTrialOf 5 = .ok (.astore_n 3, 1) := by decide +kernel
theorem dX10_needTrialOf_6 : decode cX10_needTrialOf 6 = .ok (.aload_n 3, 1) := by decide +kernel
theorem dX10_needTrialOf_7 : decode cX10_needTrialOf 7 = .ok (.iconst 0, 1) := by decide +kernel
theorem dX10_needTrialOf_8 : decode cX10_needTrialOf 8 = .ok (.putfield 210, 3) := by decide +kernel
theorem dX10_needTrialOf_11 : decode cX10_needTrialOf 11 = .ok (.aload_n 3, 1) := by decide +kernel
theorem dX10_needTrialOf_12 : decode cX10_needTrialOf 12 = .ok (.iload_n 2, 1) := by decide +kernel
theorem dX10_needTrialOf_13 : decode cX10_needTrialOf 13 = .ok (.aload_n 0, 1) := by decide +kernel
theorem dX10_needTrialOf_14 : decode cX10_needTrialOf 14 = .ok (.getfield 16, 3) := by decide +kernel
theorem dX10_needTrialOf_17 : decode cX10_needTrialOf 17 = .ok (.invokevirtual 179, 3) := by decide +kernel
theorem dX10_needTrialOf_20 : decode cX10_needTrialOf 20 = .ok (.aload_n 3, 1) := by decide +kernel
theorem dX10_needTrialOf_21 : decode cX10_needTrialOf 21 = .ok (.areturn, 1) := by decide +kernel
set_option maxRecDepth 100000 in
set_option maxHeartbeats 4000000 in
theorem t_X10_needTrialOf (l : Launch) (hfl : l.stackTraces = false) (D : va_G) (ct : Nat → ClassId) (S : ty_S) (ws : va_W) (ph : va_W → Prop) (xx : Nat → Nat → Nat → Prop) (x : Nat) (w : Nat) (sp : Nat) (sv : Nat) (bu : Nat) (ns : Nat) (bl : Int32) (le : Int32) (p1 : Int32) (p2 : Int32) (sz : Nat) (hT : ty_V ct S ph ws) (h_w : S w = some (.inl 9)) (h_sp : S sp = some (.inl 9)) (h_sv : S sv = some (.inr (4, ns))) (hph : ty_C ph xx) (hy1 : ty_y1 xx) (hy2 : ty_y0 xx 2) (hy5 : ty_y0 xx 5) (hy7 : ty_yc xx 7) (hy11 : ty_y0 xx 11) (hys : xx 9 0 sp ∧ xx 9 4 sp) : vx_Met l yX10_needTrialOf (ws_ yX10_needTrialOf cX10_needTrialOf 4 (some (.object "CellCycler$Channel"))) ({ frames := 7, cells := 1, slots := 6, locals := 189 } : Room) (va_Pc [.ref x, .int p1, .int p2] (cmP D ct sz ([(ty_XO x w sp sv bu bl le)] ++ ws))) (va_Qq (fun (r : Option Nat) (u9 : va_W) => ty_V ct S ph u9 ∧ (∃ a : Nat, r = some a ∧ S a = some (.inl 1))) (cmB D ([(ty_XO x w sp sv bu bl le)] ++ ws) sz (fun (u9 : va_W) => ([(ty_XO x w sp sv bu bl le)] ++ u9))) (va_A ([(ty_XO x w sp sv bu bl le)] ++ ws) sz)) (vx_X (fun (u9 : va_W) => ty_V ct S ph u9) (cmBY D ([(ty_XO x w sp sv bu bl le)] ++ ws) sz ["java/lang/IndexOutOfBoundsException"] (fun (u9 : va_W) => ([(ty_XO x w sp sv bu bl le)] ++ u9))) (va_A ([(ty_XO x w sp sv bu bl le)] ++ ws) sz)) 1 6 (va_A ([(ty_XO x w sp sv bu bl le)] ++ ws) sz) := by
  refine vx_ofW (cc := cX10_needTrialOf) (maxL := 4) (ret := (some (.object "CellCycler$Channel"))) (by decide) rfl ?_
  intro p e s m args below meth c s₁ B hml hex hv
  obtain ⟨rfl, hsz, hP, hK, hD0, hX⟩ := hv
  have hx := B.exec
  have hb := B.bytes
  have hr := B.returns
  have hts := ws_all (atoms_spec (ws := ws_ yX10_needTrialOf cX10_needTrialOf 4 (some (.object "CellCycler$Channel"))) B.pre)
  have hown : s.vm.findClass RX10 = some m.cls := findClass_of_methodNamed B.named
  have hlocks := B.notSynchronized
  subst hsz
  have hD := hD0.self (sz := s.heap.size)
  generalize hAe : va_A ([(ty_XO x w sp sv bu bl le)] ++ ws) s.heap.size = A at hD hX ⊢
  have hA : ∀ q : Nat, s.heap.size ≤ q → A q := fun q h => by rw [← hAe]; exact Or.inr h
  have hS : va_S A s.heap s.heap [] := va_S.rf
  have hl := lv_entry ([.ref x, .int p1, .int p2]) (n := 4) (Nat.le_of_ble_eq_true rfl)
  rw [lg_entry_eq]
  generalize (lg_sl ([.ref x, .int p1, .int p2]) ++ List.replicate (4 - (lg_sl ([.ref x, .int p1, .int p2])).length) Slot.unset).toArray = ls at hl ⊢
  have hl : lv_has ls 4 [(0, .ref x), (1, .int p1), (2, .int p2)] := hl
  refine lv_aload_n hx hb dX10_needTrialOf_0 rfl (lv_at hl 0 rfl) ?_
  refine lv_iload_n hx hb dX10_needTrialOf_1 rfl (lv_at hl 1 rfl) ?_
  refine ty_xq (wr := []) (wc := ([(ty_XO x w sp sv bu bl le)] ++ ws)) (vx_runV (As := [.int p1]) (rest := []) ⟨hx, hb, hml, hown, hts⟩ (t_X10_needTrial l hfl D ct S ws ph xx x w sp sv bu ns bl le p1 _ hT h_w h_sp h_sv hph hy1 hy2 hy5 hy7 hy11 hys) (cm_V 1 hts kc_X10_needTrial ki_RX10 kl_RX10_321 kv_X10_needTrial kx_X10_needTrial kd_X10_needTrial ⟨Nat.le_of_ble_eq_true rfl, Nat.le_of_ble_eq_true rfl⟩) (ty_preE (wr := []) (wc := ([(ty_XO x w sp sv bu bl le)] ++ ws)) (ci := 10) (q0 := 0) hP hK hD hS hA hX rfl rfl) rfl rfl hl.1 rfl (lv_room (Nat.le_of_ble_eq_true rfl)) dX10_needTrialOf_2 ⟨Nat.le_of_ble_eq_true rfl, Nat.le_of_ble_eq_true rfl⟩) hP hD hS hA (fun E ce q9 u H locs hu hE hP hD hS hce hcv hcl => ?_) (fun r_1 u H locs hw_2 hP hD hS => ?_)
  · obtain ⟨ws_3, rfl⟩ : ∃ z, z = u := ⟨_, rfl⟩
    have hT := hu
    have hP : va_P D vwCl ([(ty_XO x w sp sv bu bl le)] ++ ws_3) H := hP
    have hD : va_D A ([(ty_XO x w sp sv bu bl le)] ++ ws_3) := hD
    exact vx_out (fun x hx => (hex x hx).elim) hlocks hce hcv hcl (fun t ht hW => ⟨ws_3, hT, ⟨hE, by rw [ht]; exact hP, by rw [hAe]; exact hD⟩, hS.F ht⟩) hS.2.2 (Nat.le_of_ble_eq_true rfl) (Nat.le_of_ble_eq_true rfl)
  · obtain ⟨ws_4, rfl⟩ : ∃ z, z = u := ⟨_, rfl⟩
    obtain ⟨hT, hq_5⟩ := hw_2
    have hP : va_P D vwCl ([(ty_XO x w sp sv bu bl le)] ++ ws_4) H := hP
    have hD : va_D A ([(ty_XO x w sp sv bu bl le)] ++ ws_4) := hD
    refine W.widen (k := 1) (n := 6) (Nat.le_of_ble_eq_true rfl) (Nat.le_of_ble_eq_true rfl) ?_
    obtain ⟨a_6, rfl, ha_7⟩ := hq_5
    refine W.eq (g2 := F0 m 5 ls (.ref a_6 :: [])) rfl ?_
    refine lv_astore_n (lv' := [(3, .ref a_6), (0, .ref x), (1, .int p1), (2, .int p2)]) hx hb dX10_needTrialOf_5 rfl hl (by decide) rfl (fun ls hl => ?_)
    refine lv_aload_n hx hb dX10_needTrialOf_6 rfl (lv_at hl 0 rfl) ?_
    refine lv_iconst (v := 0) hx hb dX10_needTrialOf_7 (by decide) ?_
    refine ty_putN (v := .int 0) (ty := .int) (E := [(ty_XO x w sp sv bu bl le)]) (ws := ws_4) (D := D) (ci := 1) (C := RX1) (T := TX1) (N := 14) hx hb hts in_X1 tyX1 tyX1_ok nmX1 hown hK hP hD hS hT ha_7 rfl 9 (by decide) (hts _ kl_RX10_210) (fun _ h9 => h9) rfl (by decide +kernel) rfl rfl rfl ⟨_, rfl⟩ dX10_needTrialOf_8 hph (hy1 1 9 a_6 rfl) (fun ws_8 H locs hT hP hD hS => ?_)
    refine lv_aload_n hx hb dX10_needTrialOf_11 rfl (lv_at hl 0 rfl) ?_
    refine lv_iload_n hx hb dX10_needTrialOf_12 rfl (lv_at hl 3 rfl) ?_
    refine lv_aload_n hx hb dX10_needTrialOf_13 rfl (lv_at hl 1 rfl) ?_
    refine va_get (v := .ref sp) (D := D) (ci := 10) (C := RX10) (T := TX10) (N := 6) hx hb hts in_X10 hown hK hP 0 rfl rfl 1 (by decide) (hts _ kl_RX10_16) (fun _ h9 => h9) rfl dX10_needTrialOf_14 ?_
    refine ty_kv (wr := [(ty_XO x w sp sv bu bl le)]) (wc := ([] ++ ws_8)) (va_runVN (As := [.int p2, .ref sp]) (rest := []) ⟨hx, hb, hml, hown, hts⟩ (t_X1_begin l D ct S ws_8 ph xx a_6 p2 sp _ hT ha_7 h_sp hph hy1) (cm_VN 2 hts kc_X1_begin ki_RX1 kl_RX10_179 kv_X1_begin kx_X1_begin kd_X1_begin ⟨Nat.le_of_ble_eq_true rfl, Nat.le_of_ble_eq_true rfl⟩) (ty_preV (wr := [(ty_XO x w sp sv bu bl le)]) (E := []) (ws := ws_8) (ci := 1) hP hK hD hS hA hX hT rfl ha_7) rfl rfl hl.1 rfl (lv_room (Nat.le_of_ble_eq_true rfl)) dX10_needTrialOf_17 ⟨Nat.le_of_ble_eq_true rfl, Nat.le_of_ble_eq_true rfl⟩) hP hD hS hA (fun u H locs hw_10 hP hD hS => ?_)
    obtain ⟨ws_11, rfl⟩ : ∃ z, z = u := ⟨_, rfl⟩
    have hT := hw_10
    have hP : va_P D vwCl ([(ty_XO x w sp sv bu bl le)] ++ ws_11) H := hP
    have hD : va_D A ([(ty_XO x w sp sv bu bl le)] ++ ws_11) := hD
    refine lv_aload_n hx hb dX10_needTrialOf_20 rfl (lv_at hl 0 rfl) ?_
    refine vx_ret ?_
    exact W.aret (v := .ref a_6) hx hb hr (Or.inl ⟨_, rfl⟩) (Or.inr ⟨_, rfl⟩) (fun t ht hW => ⟨⟨(some a_6), ws_11, rfl, ⟨hT, ⟨_, rfl, ha_7⟩⟩, by rw [ht]; exact hP, by rw [hAe]; exact hD⟩, hS.F ht⟩) hS.2.2 dX10_needTrialOf_21
theorem dX10_isSafe_0 : decode cX10_isSafe 0 = .ok (.aload_n 0, 1) := by decide +kernel
theorem dX10_isSafe_1 : decode cX10_isSafe 1 = .ok (.getfield 16, 3) := by decide +kernel
theorem dX10_isSafe_4 : decode cX10_isSafe 4 = .ok (.getfield 95, 3) := by decide +kernel
theorem dX10_isSafe_7 : decode cX10_isSafe 7 = .ok (.astore 4, 2) := by decide +kernel
theorem dX10_isSafe_9 : decode cX10_isSafe 9 = .ok (.iconst 0, 1) := by decide +kernel
theorem dX10_isSafe_10 : decode cX10_isSafe 10 = .ok (.istore 5, 2) := by decide +kernel
theorem dX10_isSafe_12 : decode cX10_isSafe 12 = .ok (.iload 5, 2) := by decide +kernel
theorem dX10_isSafe_14 : decode cX10_isSafe 14 = .ok (.iload_n 3, 1) := by decide +kernel
theorem dX10_isSafe_15 : decode cX10_isSafe 15 = .ok (.if_icmp .ge 48, 3) := by decide +kernel
theorem dX10_isSafe_18 : decode cX10_isSafe 18 = .ok (.aload_n 1, 1) := by decide +kernel
theorem dX10_isSafe_19 : decode cX10_isSafe 19 = .ok (.aload_n 1, 1) := by decide +kernel
theorem dX10_isSafe_20 : decode cX10_isSafe 20 = .ok (.iload_n 2, 1) := by decide +kernel
theorem dX10_isSafe_21 : decode cX10_isSafe 21 = .ok (.aload 4, 2) := by decide +kernel
theorem dX10_isSafe_23 : decode cX10_isSafe 23 = .ok (.invokevirtual 360, 3) := by decide +kernel
theorem dX10_isSafe_26 : decode cX10_isSafe 26 = .ok (.aload 4, 2) := by decide +kernel
theorem dX10_isSafe_28 : decode cX10_isSafe 28 = .ok (.invokevirtual 364, 3) := by decide +kernel
theorem dX10_isSafe_31 : decode cX10_isSafe 31 = .ok (.aload_n 1, 1) := by decide +kernel
theorem dX10_isSafe_32 : decode cX10_isSafe 32 = .ok (.getfield 138, 3) := by decide +kernel
theorem dX10_isSafe_35 : decode cX10_isSafe 35 = .ok (.aload 4, 2) := by decide +kernel
theorem dX10_isSafe_37 : decode cX10_isSafe 37 = .ok (.getfield 116, 3) := by decide +kernel
theorem dX10_isSafe_40 : decode cX10_isSafe 40 = .ok (.if_icmp .gt 15, 3) := by decide +kernel
theorem dX10_isSafe_43 : decode cX10_isSafe 43 = .ok (.aload_n 1, 1) := by decide +kernel
theorem dX10_isSafe_44 : decode cX10_isSafe 44 = .ok (.getfield 299, 3) := by decide +kernel
theorem dX10_isSafe_47 : decode cX10_isSafe 47 = .ok (.aload 4, 2) := by decide +kernel
theorem dX10_isSafe_49 : decode cX10_isSafe 49 = .ok (.getfield 119, 3) := by decide +kernel
theorem dX10_isSafe_52 : decode cX10_isSafe 52 = .ok (.if_icmp .le 5, 3) := by decide +kernel
theorem dX10_isSafe_55 : decode cX10_isSafe 55 = .ok (.iconst 0, 1) := by decide +kernel
theorem dX10_isSafe_56 : decode cX10_isSafe 56 = .ok (.ireturn, 1) := by decide +kernel
theorem dX10_isSafe_57 : decode cX10_isSafe 57 = .ok (.iinc 5 1, 3) := by decide +kernel
theorem dX10_isSafe_60 : decode cX10_isSafe 60 = .ok (.goto (-48), 3) := by decide +kernel
theorem dX10_isSafe_63 : decode cX10_isSafe 63 = .ok (.iconst 1, 1) := by decide +kernel
theorem dX10_isSafe_64 : decode cX10_isSafe 64 = .ok (.ireturn, 1) := by decide +kernel
set_option maxRecDepth 100000 in
set_option maxHeartbeats 4000000 in
theorem t_X10_isSafe (l : Launch) (D : va_G) (ct : Nat → ClassId) (S : ty_S) (ws : va_W) (ph : va_W → Prop) (xx : Nat → Nat → Nat → Prop) (x : Nat) (w : Nat) (sp : Nat) (sv : Nat) (bu : Nat) (ns : Nat) (bl : Int32) (le : Int32) (p1 : Nat) (p2 : Int32) (p3 : Int32) (sz : Nat) (hT : ty_V ct S ph ws) (h_w : S w = some (.inl 9)) (h_sp : S sp = some (.inl 9)) (h_sv : S sv = some (.inr (4, ns))) (h_p1 : S p1 = some (.inl 0)) (hph : ty_C ph xx) (hy1 : ty_y1 xx) : Met l yX10_isSafe (ws_ yX10_isSafe cX10_isSafe 6 (some .boolean)) ({ frames := 3, cells := 0, slots := 0, locals := 71 } : Room) (va_Pc [.ref x, .ref p1, .int p2, .int p3] (cmP D ct sz ([(ty_XO x w sp sv bu bl le)] ++ ws))) (va_Qi (fun (r : Int32) (u9 : va_W) => ty_V ct S ph u9) (cmB D ([(ty_XO x w sp sv bu bl le)] ++ ws) sz (fun (u9 : va_W) => ([(ty_XO x w sp sv bu bl le)] ++ u9))) (va_A ([(ty_XO x w sp sv bu bl le)] ++ ws) sz)) 0 0 (va_A ([(ty_XO x w sp sv bu bl le)] ++ ws) sz) := by
  refine Met.ofW (cc := cX10_isSafe) (maxL := 6) (ret := (some .boolean)) (by decide) rfl ?_
  intro p e s m args below meth c s₁ B hml hv
  obtain ⟨rfl, hsz, hP, hK, hD0, hX⟩ := hv
  have hx := B.exec
  have hb := B.bytes
  have hr := B.returns
  have hts := ws_all (atoms_spec (ws := ws_ yX10_isSafe cX10_isSafe 6 (some .boolean)) B.pre)
  have hown : s.vm.findClass RX10 = some m.cls := findClass_of_methodNamed B.named
  have hlocks := B.notSynchronized
  subst hsz
  have hD := hD0.self (sz := s.heap.size)
  generalize hAe : va_A ([(ty_XO x w sp sv bu bl le)] ++ ws) s.heap.size = A at hD hX ⊢
  have hA : ∀ q : Nat, s.heap.size ≤ q → A q := fun q h => by rw [← hAe]; exact Or.inr h
  have hS : va_S A s.heap s.heap [] := va_S.rf
  have hl := lv_entry ([.ref x, .ref p1, .int p2, .int p3]) (n := 6) (Nat.le_of_ble_eq_true rfl)
  rw [lg_entry_eq]
  generalize (lg_sl ([.ref x, .ref p1, .int p2, .int p3]) ++ List.replicate (6 - (lg_sl ([.ref x, .ref p1, .int p2, .int p3])).length) Slot.unset).toArray = ls at hl ⊢
  have hl : lv_has ls 6 [(0, .ref x), (1, .ref p1), (2, .int p2), (3, .int p3)] := hl
  refine lv_aload_n hx hb dX10_isSafe_0 rfl (lv_at hl 0 rfl) ?_
  refine va_get (v := .ref sp) (D := D) (ci := 10) (C := RX10) (T := TX10) (N := 6) hx hb hts in_X10 hown hK hP 0 rfl rfl 1 (by decide) (hts _ kl_RX10_16) (fun _ h9 => h9) rfl dX10_isSafe_1 ?_
  refine ty_getN (E := [(ty_XO x w sp sv bu bl le)]) (ws := ws) (D := D) (ci := 9) (C := RX9) (T := TX9) (N := 8) hx hb hts in_X9 hown hK hP hT h_sp rfl 1 (by decide) (hts _ kl_RX10_95) (fun _ h9 => h9) rfl dX10_isSafe_4 (fun _ hv_1 hf_2 => ?_)
  obtain ⟨a_3, rfl, ha_4⟩ := hv_1
  refine lv_astore (lv' := [(4, .ref a_3), (0, .ref x), (1, .ref p1), (2, .int p2), (3, .int p3)]) hx hb dX10_isSafe_7 hl (by decide) rfl (fun ls hl => ?_)
  refine lv_iconst (v := 0) hx hb dX10_isSafe_9 (by decide) ?_
  refine lv_istore (lv' := [(5, .int 0), (4, .ref a_3), (0, .ref x), (1, .ref p1), (2, .int p2), (3, .int p3)]) hx hb dX10_isSafe_10 hl (by decide) rfl (fun ls hl => ?_)
  refine ty_loop (I := fun μ H locs ls => ∃ (ws : va_W) (y_5 : Int32), μ = (2147483648 - y_5.toInt).toNat ∧ ty_V ct S ph ws ∧ va_P D vwCl ([(ty_XO x w sp sv bu bl le)] ++ ws) H ∧ va_D A ([(ty_XO x w sp sv bu bl le)] ++ ws) ∧ va_S A s.heap H locs ∧ lv_has ls 6 [(0, .ref x), (1, .ref p1), (2, .int p2), (3, .int p3), (4, .ref a_3), (5, .int y_5)]) ⟨_, ws, (0 : Int32), rfl, hT, hP, hD, hS, (lv_sub hl [2, 3, 4, 5, 1, 0] rfl)⟩ (fun μ H locs ls hI ih_12 => ?_)
  obtain ⟨ws, y_5, rfl, hT, hP, hD, hS, hl⟩ := hI
  refine lv_iload hx hb dX10_isSafe_12 (lv_at hl 5 rfl) ?_
  refine lv_iload_n hx hb dX10_isSafe_14 rfl (lv_at hl 3 rfl) ?_
  refine lv_icmp_ge (tgt := 63) hx hb dX10_isSafe_15 (by decide) (fun hc_6 => ?_) (fun hc_6 => ?_)
  · refine lv_iconst (v := 1) hx hb dX10_isSafe_63 (by decide) ?_
    exact W.zret (v := 1) hx hb hr (by decide) (fun t ht hW => ⟨⟨1, ws, rfl, hT, by rw [ht]; exact hP, by rw [hAe]; exact hD⟩, hS.F ht⟩) hS.2.2 dX10_isSafe_64
  · refine lv_aload_n hx hb dX10_isSafe_18 rfl (lv_at hl 1 rfl) ?_
    refine lv_aload_n hx hb dX10_isSafe_19 rfl (lv_at hl 1 rfl) ?_
    refine lv_iload_n hx hb dX10_isSafe_20 rfl (lv_at hl 2 rfl) ?_
    refine lv_aload hx hb dX10_isSafe_21 (lv_at hl 4 rfl) ?_
    refine ty_ki (wr := [(ty_XO x w sp sv bu bl le)]) (wc := ([] ++ ws)) (va_runVN (As := [.int p2, .ref a_3]) (rest := [.ref p1]) ⟨hx, hb, hml, hown, hts⟩ (t_X0_allowed l D ct S ws ph xx p1 p2 a_3 _ hT h_p1 ha_4 hph hy1) (cm_VN 2 hts kc_X0_allowed ki_RX0 kl_RX10_360 kv_X0_allowed kx_X0_allowed kd_X0_allowed ⟨Nat.le_of_ble_eq_true rfl, Nat.le_of_ble_eq_true rfl⟩) (ty_preV (wr := [(ty_XO x w sp sv bu bl le)]) (E := []) (ws := ws) (ci := 0) hP hK hD hS hA hX hT rfl h_p1) rfl rfl hl.1 rfl (lv_room (Nat.le_of_ble_eq_true rfl)) dX10_isSafe_23 ⟨Nat.le_of_ble_eq_true rfl, Nat.le_of_ble_eq_true rfl⟩) hP hD hS hA (fun r_7 u H locs hw_8 hP hD hS => ?_)
    obtain ⟨ws_9, rfl⟩ : ∃ z, z = u := ⟨_, rfl⟩
    have hT := hw_8
    have hP : va_P D vwCl ([(ty_XO x w sp sv bu bl le)] ++ ws_9) H := hP
    have hD : va_D A ([(ty_XO x w sp sv bu bl le)] ++ ws_9) := hD
    refine lv_aload hx hb dX10_isSafe_26 (lv_at hl 4 rfl) ?_
    refine ty_kv (wr := [(ty_XO x w sp sv bu bl le)]) (wc := ([] ++ ws_9)) (va_runVN (As := [.int r_7, .ref a_3]) (rest := []) ⟨hx, hb, hml, hown, hts⟩ (t_X0_passCurrent l D ct S ws_9 ph xx p1 r_7 a_3 _ hT h_p1 ha_4 hph hy1) (cm_VN 2 hts kc_X0_passCurrent ki_RX0 kl_RX10_364 kv_X0_passCurrent kx_X0_passCurrent kd_X0_passCurrent ⟨Nat.le_of_ble_eq_true rfl, Nat.le_of_ble_eq_true rfl⟩) (ty_preV (wr := [(ty_XO x w sp sv bu bl le)]) (E := []) (ws := ws_9) (ci := 0) hP hK hD hS hA hX hT rfl h_p1) rfl rfl hl.1 rfl (lv_room (Nat.le_of_ble_eq_true rfl)) dX10_isSafe_28 ⟨Nat.le_of_ble_eq_true rfl, Nat.le_of_ble_eq_true rfl⟩) hP hD hS hA (fun u H locs hw_11 hP hD hS => ?_)
    obtain ⟨ws_12, rfl⟩ : ∃ z, z = u := ⟨_, rfl⟩
    have hT := hw_11
    have hP : va_P D vwCl ([(ty_XO x w sp sv bu bl le)] ++ ws_12) H := hP
    have hD : va_D A ([(ty_XO x w sp sv bu bl le)] ++ ws_12) := hD
    refine lv_aload_n hx hb dX10_isSafe_31 rfl (lv_at hl 1 rfl) ?_
    refine ty_getN (E := [(ty_XO x w sp sv bu bl le)]) (ws := ws_12) (D := D) (ci := 0) (C := RX0) (T := TX0) (N := 16) hx hb hts in_X0 hown hK hP hT h_p1 rfl 14 (by decide) (hts _ kl_RX10_138) (fun _ h9 => h9) rfl dX10_isSafe_32 (fun _ hv_13 hf_14 => ?_)
    obtain ⟨x_15, rfl⟩ := hv_13
    refine lv_aload hx hb dX10_isSafe_35 (lv_at hl 4 rfl) ?_
    refine ty_getN (E := [(ty_XO x w sp sv bu bl le)]) (ws := ws_12) (D := D) (ci := 7) (C := RX7) (T := TX7) (N := 12) hx hb hts in_X7 hown hK hP hT ha_4 rfl 5 (by decide) (hts _ kl_RX10_116) (fun _ h9 => h9) rfl dX10_isSafe_37 (fun _ hv_16 hf_17 => ?_)
    obtain ⟨x_18, rfl⟩ := hv_16
    refine lv_icmp_gt (tgt := 55) hx hb dX10_isSafe_40 (by decide) (fun hc_19 => ?_) (fun hc_19 => ?_)
    · refine lv_iconst (v := 0) hx hb dX10_isSafe_55 (by decide) ?_
      exact W.zret (v := 0) hx hb hr (by decide) (fun t ht hW => ⟨⟨0, ws_12, rfl, hT, by rw [ht]; exact hP, by rw [hAe]; exact hD⟩, hS.F ht⟩) hS.2.2 dX10_isSafe_56
    · refine lv_aload_n hx hb dX10_isSafe_43 rfl (lv_at hl 1 rfl) ?_
      refine ty_getN (E := [(ty_XO x w sp sv bu bl le)]) (ws := ws_12) (D := D) (ci := 0) (C := RX0) (T := TX0) (N := 16) hx hb hts in_X0 hown hK hP hT h_p1 rfl 11 (by decide) (hts _ kl_RX10_299) (fun _ h9 => h9) rfl dX10_isSafe_44 (fun _ hv_20 hf_21 => ?_)
      obtain ⟨x_22, rfl⟩ := hv_20
      refine lv_aload hx hb dX10_isSafe_47 (lv_at hl 4 rfl) ?_
      refine ty_getN (E := [(ty_XO x w sp sv bu bl le)]) (ws := ws_12) (D := D) (ci := 7) (C := RX7) (T := TX7) (N := 12) hx hb hts in_X7 hown hK hP hT ha_4 rfl 6 (by decide) (hts _ kl_RX10_119) (fun _ h9 => h9) rfl dX10_isSafe_49 (fun _ hv_23 hf_24 => ?_)
      obtain ⟨x_25, rfl⟩ := hv_23
      refine lv_icmp_le (tgt := 57) hx hb dX10_isSafe_52 (by decide) (fun hc_26 => ?_) (fun hc_26 => ?_)
      · refine lv_iinc (v := (y_5 + Int32.ofInt 1)) (lv' := [(5, .int (y_5 + Int32.ofInt 1)), (0, .ref x), (1, .ref p1), (2, .int p2), (3, .int p3), (4, .ref a_3)]) hx hb dX10_isSafe_57 hl (k := 5) rfl rfl (by decide) rfl (fun ls hl => ?_)
        refine lv_goto (tgt := 12) hx hb dX10_isSafe_60 (by decide) ?_
        exact ih_12 _ _ _ _ (ty_inc (cm_lt hc_6)) ⟨ws_12, (y_5 + Int32.ofInt 1), rfl, hT, hP, hD, hS, (lv_sub hl [1, 2, 3, 4, 5, 0] rfl)⟩
      · refine lv_iconst (v := 0) hx hb dX10_isSafe_55 (by decide) ?_
        exact W.zret (v := 0) hx hb hr (by decide) (fun t ht hW => ⟨⟨0, ws_12, rfl, hT, by rw [ht]; exact hP, by rw [hAe]; exact hD⟩, hS.F ht⟩) hS.2.2 dX10_isSafe_56
theorem dX1_measureEnd_0 : decode cX1_measureEnd 0 = .ok (.aload_n 1, 1) := by decide +kernel
theorem dX1_measureEnd_1 : decode cX1_measureEnd 1 = .ok (.getfield 175, 3) := by decide +kernel
theorem dX1_measureEnd_4 : decode cX1_measureEnd 4 = .ok (.aload_n 0, 1) := by decide +kernel
theorem dX1_measureEnd_5 : decode cX1_measureEnd 5 = .ok (.getfield 46, 3) := by decide +kernel
theorem dX1_measureEnd_8 : decode cX1_measureEnd 8 = .ok (.aload_n 0, 1) := by decide +kernel
theorem dX1_measureEnd_9 : decode cX1_measureEnd 9 = .ok (.getfield 49, 3) := by decide +kernel
theorem dX1_measureEnd_12 : decode cX1_measureEnd 12 = .ok (.invokevirtual 201, 3) := by decide +kernel
theorem dX1_measureEnd_15 : decode cX1_measureEnd 15 = .ok (.tableswitch 58 1 3 #[25, 33, 41], 25) := by decide +kernel
theorem dX1_measureEnd_40 : decode cX1_measureEnd 40 = .ok (.aload_n 0, 1) := by decide +kernel
theorem dX1_measureEnd_41 : decode cX1_measureEnd 41 = .ok (.iconst 1, 1) := by decide +kernel
theorem dX1_measureEnd_42 : decode cX1_measureEnd 42 = .ok (.putfield 69, 3) := by decide +kernel
theorem dX1_measureEnd_45 : decode cX1_measureEnd 45 = .ok (.goto 28, 3) := by decide +kernel
theorem dX1_measureEnd_48 : decode cX1_measureEnd 48 = .ok (.aload_n 0, 1) := by decide +kernel
theorem dX1_measureEnd_49 : decode cX1_measureEnd 49 = .ok (.aload_n 1, 1) := by decide +kernel
theorem dX1_measureEnd_50 : decode cX1_measureEnd 50 = .ok (.invokevirtual 234, 3) := by decide +kernel
theorem dX1_measureEnd_53 : decode cX1_measureEnd 53 = .ok (.goto 20, 3) := by decide +kernel
theorem dX1_measureEnd_56 : decode cX1_measureEnd 56 = .ok (.aload_n 0, 1) := by decide +kernel
theorem dX1_measureEnd_57 : decode cX1_measureEnd 57 = .ok (.getfield 25, 3) := by decide +kernel
theorem dX1_measureEnd_60 : decode cX1_measureEnd 60 = .ok (.aload_n 0, 1) := by decide +kernel
theorem dX1_measureEnd_61 : decode cX1_measureEnd 61 = .ok (.getfield 18, 3) := by decide +kernel
theorem dX1_measureEnd_64 : decode cX1_measureEnd 64 = .ok (.getfield 79, 3) := by decide +kernel
theorem dX1_measureEnd_67 : decode cX1_measureEnd 67 = .ok (.putfield 237, 3) := by decide +kernel
theorem dX1_measureEnd_70 : decode cX1_measureEnd 70 = .ok (.goto 3, 3) := by decide +kernel
theorem dX1_measureEnd_73 : decode cX1_measureEnd 73 = .ok (.return_, 1) := by decide +kernel
set_option maxRecDepth 100000 in
set_option maxHeartbeats 4000000 in
theorem t_X1_measureEnd (l : Launch) (D : va_G) (ct : Nat → ClassId) (S : ty_S) (ws : va_W) (ph : va_W → Prop) (xx : Nat → Nat → Nat → Prop) (h0 : Nat) (p1 : Nat) (sz : Nat) (hT : ty_V ct S ph ws) (h_h0 : S h0 = some (.inl 1)) (h_p1 : S p1 = some (.inl 9)) (hph : ty_C ph xx) (hy1 : ty_y1 xx) : Met l yX1_measureEnd (ws_ yX1_measureEnd cX1_measureEnd 2 none) ({ frames := 3, cells := 0, slots := 0, locals := 70 } : Room) (va_Pc [.ref h0, .ref p1] (cmP D ct sz ([] ++ ws))) (va_Qv (fun (u9 : va_W) => ty_V ct S ph u9) (cmB D ([] ++ ws) sz (fun (u9 : va_W) => ([] ++ u9))) (va_A ([] ++ ws) sz)) 0 0 (va_A ([] ++ ws) sz) := by
  refine Met.ofW (cc := cX1_measureEnd) (maxL := 2) (ret := none) (by decide) rfl ?_
  intro p e s m args below meth c s₁ B hml hv
  obtain ⟨rfl, hsz, hP, hK, hD0, hX⟩ := hv
  have hx := B.exec
  have hb := B.bytes
  have hr := B.returns
  have hts := ws_all (atoms_spec (ws := ws_ yX1_measureEnd cX1_measureEnd 2 none) B.pre)
  have hown : s.vm.findClass RX1 = some m.cls := findClass_of_methodNamed B.named
  have hlocks := B.notSynchronized
  subst hsz
  have hD := hD0.self (sz := s.heap.size)
  generalize hAe : va_A ([] ++ ws) s.heap.size = A at hD hX ⊢
  have hA : ∀ q : Nat, s.heap.size ≤ q → A q := fun q h => by rw [← hAe]; exact Or.inr h
  have hS : va_S A s.heap s.heap [] := va_S.rf
  have hl := lv_entry ([.ref h0, .ref p1]) (n := 2) (Nat.le_of_ble_eq_true rfl)
  rw [lg_entry_eq]
  generalize (lg_sl ([.ref h0, .ref p1]) ++ List.replicate (2 - (lg_sl ([.ref h0, .ref p1])).length) Slot.unset).toArray = ls at hl ⊢
  have hl : lv_has ls 2 [(0, .ref h0), (1, .ref p1)] := hl
  refine lv_aload_n hx hb dX1_measureEnd_0 rfl (lv_at hl 1 rfl) ?_
  refine ty_getN (E := []) (ws := ws) (D := D) (ci := 9) (C := RX9) (T := TX9) (N := 8) hx hb hts in_X9 hown hK hP hT h_p1 rfl 3 (by decide) (hts _ kl_RX1_175) (fun _ h9 => h9) rfl dX1_measureEnd_1 (fun _ hv_1 hf_2 => ?_)
  obtain ⟨a_3, rfl, ha_4⟩ := hv_1
  refine lv_aload_n hx hb dX1_measureEnd_4 rfl (lv_at hl 0 rfl) ?_
  refine ty_get (E := []) (ws := ws) (D := D) (ci := 1) (C := RX1) (T := TX1) (N := 14) hx hb hts in_X1 hown hK hP hT h_h0 rfl 4 (by decide) (hts _ kl_RX1_46) (fun _ h9 => h9) rfl dX1_measureEnd_5 (fun _ hv_5 hf_6 => ?_)
  obtain ⟨x_7, rfl⟩ := hv_5
  refine lv_aload_n hx hb dX1_measureEnd_8 rfl (lv_at hl 0 rfl) ?_
  refine ty_get (E := []) (ws := ws) (D := D) (ci := 1) (C := RX1) (T := TX1) (N := 14) hx hb hts in_X1 hown hK hP hT h_h0 rfl 5 (by decide) (hts _ kl_RX1_49) (fun _ h9 => h9) rfl dX1_measureEnd_9 (fun _ hv_8 hf_9 => ?_)
  obtain ⟨x_10, rfl⟩ := hv_8
  refine ty_ki (wr := []) (wc := ([] ++ ws)) (va_runVN (As := [.int x_7, .int x_10]) (rest := []) ⟨hx, hb, hml, hown, hts⟩ (t_X5_kindOf l D ct S ws ph xx a_3 x_7 x_10 _ hT ha_4 hph hy1) (cm_VN 2 hts kc_X5_kindOf ki_RX5 kl_RX1_201 kv_X5_kindOf kx_X5_kindOf kd_X5_kindOf ⟨Nat.le_of_ble_eq_true rfl, Nat.le_of_ble_eq_true rfl⟩) (ty_preV (wr := []) (E := []) (ws := ws) (ci := 5) hP hK hD hS hA hX hT rfl ha_4) rfl rfl hl.1 rfl (lv_room (Nat.le_of_ble_eq_true rfl)) dX1_measureEnd_12 ⟨Nat.le_of_ble_eq_true rfl, Nat.le_of_ble_eq_true rfl⟩) hP hD hS hA (fun r_11 u H locs hw_12 hP hD hS => ?_)
  obtain ⟨ws_13, rfl⟩ : ∃ z, z = u := ⟨_, rfl⟩
  have hT := hw_12
  have hP : va_P D vwCl ([] ++ ws_13) H := hP
  have hD : va_D A ([] ++ ws_13) := hD
  by_cases hk_14 : r_11 = 1
  · refine cm_cst hk_14 (lv_tableIn (off := 25) (tgt := 40) hx hb dX1_measureEnd_15 (by decide) (by decide) (by decide) (by decide) ?_)
    refine lv_aload_n hx hb dX1_measureEnd_40 rfl (lv_at hl 0 rfl) ?_
    refine lv_iconst (v := 1) hx hb dX1_measureEnd_41 (by decide) ?_
    refine ty_put (v := .int 1) (ty := .boolean) (E := []) (ws := ws_13) (D := D) (ci := 1) (C := RX1) (T := TX1) (N := 14) hx hb hts in_X1 tyX1 tyX1_ok nmX1 hown hK hP hD hS hT h_h0 rfl 12 (by decide) (hts _ kl_RX1_69) (fun _ h9 => h9) rfl (by decide +kernel) (by decide) rfl rfl ⟨1, rfl, by decide⟩ dX1_measureEnd_42 hph (hy1 1 12 h0 rfl) (fun ws_15 H locs hT hP hD hS => ?_)
    refine lv_goto (tgt := 73) hx hb dX1_measureEnd_45 (by decide) ?_
    exact W.vret hx hb hr (fun t ht hW => ⟨⟨ws_15, rfl, hT, by rw [ht]; exact hP, by rw [hAe]; exact hD⟩, hS.F ht⟩) hS.2.2 dX1_measureEnd_73
  by_cases hk_16 : r_11 = 2
  · refine cm_cst hk_16 (lv_tableIn (off := 33) (tgt := 48) hx hb dX1_measureEnd_15 (by decide) (by decide) (by decide) (by decide) ?_)
    refine lv_aload_n hx hb dX1_measureEnd_48 rfl (lv_at hl 0 rfl) ?_
    refine lv_aload_n hx hb dX1_measureEnd_49 rfl (lv_at hl 1 rfl) ?_
    refine ty_kv (wr := []) (wc := ([] ++ ws_13)) (va_runV (As := [.ref p1]) (rest := []) ⟨hx, hb, hml, hown, hts⟩ (t_X1_makeRecord l D ct S ws_13 ph xx h0 p1 _ hT h_h0 h_p1 hph hy1) (cm_V 1 hts kc_X1_makeRecord ki_RX1 kl_RX1_234 kv_X1_makeRecord kx_X1_makeRecord kd_X1_makeRecord ⟨Nat.le_of_ble_eq_true rfl, Nat.le_of_ble_eq_true rfl⟩) (ty_preV (wr := []) (E := []) (ws := ws_13) (ci := 1) hP hK hD hS hA hX hT rfl h_h0) rfl rfl hl.1 rfl (lv_room (Nat.le_of_ble_eq_true rfl)) dX1_measureEnd_50 ⟨Nat.le_of_ble_eq_true rfl, Nat.le_of_ble_eq_true rfl⟩) hP hD hS hA (fun u H locs hw_18 hP hD hS => ?_)
    obtain ⟨ws_19, rfl⟩ : ∃ z, z = u := ⟨_, rfl⟩
    have hT := hw_18
    have hP : va_P D vwCl ([] ++ ws_19) H := hP
    have hD : va_D A ([] ++ ws_19) := hD
    refine lv_goto (tgt := 73) hx hb dX1_measureEnd_53 (by decide) ?_
    exact W.vret hx hb hr (fun t ht hW => ⟨⟨ws_19, rfl, hT, by rw [ht]; exact hP, by rw [hAe]; exact hD⟩, hS.F ht⟩) hS.2.2 dX1_measureEnd_73
  by_cases hk_20 : r_11 = 3
  · refine cm_cst hk_20 (lv_tableIn (off := 41) (tgt := 56) hx hb dX1_measureEnd_15 (by decide) (by decide) (by decide) (by decide) ?_)
    refine lv_aload_n hx hb dX1_measureEnd_56 rfl (lv_at hl 0 rfl) ?_
    refine ty_get (E := []) (ws := ws_13) (D := D) (ci := 1) (C := RX1) (T := TX1) (N := 14) hx hb hts in_X1 hown hK hP hT h_h0 rfl 2 (by decide) (hts _ kl_RX1_25) (fun _ h9 => h9) rfl dX1_measureEnd_57 (fun _ hv_21 hf_22 => ?_)
    obtain ⟨a_23, rfl, ha_24⟩ := hv_21
    refine lv_aload_n hx hb dX1_measureEnd_60 rfl (lv_at hl 0 rfl) ?_
    refine ty_get (E := []) (ws := ws_13) (D := D) (ci := 1) (C := RX1) (T := TX1) (N := 14) hx hb hts in_X1 hown hK hP hT h_h0 rfl 1 (by decide) (hts _ kl_RX1_18) (fun _ h9 => h9) rfl dX1_measureEnd_61 (fun _ hv_25 hf_26 => ?_)
    obtain ⟨a_27, rfl, ha_28⟩ := hv_25
    refine ty_getN (E := []) (ws := ws_13) (D := D) (ci := 0) (C := RX0) (T := TX0) (N := 16) hx hb hts in_X0 hown hK hP hT ha_28 rfl 14 (by decide) (hts _ kl_RX1_79) (fun _ h9 => h9) rfl dX1_measureEnd_64 (fun _ hv_29 hf_30 => ?_)
    obtain ⟨x_31, rfl⟩ := hv_29
    refine ty_putN (v := .int x_31) (ty := .int) (E := []) (ws := ws_13) (D := D) (ci := 4) (C := RX4) (T := TX4) (N := 7) hx hb hts in_X4 tyX4 tyX4_ok nmX4 hown hK hP hD hS hT ha_24 rfl 0 (by decide) (hts _ kl_RX1_237) (fun _ h9 => h9) rfl (by decide +kernel) rfl rfl rfl ⟨_, rfl⟩ dX1_measureEnd_67 hph (hy1 4 0 a_23 rfl) (fun ws_32 H locs hT hP hD hS => ?_)
    refine lv_goto (tgt := 73) hx hb dX1_measureEnd_70 (by decide) ?_
    exact W.vret hx hb hr (fun t ht hW => ⟨⟨ws_32, rfl, hT, by rw [ht]; exact hP, by rw [hAe]; exact hD⟩, hS.F ht⟩) hS.2.2 dX1_measureEnd_73
  refine lv_tableOut (tgt := 73) hx hb dX1_measureEnd_15 (ty_sw1_3 hk_14 hk_16 hk_20) (by decide) ?_
  exact W.vret hx hb hr (fun t ht hW => ⟨⟨ws_13, rfl, hT, by rw [ht]; exact hP, by rw [hAe]; exact hD⟩, hS.F ht⟩) hS.2.2 dX1_measureEnd_73
theorem dX1_leaveStep_0 : decode cX1_leaveStep 0 = .ok (.aload_n 1, 1) := by decide +kernel
theorem dX1_leaveStep_1 : decode cX1_leaveStep 1 = .ok (.aload_n 0, 1) := by decide +kernel
theorem dX1_leaveStep_2 : decode cX1_leaveStep 2 = .ok (.getfield 9, 3) := by decide +kernel
theorem dX1_leaveStep_5 : decode cX1_leaveStep 5 = .ok (.iconst 1, 1) := by decide +kernel
theorem dX1_leaveStep_6 : decode cX1_leaveStep 6 = .ok (.aload_n 0, 1) := by decide +kernel
theorem dX1_leaveStep_7 : decode cX1_leaveStep 7 = .ok (.getfield 49, 3) := by decide +kernel
theorem dX1_leaveStep_10 : decode cX1_leaveStep 10 = .ok (.invokevirtual 100, 3) := by decide +kernel
theorem dX1_leaveStep_13 : decode cX1_leaveStep 13 = .ok (.aload_n 0, 1) := by decide +kernel
theorem dX1_leaveStep_14 : decode cX1_leaveStep 14 = .ok (.aload_n 1, 1) := by decide +kernel
theorem dX1_leaveStep_15 : decode cX1_leaveStep 15 = .ok (.getfield 175, 3) := by decide +kernel
theorem dX1_leaveStep_18 : decode cX1_leaveStep 18 = .ok (.invokevirtual 262, 3) := by decide +kernel
theorem dX1_leaveStep_21 : decode cX1_leaveStep 21 = .ok (.istore_n 2, 1) := by decide +kernel
theorem dX1_leaveStep_22 : decode cX1_leaveStep 22 = .ok (.iload_n 2, 1) := by decide +kernel
theorem dX1_leaveStep_23 : decode cX1_leaveStep 23 = .ok (.aload_n 1, 1) := by decide +kernel
theorem dX1_leaveStep_24 : decode cX1_leaveStep 24 = .ok (.getfield 175, 3) := by decide +kernel
theorem dX1_leaveStep_27 : decode cX1_leaveStep 27 = .ok (.aload_n 0, 1) := by decide +kernel
theorem dX1_leaveStep_28 : decode cX1_leaveStep 28 = .ok (.getfield 46, 3) := by decide +kernel
theorem dX1_leaveStep_31 : decode cX1_leaveStep 31 = .ok (.invokevirtual 266, 3) := by decide +kernel
theorem dX1_leaveStep_34 : decode cX1_leaveStep 34 = .ok (.if_icmp .ge 9, 3) := by decide +kernel
theorem dX1_leaveStep_37 : decode cX1_leaveStep 37 = .ok (.aload_n 0, 1) := by decide +kernel
theorem dX1_leaveStep_38 : decode cX1_leaveStep 38 = .ok (.iload_n 2, 1) := by decide +kernel
theorem dX1_leaveStep_39 : decode cX1_leaveStep 39 = .ok (.invokevirtual 106, 3) := by decide +kernel
theorem dX1_leaveStep_42 : decode cX1_leaveStep 42 = .ok (.return_, 1) := by decide +kernel
theorem dX1_leaveStep_43 : decode cX1_leaveStep 43 = .ok (.aload_n 1, 1) := by decide +kernel
theorem dX1_leaveStep_44 : decode cX1_leaveStep 44 = .ok (.aload_n 0, 1) := by decide +kernel
theorem dX1_leaveStep_45 : decode cX1_leaveStep 45 = .ok (.getfield 9, 3) := by decide +kernel
theorem dX1_leaveStep_48 : decode cX1_leaveStep 48 = .ok (.iconst 2, 1) := by decide +kernel
theorem dX1_leaveStep_49 : decode cX1_leaveStep 49 = .ok (.iconst 0, 1) := by decide +kernel
theorem dX1_leaveStep_50 : decode cX1_leaveStep 50 = .ok (.invokevirtual 100, 3) := by decide +kernel
theorem dX1_leaveStep_53 : decode cX1_leaveStep 53 = .ok (.aload_n 0, 1) := by decide +kernel
theorem dX1_leaveStep_54 : decode cX1_leaveStep 54 = .ok (.getfield 59, 3) := by decide +kernel
theorem dX1_leaveStep_57 : decode cX1_leaveStep 57 = .ok (.ifCond .le 15, 3) := by decide +kernel
theorem dX1_leaveStep_60 : decode cX1_leaveStep 60 = .ok (.aload_n 0, 1) := by decide +kernel
theorem dX1_leaveStep_61 : decode cX1_leaveStep 61 = .ok (.aload_n 0, 1) := by decide +kernel
theorem dX1_leaveStep_62 : decode cX1_leaveStep 62 = .ok (.invokevirtual 269, 3) := by decide +kernel
theorem dX1_leaveStep_65 : decode cX1_leaveStep 65 = .ok (.aload_n 1, 1) := by decide +kernel
theorem dX1_leaveStep_66 : decode cX1_leaveStep 66 = .ok (.invokevirtual 272, 3) := by decide +kernel
theorem dX1_leaveStep_69 : decode cX1_leaveStep 69 = .ok (.goto 8, 3) := by decide +kernel
theorem dX1_leaveStep_72 : decode cX1_leaveStep 72 = .ok (.aload_n 0, 1) := by decide +kernel
theorem dX1_leaveStep_73 : decode cX1_leaveStep 73 = .ok (.iconst 3, 1) := by decide +kernel
theorem dX1_leaveStep_74 : decode cX1_leaveStep 74 = .ok (.putfield 43, 3) := by decide +kernel
theorem dX1_leaveStep_77 : decode cX1_leaveStep 77 = .ok (.return_, 1) := by decide +kernel
set_option maxRecDepth 100000 in
set_option maxHeartbeats 4000000 in
theorem t_X1_leaveStep (l : Launch) (D : va_G) (ct : Nat → ClassId) (S : ty_S) (ws : va_W) (ph : va_W → Prop) (xx : Nat → Nat → Nat → Prop) (h0 : Nat) (p1 : Nat) (sz : Nat) (hT : ty_V ct S ph ws) (h_h0 : S h0 = some (.inl 1)) (h_p1 : S p1 = some (.inl 9)) (hph : ty_C ph xx) (hy1 : ty_y1 xx) : Met l yX1_leaveStep (ws_ yX1_leaveStep cX1_leaveStep 3 none) ({ frames := 3, cells := 0, slots := 0, locals := 68 } : Room) (va_Pc [.ref h0, .ref p1] (cmP D ct sz ([] ++ ws))) (va_Qv (fun (u9 : va_W) => ty_V ct S ph u9) (cmB D ([] ++ ws) sz (fun (u9 : va_W) => ([] ++ u9))) (va_A ([] ++ ws) sz)) 0 0 (va_A ([] ++ ws) sz) := by
  refine Met.ofW (cc := cX1_leaveStep) (maxL := 3) (ret := none) (by decide) rfl ?_
  intro p e s m args below meth c s₁ B hml hv
  obtain ⟨rfl, hsz, hP, hK, hD0, hX⟩ := hv
  have hx := B.exec
  have hb := B.bytes
  have hr := B.returns
  have hts := ws_all (atoms_spec (ws := ws_ yX1_leaveStep cX1_leaveStep 3 none) B.pre)
  have hown : s.vm.findClass RX1 = some m.cls := findClass_of_methodNamed B.named
  have hlocks := B.notSynchronized
  subst hsz
  have hD := hD0.self (sz := s.heap.size)
  generalize hAe : va_A ([] ++ ws) s.heap.size = A at hD hX ⊢
  have hA : ∀ q : Nat, s.heap.size ≤ q → A q := fun q h => by rw [← hAe]; exact Or.inr h
  have hS : va_S A s.heap s.heap [] := va_S.rf
  have hl := lv_entry ([.ref h0, .ref p1]) (n := 3) (Nat.le_of_ble_eq_true rfl)
  rw [lg_entry_eq]
  generalize (lg_sl ([.ref h0, .ref p1]) ++ List.replicate (3 - (lg_sl ([.ref h0, .ref p1])).length) Slot.unset).toArray = ls at hl ⊢
  have hl : lv_has ls 3 [(0, .ref h0), (1, .ref p1)] := hl
  refine lv_aload_n hx hb dX1_leaveStep_0 rfl (lv_at hl 1 rfl) ?_
  refine lv_aload_n hx hb dX1_leaveStep_1 rfl (lv_at hl 0 rfl) ?_
  refine ty_get (E := []) (ws := ws) (D := D) (ci := 1) (C := RX1) (T := TX1) (N := 14) hx hb hts in_X1 hown hK hP hT h_h0 rfl 0 (by decide) (hts _ kl_RX1_9) (fun _ h9 => h9) rfl dX1_leaveStep_2 (fun _ hv_1 hf_2 => ?_)
  obtain ⟨x_3, rfl⟩ := hv_1
  refine lv_iconst (v := 1) hx hb dX1_leaveStep_5 (by decide) ?_
  refine lv_aload_n hx hb dX1_leaveStep_6 rfl (lv_at hl 0 rfl) ?_
  refine ty_get (E := []) (ws := ws) (D := D) (ci := 1) (C := RX1) (T := TX1) (N := 14) hx hb hts in_X1 hown hK hP hT h_h0 rfl 5 (by decide) (hts _ kl_RX1_49) (fun _ h9 => h9) rfl dX1_leaveStep_7 (fun _ hv_4 hf_5 => ?_)
  obtain ⟨x_6, rfl⟩ := hv_4
  refine ty_kv (wr := []) (wc := ([] ++ ws)) (va_runVN (As := [.int x_3, .int 1, .int x_6]) (rest := []) ⟨hx, hb, hml, hown, hts⟩ (t_X9_note l D ct S ws ph xx p1 x_3 (1 : Int32) x_6 _ hT h_p1 hph hy1) (cm_VN 3 hts kc_X9_note ki_RX9 kl_RX1_100 kv_X9_note kx_X9_note kd_X9_note ⟨Nat.le_of_ble_eq_true rfl, Nat.le_of_ble_eq_true rfl⟩) (ty_preV (wr := []) (E := []) (ws := ws) (ci := 9) hP hK hD hS hA hX hT rfl h_p1) rfl rfl hl.1 rfl (lv_room (Nat.le_of_ble_eq_true rfl)) dX1_leaveStep_10 ⟨Nat.le_of_ble_eq_true rfl, Nat.le_of_ble_eq_true rfl⟩) hP hD hS hA (fun u H locs hw_8 hP hD hS => ?_)
  obtain ⟨ws_9, rfl⟩ : ∃ z, z = u := ⟨_, rfl⟩
  have hT := hw_8
  have hP : va_P D vwCl ([] ++ ws_9) H := hP
  have hD : va_D A ([] ++ ws_9) := hD
  refine lv_aload_n hx hb dX1_leaveStep_13 rfl (lv_at hl 0 rfl) ?_
  refine lv_aload_n hx hb dX1_leaveStep_14 rfl (lv_at hl 1 rfl) ?_
  refine ty_getN (E := []) (ws := ws_9) (D := D) (ci := 9) (C := RX9) (T := TX9) (N := 8) hx hb hts in_X9 hown hK hP hT h_p1 rfl 3 (by decide) (hts _ kl_RX1_175) (fun _ h9 => h9) rfl dX1_leaveStep_15 (fun _ hv_10 hf_11 => ?_)
  obtain ⟨a_12, rfl, ha_13⟩ := hv_10
  refine ty_ki (wr := []) (wc := ([] ++ ws_9)) (va_runV (As := [.ref a_12]) (rest := []) ⟨hx, hb, hml, hown, hts⟩ (t_X1_stepBehind l D ct S ws_9 ph xx h0 a_12 _ hT h_h0 ha_13 hph hy1) (cm_V 1 hts kc_X1_stepBehind ki_RX1 kl_RX1_262 kv_X1_stepBehind kx_X1_stepBehind kd_X1_stepBehind ⟨Nat.le_of_ble_eq_true rfl, Nat.le_of_ble_eq_true rfl⟩) (ty_preV (wr := []) (E := []) (ws := ws_9) (ci := 1) hP hK hD hS hA hX hT rfl h_h0) rfl rfl hl.1 rfl (lv_room (Nat.le_of_ble_eq_true rfl)) dX1_leaveStep_18 ⟨Nat.le_of_ble_eq_true rfl, Nat.le_of_ble_eq_true rfl⟩) hP hD hS hA (fun r_14 u H locs hw_15 hP hD hS => ?_)
  obtain ⟨ws_16, rfl⟩ : ∃ z, z = u := ⟨_, rfl⟩
  have hT := hw_15
  have hP : va_P D vwCl ([] ++ ws_16) H := hP
  have hD : va_D A ([] ++ ws_16) := hD
  refine lv_istore_n (lv' := [(2, .int r_14), (0, .ref h0), (1, .ref p1)]) hx hb dX1_leaveStep_21 rfl hl (by decide) rfl (fun ls hl => ?_)
  refine lv_iload_n hx hb dX1_leaveStep_22 rfl (lv_at hl 0 rfl) ?_
  refine lv_aload_n hx hb dX1_leaveStep_23 rfl (lv_at hl 2 rfl) ?_
  refine ty_getN (E := []) (ws := ws_16) (D := D) (ci := 9) (C := RX9) (T := TX9) (N := 8) hx hb hts in_X9 hown hK hP hT h_p1 rfl 3 (by decide) (hts _ kl_RX1_175) (fun _ h9 => h9) rfl dX1_leaveStep_24 (fun _ hv_17 hf_18 => ?_)
  obtain ⟨a_19, rfl, ha_20⟩ := hv_17
  refine lv_aload_n hx hb dX1_leaveStep_27 rfl (lv_at hl 1 rfl) ?_
  refine ty_get (E := []) (ws := ws_16) (D := D) (ci := 1) (C := RX1) (T := TX1) (N := 14) hx hb hts in_X1 hown hK hP hT h_h0 rfl 4 (by decide) (hts _ kl_RX1_46) (fun _ h9 => h9) rfl dX1_leaveStep_28 (fun _ hv_21 hf_22 => ?_)
  obtain ⟨x_23, rfl⟩ := hv_21
  refine ty_ki (wr := []) (wc := ([] ++ ws_16)) (va_runVN (As := [.int x_23]) (rest := [.int r_14]) ⟨hx, hb, hml, hown, hts⟩ (t_X5_stepsOf l D ct S ws_16 ph xx a_19 x_23 _ hT ha_20 hph hy1) (cm_VN 1 hts kc_X5_stepsOf ki_RX5 kl_RX1_266 kv_X5_stepsOf kx_X5_stepsOf kd_X5_stepsOf ⟨Nat.le_of_ble_eq_true rfl, Nat.le_of_ble_eq_true rfl⟩) (ty_preV (wr := []) (E := []) (ws := ws_16) (ci := 5) hP hK hD hS hA hX hT rfl ha_20) rfl rfl hl.1 rfl (lv_room (Nat.le_of_ble_eq_true rfl)) dX1_leaveStep_31 ⟨Nat.le_of_ble_eq_true rfl, Nat.le_of_ble_eq_true rfl⟩) hP hD hS hA (fun r_24 u H locs hw_25 hP hD hS => ?_)
  obtain ⟨ws_26, rfl⟩ : ∃ z, z = u := ⟨_, rfl⟩
  have hT := hw_25
  have hP : va_P D vwCl ([] ++ ws_26) H := hP
  have hD : va_D A ([] ++ ws_26) := hD
  refine lv_icmp_ge (tgt := 43) hx hb dX1_leaveStep_34 (by decide) (fun hc_27 => ?_) (fun hc_27 => ?_)
  · refine lv_aload_n hx hb dX1_leaveStep_43 rfl (lv_at hl 2 rfl) ?_
    refine lv_aload_n hx hb dX1_leaveStep_44 rfl (lv_at hl 1 rfl) ?_
    refine ty_get (E := []) (ws := ws_26) (D := D) (ci := 1) (C := RX1) (T := TX1) (N := 14) hx hb hts in_X1 hown hK hP hT h_h0 rfl 0 (by decide) (hts _ kl_RX1_9) (fun _ h9 => h9) rfl dX1_leaveStep_45 (fun _ hv_28 hf_29 => ?_)
    obtain ⟨x_30, rfl⟩ := hv_28
    refine lv_iconst (v := 2) hx hb dX1_leaveStep_48 (by decide) ?_
    refine lv_iconst (v := 0) hx hb dX1_leaveStep_49 (by decide) ?_
    refine ty_kv (wr := []) (wc := ([] ++ ws_26)) (va_runVN (As := [.int x_30, .int 2, .int 0]) (rest := []) ⟨hx, hb, hml, hown, hts⟩ (t_X9_note l D ct S ws_26 ph xx p1 x_30 (2 : Int32) (0 : Int32) _ hT h_p1 hph hy1) (cm_VN 3 hts kc_X9_note ki_RX9 kl_RX1_100 kv_X9_note kx_X9_note kd_X9_note ⟨Nat.le_of_ble_eq_true rfl, Nat.le_of_ble_eq_true rfl⟩) (ty_preV (wr := []) (E := []) (ws := ws_26) (ci := 9) hP hK hD hS hA hX hT rfl h_p1) rfl rfl hl.1 rfl (lv_room (Nat.le_of_ble_eq_true rfl)) dX1_leaveStep_50 ⟨Nat.le_of_ble_eq_true rfl, Nat.le_of_ble_eq_true rfl⟩) hP hD hS hA (fun u H locs hw_32 hP hD hS => ?_)
    obtain ⟨ws_33, rfl⟩ : ∃ z, z = u := ⟨_, rfl⟩
    have hT := hw_32
    have hP : va_P D vwCl ([] ++ ws_33) H := hP
    have hD : va_D A ([] ++ ws_33) := hD
    refine lv_aload_n hx hb dX1_leaveStep_53 rfl (lv_at hl 1 rfl) ?_
    refine ty_get (E := []) (ws := ws_33) (D := D) (ci := 1) (C := RX1) (T := TX1) (N := 14) hx hb hts in_X1 hown hK hP hT h_h0 rfl 9 (by decide) (hts _ kl_RX1_59) (fun _ h9 => h9) rfl dX1_leaveStep_54 (fun _ hv_34 hf_35 => ?_)
    obtain ⟨x_36, rfl⟩ := hv_34
    refine lv_if_le (tgt := 72) hx hb dX1_leaveStep_57 (by decide) (fun hc_37 => ?_) (fun hc_37 => ?_)
    · refine lv_aload_n hx hb dX1_leaveStep_72 rfl (lv_at hl 1 rfl) ?_
      refine lv_iconst (v := 3) hx hb dX1_leaveStep_73 (by decide) ?_
      refine ty_put (v := .int 3) (ty := .int) (E := []) (ws := ws_33) (D := D) (ci := 1) (C := RX1) (T := TX1) (N := 14) hx hb hts in_X1 tyX1 tyX1_ok nmX1 hown hK hP hD hS hT h_h0 rfl 3 (by decide) (hts _ kl_RX1_43) (fun _ h9 => h9) rfl (by decide +kernel) rfl rfl rfl ⟨_, rfl⟩ dX1_leaveStep_74 hph (hy1 1 3 h0 rfl) (fun ws_38 H locs hT hP hD hS => ?_)
      exact W.vret hx hb hr (fun t ht hW => ⟨⟨ws_38, rfl, hT, by rw [ht]; exact hP, by rw [hAe]; exact hD⟩, hS.F ht⟩) hS.2.2 dX1_leaveStep_77
    · refine lv_aload_n hx hb dX1_leaveStep_60 rfl (lv_at hl 1 rfl) ?_
      refine lv_aload_n hx hb dX1_leaveStep_61 rfl (lv_at hl 1 rfl) ?_
      refine ty_ki (wr := []) (wc := ([] ++ ws_33)) (va_runV (As := []) (rest := [.ref h0]) ⟨hx, hb, hml, hown, hts⟩ (t_X1_takeWaiting l D ct S ws_33 ph xx h0 _ hT h_h0 hph hy1) (cm_V 0 hts kc_X1_takeWaiting ki_RX1 kl_RX1_269 kv_X1_takeWaiting kx_X1_takeWaiting kd_X1_takeWaiting ⟨Nat.le_of_ble_eq_true rfl, Nat.le_of_ble_eq_true rfl⟩) (ty_preV (wr := []) (E := []) (ws := ws_33) (ci := 1) hP hK hD hS hA hX hT rfl h_h0) rfl rfl hl.1 rfl (lv_room (Nat.le_of_ble_eq_true rfl)) dX1_leaveStep_62 ⟨Nat.le_of_ble_eq_true rfl, Nat.le_of_ble_eq_true rfl⟩) hP hD hS hA (fun r_39 u H locs hw_40 hP hD hS => ?_)
      obtain ⟨ws_41, rfl⟩ : ∃ z, z = u := ⟨_, rfl⟩
      have hT := hw_40
      have hP : va_P D vwCl ([] ++ ws_41) H := hP
      have hD : va_D A ([] ++ ws_41) := hD
      refine lv_aload_n hx hb dX1_leaveStep_65 rfl (lv_at hl 2 rfl) ?_
      refine ty_kv (wr := []) (wc := ([] ++ ws_41)) (va_runV (As := [.int r_39, .ref p1]) (rest := []) ⟨hx, hb, hml, hown, hts⟩ (t_X1_begin l D ct S ws_41 ph xx h0 r_39 p1 _ hT h_h0 h_p1 hph hy1) (cm_V 2 hts kc_X1_begin ki_RX1 kl_RX1_272 kv_X1_begin kx_X1_begin kd_X1_begin ⟨Nat.le_of_ble_eq_true rfl, Nat.le_of_ble_eq_true rfl⟩) (ty_preV (wr := []) (E := []) (ws := ws_41) (ci := 1) hP hK hD hS hA hX hT rfl h_h0) rfl rfl hl.1 rfl (lv_room (Nat.le_of_ble_eq_true rfl)) dX1_leaveStep_66 ⟨Nat.le_of_ble_eq_true rfl, Nat.le_of_ble_eq_true rfl⟩) hP hD hS hA (fun u H locs hw_43 hP hD hS => ?_)
      obtain ⟨ws_44, rfl⟩ : ∃ z, z = u := ⟨_, rfl⟩
      have hT := hw_43
      have hP : va_P D vwCl ([] ++ ws_44) H := hP
      have hD : va_D A ([] ++ ws_44) := hD
      refine lv_goto (tgt := 77) hx hb dX1_leaveStep_69 (by decide) ?_
      exact W.vret hx hb hr (fun t ht hW => ⟨⟨ws_44, rfl, hT, by rw [ht]; exact hP, by rw [hAe]; exact hD⟩, hS.F ht⟩) hS.2.2 dX1_leaveStep_77
  · refine lv_aload_n hx hb dX1_leaveStep_37 rfl (lv_at hl 1 rfl) ?_
    refine lv_iload_n hx hb dX1_leaveStep_38 rfl (lv_at hl 0 rfl) ?_
    refine ty_kv (wr := []) (wc := ([] ++ ws_26)) (va_runV (As := [.int r_14]) (rest := []) ⟨hx, hb, hml, hown, hts⟩ (t_X1_enterStep l D ct S ws_26 ph xx h0 r_14 _ hT h_h0 hph hy1) (cm_V 1 hts kc_X1_enterStep ki_RX1 kl_RX1_106 kv_X1_enterStep kx_X1_enterStep kd_X1_enterStep ⟨Nat.le_of_ble_eq_true rfl, Nat.le_of_ble_eq_true rfl⟩) (ty_preV (wr := []) (E := []) (ws := ws_26) (ci := 1) hP hK hD hS hA hX hT rfl h_h0) rfl rfl hl.1 rfl (lv_room (Nat.le_of_ble_eq_true rfl)) dX1_leaveStep_39 ⟨Nat.le_of_ble_eq_true rfl, Nat.le_of_ble_eq_true rfl⟩) hP hD hS hA (fun u H locs hw_46 hP hD hS => ?_)
    obtain ⟨ws_47, rfl⟩ : ∃ z, z = u := ⟨_, rfl⟩
    have hT := hw_46
    have hP : va_P D vwCl ([] ++ ws_47) H := hP
    have hD : va_D A ([] ++ ws_47) := hD
    exact W.vret hx hb hr (fun t ht hW => ⟨⟨ws_47, rfl, hT, by rw [ht]; exact hP, by rw [hAe]; exact hD⟩, hS.F ht⟩) hS.2.2 dX1_leaveStep_42
theorem dX10_skip_0 : decode cX10_skip 0 = .ok (.aload_n 0, 1) := by decide +kernel
theorem dX10_skip_1 : decode cX10_skip 1 = .ok (.iload_n 1, 1) := by decide +kernel
theorem dX10_skip_2 : decode cX10_skip 2 = .ok (.invokevirtual 172, 3) := by decide +kernel
theorem dX10_skip_5 : decode cX10_skip 5 = .ok (.astore_n 2, 1) := by decide +kernel
theorem dX10_skip_6 : decode cX10_skip 6 = .ok (.aload_n 2, 1) := by decide +kernel
theorem dX10_skip_7 : decode cX10_skip 7 = .ok (.getfield 129, 3) := by decide +kernel
theorem dX10_skip_10 : decode cX10_skip 10 = .ok (.iconst 1, 1) := by decide +kernel
theorem dX10_skip_11 : decode cX10_skip 11 = .ok (.if_icmp .eq 6, 3) := by decide +kernel
theorem dX10_skip_14 : decode cX10_skip 14 = .ok (.bipush (-3), 2) := by decide +kernel
theorem dX10_skip_16 : decode cX10_skip 16 = .ok (.ireturn, 1) := by decide +kernel
theorem dX10_skip_17 : decode cX10_skip 17 = .ok (.aload_n 2, 1) := by decide +kernel
theorem dX10_skip_18 : decode cX10_skip 18 = .ok (.aload_n 0, 1) := by decide +kernel
theorem dX10_skip_19 : decode cX10_skip 19 = .ok (.getfield 10, 3) := by decide +kernel
theorem dX10_skip_22 : decode cX10_skip 22 = .ok (.invokevirtual 194, 3) := by decide +kernel
theorem dX10_skip_25 : decode cX10_skip 25 = .ok (.aload_n 2, 1) := by decide +kernel
theorem dX10_skip_26 : decode cX10_skip 26 = .ok (.getfield 129, 3) := by decide +kernel
theorem dX10_skip_29 : decode cX10_skip 29 = .ok (.iconst 3, 1) := by decide +kernel
theorem dX10_skip_30 : decode cX10_skip 30 = .ok (.if_icmp .ne 7, 3) := by decide +kernel
theorem dX10_skip_33 : decode cX10_skip 33 = .ok (.iconst (-1), 1) := by decide +kernel
theorem dX10_skip_34 : decode cX10_skip 34 = .ok (.goto 7, 3) := by decide +kernel
theorem dX10_skip_37 : decode cX10_skip 37 = .ok (.aload_n 2, 1) := by decide +kernel
theorem dX10_skip_38 : decode cX10_skip 38 = .ok (.getfield 191, 3) := by decide +kernel
theorem dX10_skip_41 : decode cX10_skip 41 = .ok (.ireturn, 1) := by decide +kernel
set_option maxRecDepth 100000 in
set_option maxHeartbeats 4000000 in
theorem t_X10_skip (l : Launch) (hfl : l.stackTraces = false) (D : va_G) (ct : Nat → ClassId) (S : ty_S) (ws : va_W) (ph : va_W → Prop) (xx : Nat → Nat → Nat → Prop) (x : Nat) (w : Nat) (sp : Nat) (sv : Nat) (bu : Nat) (ns : Nat) (bl : Int32) (le : Int32) (p1 : Int32) (sz : Nat) (hT : ty_V ct S ph ws) (h_w : S w = some (.inl 9)) (h_sp : S sp = some (.inl 9)) (h_sv : S sv = some (.inr (4, ns))) (hph : ty_C ph xx) (hy1 : ty_y1 xx) : vx_Met l yX10_skip (ws_ yX10_skip cX10_skip 3 (some .int)) ({ frames := 7, cells := 1, slots := 6, locals := 112 } : Room) (va_Pc [.ref x, .int p1] (cmP D ct sz ([(ty_XO x w sp sv bu bl le)] ++ ws))) (va_Qi (fun (r : Int32) (u9 : va_W) => ty_V ct S ph u9) (cmB D ([(ty_XO x w sp sv bu bl le)] ++ ws) sz (fun (u9 : va_W) => ([(ty_XO x w sp sv bu bl le)] ++ u9))) (va_A ([(ty_XO x w sp sv bu bl le)] ++ ws) sz)) (vx_X (fun (u9 : va_W) => ty_V ct S ph u9) (cmBY D ([(ty_XO x w sp sv bu bl le)] ++ ws) sz ["java/lang/IndexOutOfBoundsException"] (fun (u9 : va_W) => ([(ty_XO x w sp sv bu bl le)] ++ u9))) (va_A ([(ty_XO x w sp sv bu bl le)] ++ ws) sz)) 1 6 (va_A ([(ty_XO x w sp sv bu bl le)] ++ ws) sz) := by
  refine vx_ofW (cc := cX10_skip) (maxL := 3) (ret := (some .int)) (by decide) rfl ?_
  intro p e s m args below meth c s₁ B hml hex hv
  obtain ⟨rfl, hsz, hP, hK, hD0, hX⟩ := hv
  have hx := B.exec
  have hb := B.bytes
  have hr := B.returns
  have hts := ws_all (atoms_spec (ws := ws_ yX10_skip cX10_skip 3 (some .int)) B.pre)
  have hown : s.vm.findClass RX10 = some m.cls := findClass_of_methodNamed B.named
  have hlocks := B.notSynchronized
  subst hsz
  have hD := hD0.self (sz := s.heap.size)
  generalize hAe : va_A ([(ty_XO x w sp sv bu bl le)] ++ ws) s.heap.size = A at hD hX ⊢
  have hA : ∀ q : Nat, s.heap.size ≤ q → A q := fun q h => by rw [← hAe]; exact Or.inr h
  have hS : va_S A s.heap s.heap [] := va_S.rf
  have hl := lv_entry ([.ref x, .int p1]) (n := 3) (Nat.le_of_ble_eq_true rfl)
  rw [lg_entry_eq]
  generalize (lg_sl ([.ref x, .int p1]) ++ List.replicate (3 - (lg_sl ([.ref x, .int p1])).length) Slot.unset).toArray = ls at hl ⊢
  have hl : lv_has ls 3 [(0, .ref x), (1, .int p1)] := hl
  refine lv_aload_n hx hb dX10_skip_0 rfl (lv_at hl 0 rfl) ?_
  refine lv_iload_n hx hb dX10_skip_1 rfl (lv_at hl 1 rfl) ?_
  refine ty_xq (wr := []) (wc := ([(ty_XO x w sp sv bu bl le)] ++ ws)) (vx_runV (As := [.int p1]) (rest := []) ⟨hx, hb, hml, hown, hts⟩ (t_X10_needChannel l hfl D ct S ws ph xx x w sp sv bu ns bl le p1 _ hT h_w h_sp h_sv hph hy1) (cm_V 1 hts kc_X10_needChannel ki_RX10 kl_RX10_172 kv_X10_needChannel kx_X10_needChannel kd_X10_needChannel ⟨Nat.le_of_ble_eq_true rfl, Nat.le_of_ble_eq_true rfl⟩) (ty_preE (wr := []) (wc := ([(ty_XO x w sp sv bu bl le)] ++ ws)) (ci := 10) (q0 := 0) hP hK hD hS hA hX rfl rfl) rfl rfl hl.1 rfl (lv_room (Nat.le_of_ble_eq_true rfl)) dX10_skip_2 ⟨Nat.le_of_ble_eq_true rfl, Nat.le_of_ble_eq_true rfl⟩) hP hD hS hA (fun E ce q9 u H locs hu hE hP hD hS hce hcv hcl => ?_) (fun r_1 u H locs hw_2 hP hD hS => ?_)
  · obtain ⟨ws_3, rfl⟩ : ∃ z, z = u := ⟨_, rfl⟩
    have hT := hu
    have hP : va_P D vwCl ([(ty_XO x w sp sv bu bl le)] ++ ws_3) H := hP
    have hD : va_D A ([(ty_XO x w sp sv bu bl le)] ++ ws_3) := hD
    exact vx_out (fun x hx => (hex x hx).elim) hlocks hce hcv hcl (fun t ht hW => ⟨ws_3, hT, ⟨hE, by rw [ht]; exact hP, by rw [hAe]; exact hD⟩, hS.F ht⟩) hS.2.2 (Nat.le_of_ble_eq_true rfl) (Nat.le_of_ble_eq_true rfl)
  · obtain ⟨ws_4, rfl⟩ : ∃ z, z = u := ⟨_, rfl⟩
    obtain ⟨hT, hq_5⟩ := hw_2
    have hP : va_P D vwCl ([(ty_XO x w sp sv bu bl le)] ++ ws_4) H := hP
    have hD : va_D A ([(ty_XO x w sp sv bu bl le)] ++ ws_4) := hD
    refine W.widen (k := 1) (n := 6) (Nat.le_of_ble_eq_true rfl) (Nat.le_of_ble_eq_true rfl) ?_
    obtain ⟨a_6, rfl, ha_7⟩ := hq_5
    refine W.eq (g2 := F0 m 5 ls (.ref a_6 :: [])) rfl ?_
    refine lv_astore_n (lv' := [(2, .ref a_6), (0, .ref x), (1, .int p1)]) hx hb dX10_skip_5 rfl hl (by decide) rfl (fun ls hl => ?_)
    refine lv_aload_n hx hb dX10_skip_6 rfl (lv_at hl 0 rfl) ?_
    refine ty_getN (E := [(ty_XO x w sp sv bu bl le)]) (ws := ws_4) (D := D) (ci := 1) (C := RX1) (T := TX1) (N := 14) hx hb hts in_X1 hown hK hP hT ha_7 rfl 3 (by decide) (hts _ kl_RX10_129) (fun _ h9 => h9) rfl dX10_skip_7 (fun _ hv_8 hf_9 => ?_)
    obtain ⟨x_10, rfl⟩ := hv_8
    refine lv_iconst (v := 1) hx hb dX10_skip_10 (by decide) ?_
    refine lv_icmp_eq (tgt := 17) hx hb dX10_skip_11 (by decide) (fun hc_11 => ?_) (fun hc_11 => ?_)
    · refine lv_aload_n hx hb dX10_skip_17 rfl (lv_at hl 0 rfl) ?_
      refine lv_aload_n hx hb dX10_skip_18 rfl (lv_at hl 1 rfl) ?_
      refine va_get (v := .ref w) (D := D) (ci := 10) (C := RX10) (T := TX10) (N := 6) hx hb hts in_X10 hown hK hP 0 rfl rfl 0 (by decide) (hts _ kl_RX10_10) (fun _ h9 => h9) rfl dX10_skip_19 ?_
      refine ty_kv (wr := [(ty_XO x w sp sv bu bl le)]) (wc := ([] ++ ws_4)) (va_runVN (As := [.ref w]) (rest := []) ⟨hx, hb, hml, hown, hts⟩ (t_X1_leaveStep l D ct S ws_4 ph xx a_6 w _ hT ha_7 h_w hph hy1) (cm_VN 1 hts kc_X1_leaveStep ki_RX1 kl_RX10_194 kv_X1_leaveStep kx_X1_leaveStep kd_X1_leaveStep ⟨Nat.le_of_ble_eq_true rfl, Nat.le_of_ble_eq_true rfl⟩) (ty_preV (wr := [(ty_XO x w sp sv bu bl le)]) (E := []) (ws := ws_4) (ci := 1) hP hK hD hS hA hX hT rfl ha_7) rfl rfl hl.1 rfl (lv_room (Nat.le_of_ble_eq_true rfl)) dX10_skip_22 ⟨Nat.le_of_ble_eq_true rfl, Nat.le_of_ble_eq_true rfl⟩) hP hD hS hA (fun u H locs hw_13 hP hD hS => ?_)
      obtain ⟨ws_14, rfl⟩ : ∃ z, z = u := ⟨_, rfl⟩
      have hT := hw_13
      have hP : va_P D vwCl ([(ty_XO x w sp sv bu bl le)] ++ ws_14) H := hP
      have hD : va_D A ([(ty_XO x w sp sv bu bl le)] ++ ws_14) := hD
      refine lv_aload_n hx hb dX10_skip_25 rfl (lv_at hl 0 rfl) ?_
      refine ty_getN (E := [(ty_XO x w sp sv bu bl le)]) (ws := ws_14) (D := D) (ci := 1) (C := RX1) (T := TX1) (N := 14) hx hb hts in_X1 hown hK hP hT ha_7 rfl 3 (by decide) (hts _ kl_RX10_129) (fun _ h9 => h9) rfl dX10_skip_26 (fun _ hv_15 hf_16 => ?_)
      obtain ⟨x_17, rfl⟩ := hv_15
      refine lv_iconst (v := 3) hx hb dX10_skip_29 (by decide) ?_
      refine lv_icmp_ne (tgt := 37) hx hb dX10_skip_30 (by decide) (fun hc_18 => ?_) (fun hc_18 => ?_)
      · refine lv_aload_n hx hb dX10_skip_37 rfl (lv_at hl 0 rfl) ?_
        refine ty_getN (E := [(ty_XO x w sp sv bu bl le)]) (ws := ws_14) (D := D) (ci := 1) (C := RX1) (T := TX1) (N := 14) hx hb hts in_X1 hown hK hP hT ha_7 rfl 5 (by decide) (hts _ kl_RX10_191) (fun _ h9 => h9) rfl dX10_skip_38 (fun _ hv_19 hf_20 => ?_)
        obtain ⟨x_21, rfl⟩ := hv_19
        refine vx_ret ?_
        exact W.iret (v := x_21) hx hb hr (fun t ht hW => ⟨⟨x_21, ws_14, rfl, hT, by rw [ht]; exact hP, by rw [hAe]; exact hD⟩, hS.F ht⟩) hS.2.2 dX10_skip_41
      · refine lv_iconst (v := (-1)) hx hb dX10_skip_33 (by decide) ?_
        refine lv_goto (tgt := 41) hx hb dX10_skip_34 (by decide) ?_
        refine vx_ret ?_
        exact W.iret (v := (-1)) hx hb hr (fun t ht hW => ⟨⟨(-1), ws_14, rfl, hT, by rw [ht]; exact hP, by rw [hAe]; exact hD⟩, hS.F ht⟩) hS.2.2 dX10_skip_41
    · refine lv_bipush (v := (-3)) hx hb dX10_skip_14 (by decide) ?_
      refine vx_ret ?_
      exact W.iret (v := (-3)) hx hb hr (fun t ht hW => ⟨⟨(-3), ws_4, rfl, hT, by rw [ht]; exact hP, by rw [hAe]; exact hD⟩, hS.F ht⟩) hS.2.2 dX10_skip_16
theorem dX10_safeCurrent_0 : decode cX10_safeCurrent 0 = .ok (.aload_n 0, 1) := by decide +kernel
theorem dX10_safeCurrent_1 : decode cX10_safeCurrent 1 = .ok (.iload_n 1, 1) := by decide +kernel
theorem dX10_safeCurrent_2 : decode cX10_safeCurrent 2 = .ok (.invokevirtual 172, 3) := by decide +kernel
theorem dX10_safeCurrent_5 : decode cX10_safeCurrent 5 = .ok (.getfield 134, 3) := by decide +kernel
theorem dX10_safeCurrent_8 : decode cX10_safeCurrent 8 = .ok (.astore_n 3, 1) := by decide +kernel
theorem dX10_safeCurrent_9 : decode cX10_safeCurrent 9 = .ok (.iload_n 2, 1) := by decide +kernel
theorem dX10_safeCurrent_10 : decode cX10_safeCurrent 10 = .ok (.iconst 1, 1) := by decide +kernel
theorem dX10_safeCurrent_11 : decode cX10_safeCurrent 11 = .ok (.sipush 1000, 3) := by decide +kernel
theorem dX10_safeCurrent_14 : decode cX10_safeCurrent 14 = .ok (.invokestatic 81, 3) := by decide +kernel
theorem dX10_safeCurrent_17 : decode cX10_safeCurrent 17 = .ok (.aload_n 0, 1) := by decide +kernel
theorem dX10_safeCurrent_18 : decode cX10_safeCurrent 18 = .ok (.iload_n 1, 1) := by decide +kernel
theorem dX10_safeCurrent_19 : decode cX10_safeCurrent 19 = .ok (.invokevirtual 321, 3) := by decide +kernel
theorem dX10_safeCurrent_22 : decode cX10_safeCurrent 22 = .ok (.getfield 134, 3) := by decide +kernel
theorem dX10_safeCurrent_25 : decode cX10_safeCurrent 25 = .ok (.astore 4, 2) := by decide +kernel
theorem dX10_safeCurrent_27 : decode cX10_safeCurrent 27 = .ok (.aload_n 0, 1) := by decide +kernel
theorem dX10_safeCurrent_28 : decode cX10_safeCurrent 28 = .ok (.aload 4, 2) := by decide +kernel
theorem dX10_safeCurrent_30 : decode cX10_safeCurrent 30 = .ok (.bipush 100, 2) := by decide +kernel
theorem dX10_safeCurrent_32 : decode cX10_safeCurrent 32 = .ok (.iload_n 2, 1) := by decide +kernel
theorem dX10_safeCurrent_33 : decode cX10_safeCurrent 33 = .ok (.invokevirtual 340, 3) := by decide +kernel
theorem dX10_safeCurrent_36 : decode cX10_safeCurrent 36 = .ok (.ifCond .ne 5, 3) := by decide +kernel
theorem dX10_safeCurrent_39 : decode cX10_safeCurrent 39 = .ok (.iconst (-1), 1) := by decide +kernel
theorem dX10_safeCurrent_40 : decode cX10_safeCurrent 40 = .ok (.ireturn, 1) := by decide +kernel
theorem dX10_safeCurrent_41 : decode cX10_safeCurrent 41 = .ok (.sipush 5000, 3) := by decide +kernel
theorem dX10_safeCurrent_44 : decode cX10_safeCurrent 44 = .ok (.istore 5, 2) := by decide +kernel
theorem dX10_safeCurrent_46 : decode cX10_safeCurrent 46 = .ok (.iload 5, 2) := by decide +kernel
theorem dX10_safeCurrent_48 : decode cX10_safeCurrent 48 = .ok (.bipush 100, 2) := by decide +kernel
theorem dX10_safeCurrent_50 : decode cX10_safeCurrent 50 = .ok (.if_icmp .le 30, 3) := by decide +kernel
theorem dX10_safeCurrent_53 : decode cX10_safeCurrent 53 = .ok (.aload 4, 2) := by decide +kernel
theorem dX10_safeCurrent_55 : decode cX10_safeCurrent 55 = .ok (.aload_n 3, 1) := by decide +kernel
theorem dX10_safeCurrent_56 : decode cX10_safeCurrent 56 = .ok (.invokevirtual 344, 3) := by decide +kernel
theorem dX10_safeCurrent_59 : decode cX10_safeCurrent 59 = .ok (.aload_n 0, 1) := by decide +kernel
theorem dX10_safeCurrent_60 : decode cX10_safeCurrent 60 = .ok (.aload 4, 2) := by decide +kernel
theorem dX10_safeCurrent_62 : decode cX10_safeCurrent 62 = .ok (.iload 5, 2) := by decide +kernel
theorem dX10_safeCurrent_64 : decode cX10_safeCurrent 64 = .ok (.iload_n 2, 1) := by decide +kernel
theorem dX10_safeCurrent_65 : decode cX10_safeCurrent 65 = .ok (.invokevirtual 340, 3) := by decide +kernel
theorem dX10_safeCurrent_68 : decode cX10_safeCurrent 68 = .ok (.ifCond .eq 6, 3) := by decide +kernel
theorem dX10_safeCurrent_71 : decode cX10_safeCurrent 71 = .ok (.iload 5, 2) := by decide +kernel
theorem dX10_safeCurrent_73 : decode cX10_safeCurrent 73 = .ok (.ireturn, 1) := by decide +kernel
theorem dX10_safeCurrent_74 : decode cX10_safeCurrent 74 = .ok (.iinc 5 (-100), 3) := by decide +kernel
theorem dX10_safeCurrent_77 : decode cX10_safeCurrent 77 = .ok (.goto (-31), 3) := by decide +kernel
theorem dX10_safeCurrent_80 : decode cX10_safeCurrent 80 = .ok (.bipush 100, 2) := by decide +kernel
theorem dX10_safeCurrent_82 : decode cX10_safeCurrent 82 = .ok (.ireturn, 1) := by decide +kernel
set_option maxRecDepth 100000 in
set_option maxHeartbeats 4000000 in
theorem t_X10_safeCurrent (l : Launch) (hfl : l.stackTraces = false) (D : va_G) (ct : Nat → ClassId) (S : ty_S) (ws : va_W) (ph : va_W → Prop) (xx : Nat → Nat → Nat → Prop) (x : Nat) (w : Nat) (sp : Nat) (sv : Nat) (bu : Nat) (ns : Nat) (bl : Int32) (le : Int32) (p1 : Int32) (p2 : Int32) (sz : Nat) (hT : ty_V ct S ph ws) (h_w : S w = some (.inl 9)) (h_sp : S sp = some (.inl 9)) (h_sv : S sv = some (.inr (4, ns))) (hph : ty_C ph xx) (hy1 : ty_y1 xx) (hy2 : ty_y0 xx 2) (hy5 : ty_y0 xx 5) (hy7 : ty_yc xx 7) (hy11 : ty_y0 xx 11) (hys : xx 9 0 sp ∧ xx 9 4 sp) : vx_Met l yX10_safeCurrent (ws_ yX10_safeCurrent cX10_safeCurrent 6 (some .int)) ({ frames := 7, cells := 3, slots := 18, locals := 189 } : Room) (va_Pc [.ref x, .int p1, .int p2] (cmP D ct sz ([(ty_XO x w sp sv bu bl le)] ++ ws))) (va_Qi (fun (r : Int32) (u9 : va_W) => ty_V ct S ph u9) (cmB D ([(ty_XO x w sp sv bu bl le)] ++ ws) sz (fun (u9 : va_W) => ([(ty_XO x w sp sv bu bl le)] ++ u9))) (va_A ([(ty_XO x w sp sv bu bl le)] ++ ws) sz)) (vx_X (fun (u9 : va_W) => ty_V ct S ph u9) (cmBY D ([(ty_XO x w sp sv bu bl le)] ++ ws) sz ["java/lang/IllegalArgumentException", "java/lang/IndexOutOfBoundsException"] (fun (u9 : va_W) => ([(ty_XO x w sp sv bu bl le)] ++ u9))) (va_A ([(ty_XO x w sp sv bu bl le)] ++ ws) sz)) 3 18 (va_A ([(ty_XO x w sp sv bu bl le)] ++ ws) sz) := by
  refine vx_ofW (cc := cX10_safeCurrent) (maxL := 6) (ret := (some .int)) (by decide) rfl ?_
  intro p e s m args below meth c s₁ B hml hex hv
  obtain ⟨rfl, hsz, hP, hK, hD0, hX⟩ := hv
  have hx := B.exec
  have hb := B.bytes
  have hr := B.returns
  have hts := ws_all (atoms_spec (ws := ws_ yX10_safeCurrent cX10_safeCurrent 6 (some .int)) B.pre)
  have hown : s.vm.findClass RX10 = some m.cls := findClass_of_methodNamed B.named
  have hlocks := B.notSynchronized
  subst hsz
  have hD := hD0.self (sz := s.heap.size)
  generalize hAe : va_A ([(ty_XO x w sp sv bu bl le)] ++ ws) s.heap.size = A at hD hX ⊢
  have hA : ∀ q : Nat, s.heap.size ≤ q → A q := fun q h => by rw [← hAe]; exact Or.inr h
  have hS : va_S A s.heap s.heap [] := va_S.rf
  have hl := lv_entry ([.ref x, .int p1, .int p2]) (n := 6) (Nat.le_of_ble_eq_true rfl)
  rw [lg_entry_eq]
  generalize (lg_sl ([.ref x, .int p1, .int p2]) ++ List.replicate (6 - (lg_sl ([.ref x, .int p1, .int p2])).length) Slot.unset).toArray = ls at hl ⊢
  have hl : lv_has ls 6 [(0, .ref x), (1, .int p1), (2, .int p2)] := hl
  refine lv_aload_n hx hb dX10_safeCurrent_0 rfl (lv_at hl 0 rfl) ?_
  refine lv_iload_n hx hb dX10_safeCurrent_1 rfl (lv_at hl 1 rfl) ?_
  refine ty_xq (wr := []) (wc := ([(ty_XO x w sp sv bu bl le)] ++ ws)) (vx_runV (As := [.int p1]) (rest := []) ⟨hx, hb, hml, hown, hts⟩ (t_X10_needChannel l hfl D ct S ws ph xx x w sp sv bu ns bl le p1 _ hT h_w h_sp h_sv hph hy1) (cm_V 1 hts kc_X10_needChannel ki_RX10 kl_RX10_172 kv_X10_needChannel kx_X10_needChannel kd_X10_needChannel ⟨Nat.le_of_ble_eq_true rfl, Nat.le_of_ble_eq_true rfl⟩) (ty_preE (wr := []) (wc := ([(ty_XO x w sp sv bu bl le)] ++ ws)) (ci := 10) (q0 := 0) hP hK hD hS hA hX rfl rfl) rfl rfl hl.1 rfl (lv_room (Nat.le_of_ble_eq_true rfl)) dX10_safeCurrent_2 ⟨Nat.le_of_ble_eq_true rfl, Nat.le_of_ble_eq_true rfl⟩) hP hD hS hA (fun E ce q9 u H locs hu hE hP hD hS hce hcv hcl => ?_) (fun r_1 u H locs hw_2 hP hD hS => ?_)
  · obtain ⟨ws_3, rfl⟩ : ∃ z, z = u := ⟨_, rfl⟩
    have hT := hu
    have hP : va_P D vwCl ([(ty_XO x w sp sv bu bl le)] ++ ws_3) H := hP
    have hD : va_D A ([(ty_XO x w sp sv bu bl le)] ++ ws_3) := hD
    exact vx_out (fun x hx => (hex x hx).elim) hlocks hce hcv hcl (fun t ht hW => ⟨ws_3, hT, ⟨(ty_mem hE (by decide)), by rw [ht]; exact hP, by rw [hAe]; exact hD⟩, hS.F ht⟩) hS.2.2 (Nat.le_of_ble_eq_true rfl) (Nat.le_of_ble_eq_true rfl)
  · obtain ⟨ws_4, rfl⟩ : ∃ z, z = u := ⟨_, rfl⟩
    obtain ⟨hT, hq_5⟩ := hw_2
    have hP : va_P D vwCl ([(ty_XO x w sp sv bu bl le)] ++ ws_4) H := hP
    have hD : va_D A ([(ty_XO x w sp sv bu bl le)] ++ ws_4) := hD
    refine W.widen (k := 1) (n := 6) (Nat.le_of_ble_eq_true rfl) (Nat.le_of_ble_eq_true rfl) ?_
    obtain ⟨a_6, rfl, ha_7⟩ := hq_5
    refine W.eq (g2 := F0 m 5 ls (.ref a_6 :: [])) rfl ?_
    refine ty_getN (E := [(ty_XO x w sp sv bu bl le)]) (ws := ws_4) (D := D) (ci := 1) (C := RX1) (T := TX1) (N := 14) hx hb hts in_X1 hown hK hP hT ha_7 rfl 1 (by decide) (hts _ kl_RX10_134) (fun _ h9 => h9) rfl dX10_safeCurrent_5 (fun _ hv_8 hf_9 => ?_)
    obtain ⟨a_10, rfl, ha_11⟩ := hv_8
    refine lv_astore_n (lv' := [(3, .ref a_10), (0, .ref x), (1, .int p1), (2, .int p2)]) hx hb dX10_safeCurrent_8 rfl hl (by decide) rfl (fun ls hl => ?_)
    refine lv_iload_n hx hb dX10_safeCurrent_9 rfl (lv_at hl 3 rfl) ?_
    refine lv_iconst (v := 1) hx hb dX10_safeCurrent_10 (by decide) ?_
    refine lv_sipush (v := 1000) hx hb dX10_safeCurrent_11 (by decide) ?_
    refine ty_xv (wr := [(ty_XO x w sp sv bu bl le)]) (wc := ([] ++ ws_4)) (vx_runS (As := [.int p2, .int 1, .int 1000]) (rest := []) ⟨hx, hb, hml, hown, hts⟩ (t_X10_needRange l hfl D ct S ws_4 ph xx p2 (1 : Int32) (1000 : Int32) _ hT hph hy1) (cm_S 3 hts kc_X10_needRange ki_RX10 kl_RX10_81 ks_X10_needRange kd_X10_needRange ⟨Nat.le_of_ble_eq_true rfl, Nat.le_of_ble_eq_true rfl⟩) (ty_preS (wr := [(ty_XO x w sp sv bu bl le)]) (wc := ([] ++ ws_4)) hP hK hD hS hA hX) rfl rfl hl.1 rfl (lv_room (Nat.le_of_ble_eq_true rfl)) dX10_safeCurrent_14 ⟨Nat.le_of_ble_eq_true rfl, Nat.le_of_ble_eq_true rfl⟩) hP hD hS hA (fun E ce q9 u H locs hu hE hP hD hS hce hcv hcl => ?_) (fun u H locs hw_13 hP hD hS => ?_)
    · obtain ⟨ws_14, rfl⟩ : ∃ z, z = u := ⟨_, rfl⟩
      have hT := hu
      have hP : va_P D vwCl ([(ty_XO x w sp sv bu bl le)] ++ ws_14) H := hP
      have hD : va_D A ([(ty_XO x w sp sv bu bl le)] ++ ws_14) := hD
      exact vx_out (fun x hx => (hex x hx).elim) hlocks hce hcv hcl (fun t ht hW => ⟨ws_14, hT, ⟨(ty_mem hE (by decide)), by rw [ht]; exact hP, by rw [hAe]; exact hD⟩, hS.F ht⟩) hS.2.2 (Nat.le_of_ble_eq_true rfl) (Nat.le_of_ble_eq_true rfl)
    · obtain ⟨ws_15, rfl⟩ : ∃ z, z = u := ⟨_, rfl⟩
      have hT := hw_13
      have hP : va_P D vwCl ([(ty_XO x w sp sv bu bl le)] ++ ws_15) H := hP
      have hD : va_D A ([(ty_XO x w sp sv bu bl le)] ++ ws_15) := hD
      refine W.widen (k := 2) (n := 12) (Nat.le_of_ble_eq_true rfl) (Nat.le_of_ble_eq_true rfl) ?_
      refine lv_aload_n hx hb dX10_safeCurrent_17 rfl (lv_at hl 1 rfl) ?_
      refine lv_iload_n hx hb dX10_safeCurrent_18 rfl (lv_at hl 2 rfl) ?_
      refine ty_xq (wr := []) (wc := ([(ty_XO x w sp sv bu bl le)] ++ ws_15)) (vx_runV (As := [.int p1]) (rest := []) ⟨hx, hb, hml, hown, hts⟩ (t_X10_needTrial l hfl D ct S ws_15 ph xx x w sp sv bu ns bl le p1 _ hT h_w h_sp h_sv hph hy1 hy2 hy5 hy7 hy11 hys) (cm_V 1 hts kc_X10_needTrial ki_RX10 kl_RX10_321 kv_X10_needTrial kx_X10_needTrial kd_X10_needTrial ⟨Nat.le_of_ble_eq_true rfl, Nat.le_of_ble_eq_true rfl⟩) (ty_preE (wr := []) (wc := ([(ty_XO x w sp sv bu bl le)] ++ ws_15)) (ci := 10) (q0 := 0) hP hK hD hS hA hX rfl rfl) rfl rfl hl.1 rfl (lv_room (Nat.le_of_ble_eq_true rfl)) dX10_safeCurrent_19 ⟨Nat.le_of_ble_eq_true rfl, Nat.le_of_ble_eq_true rfl⟩) hP hD hS hA (fun E ce q9 u H locs hu hE hP hD hS hce hcv hcl => ?_) (fun r_16 u H locs hw_17 hP hD hS => ?_)
      · obtain ⟨ws_18, rfl⟩ : ∃ z, z = u := ⟨_, rfl⟩
        have hT := hu
        have hP : va_P D vwCl ([(ty_XO x w sp sv bu bl le)] ++ ws_18) H := hP
        have hD : va_D A ([(ty_XO x w sp sv bu bl le)] ++ ws_18) := hD
        exact vx_out (fun x hx => (hex x hx).elim) hlocks hce hcv hcl (fun t ht hW => ⟨ws_18, hT, ⟨(ty_mem hE (by decide)), by rw [ht]; exact hP, by rw [hAe]; exact hD⟩, hS.F ht⟩) hS.2.2 (Nat.le_of_ble_eq_true rfl) (Nat.le_of_ble_eq_true rfl)
      · obtain ⟨ws_19, rfl⟩ : ∃ z, z = u := ⟨_, rfl⟩
        obtain ⟨hT, hq_20⟩ := hw_17
        have hP : va_P D vwCl ([(ty_XO x w sp sv bu bl le)] ++ ws_19) H := hP
        have hD : va_D A ([(ty_XO x w sp sv bu bl le)] ++ ws_19) := hD
        refine W.widen (k := 3) (n := 18) (Nat.le_of_ble_eq_true rfl) (Nat.le_of_ble_eq_true rfl) ?_
        obtain ⟨a_21, rfl, ha_22⟩ := hq_20
        refine W.eq (g2 := F0 m 22 ls (.ref a_21 :: [])) rfl ?_
        refine ty_getN (E := [(ty_XO x w sp sv bu bl le)]) (ws := ws_19) (D := D) (ci := 1) (C := RX1) (T := TX1) (N := 14) hx hb hts in_X1 hown hK hP hT ha_22 rfl 1 (by decide) (hts _ kl_RX10_134) (fun _ h9 => h9) rfl dX10_safeCurrent_22 (fun _ hv_23 hf_24 => ?_)
        obtain ⟨a_25, rfl, ha_26⟩ := hv_23
        refine lv_astore (lv' := [(4, .ref a_25), (3, .ref a_10), (0, .ref x), (1, .int p1), (2, .int p2)]) hx hb dX10_safeCurrent_25 hl (by decide) rfl (fun ls hl => ?_)
        refine lv_aload_n hx hb dX10_safeCurrent_27 rfl (lv_at hl 2 rfl) ?_
        refine lv_aload hx hb dX10_safeCurrent_28 (lv_at hl 0 rfl) ?_
        refine lv_bipush (v := 100) hx hb dX10_safeCurrent_30 (by decide) ?_
        refine lv_iload_n hx hb dX10_safeCurrent_32 rfl (lv_at hl 4 rfl) ?_
        refine ty_ki (wr := []) (wc := ([(ty_XO x w sp sv bu bl le)] ++ ws_19)) (va_runV (As := [.ref a_25, .int 100, .int p2]) (rest := []) ⟨hx, hb, hml, hown, hts⟩ (t_X10_isSafe l D ct S ws_19 ph xx x w sp sv bu ns bl le a_25 (100 : Int32) p2 _ hT h_w h_sp h_sv ha_26 hph hy1) (cm_V 3 hts kc_X10_isSafe ki_RX10 kl_RX10_340 kv_X10_isSafe kx_X10_isSafe kd_X10_isSafe ⟨Nat.le_of_ble_eq_true rfl, Nat.le_of_ble_eq_true rfl⟩) (ty_preE (wr := []) (wc := ([(ty_XO x w sp sv bu bl le)] ++ ws_19)) (ci := 10) (q0 := 0) hP hK hD hS hA hX rfl rfl) rfl rfl hl.1 rfl (lv_room (Nat.le_of_ble_eq_true rfl)) dX10_safeCurrent_33 ⟨Nat.le_of_ble_eq_true rfl, Nat.le_of_ble_eq_true rfl⟩) hP hD hS hA (fun r_27 u H locs hw_28 hP hD hS => ?_)
        obtain ⟨ws_29, rfl⟩ : ∃ z, z = u := ⟨_, rfl⟩
        have hT := hw_28
        have hP : va_P D vwCl ([(ty_XO x w sp sv bu bl le)] ++ ws_29) H := hP
        have hD : va_D A ([(ty_XO x w sp sv bu bl le)] ++ ws_29) := hD
        refine lv_if_ne (tgt := 41) hx hb dX10_safeCurrent_36 (by decide) (fun hc_30 => ?_) (fun hc_30 => ?_)
        · refine lv_sipush (v := 5000) hx hb dX10_safeCurrent_41 (by decide) ?_
          refine lv_istore (lv' := [(5, .int 5000), (4, .ref a_25), (3, .ref a_10), (0, .ref x), (1, .int p1), (2, .int p2)]) hx hb dX10_safeCurrent_44 hl (by decide) rfl (fun ls hl => ?_)
          refine ty_loop (I := fun μ H locs ls => ∃ (ws : va_W) (y_31 : Int32), μ = (y_31.toInt + 2147483648).toNat ∧ ty_V ct S ph ws ∧ va_P D vwCl ([(ty_XO x w sp sv bu bl le)] ++ ws) H ∧ va_D A ([(ty_XO x w sp sv bu bl le)] ++ ws) ∧ va_S A s.heap H locs ∧ lv_has ls 6 [(0, .ref x), (1, .int p1), (2, .int p2), (3, .ref a_10), (4, .ref a_25), (5, .int y_31)]) ⟨_, ws_29, (5000 : Int32), rfl, hT, hP, hD, hS, (lv_sub hl [3, 4, 5, 2, 1, 0] rfl)⟩ (fun μ H locs ls hI ih_46 => ?_)
          obtain ⟨ws, y_31, rfl, hT, hP, hD, hS, hl⟩ := hI
          refine lv_iload hx hb dX10_safeCurrent_46 (lv_at hl 5 rfl) ?_
          refine lv_bipush (v := 100) hx hb dX10_safeCurrent_48 (by decide) ?_
          refine lv_icmp_le (tgt := 80) hx hb dX10_safeCurrent_50 (by decide) (fun hc_32 => ?_) (fun hc_32 => ?_)
          · refine lv_bipush (v := 100) hx hb dX10_safeCurrent_80 (by decide) ?_
            refine vx_ret ?_
            exact W.iret (v := 100) hx hb hr (fun t ht hW => ⟨⟨100, ws, rfl, hT, by rw [ht]; exact hP, by rw [hAe]; exact hD⟩, hS.F ht⟩) hS.2.2 dX10_safeCurrent_82
          · refine lv_aload hx hb dX10_safeCurrent_53 (lv_at hl 4 rfl) ?_
            refine lv_aload_n hx hb dX10_safeCurrent_55 rfl (lv_at hl 3 rfl) ?_
            refine ty_kv (wr := [(ty_XO x w sp sv bu bl le)]) (wc := ([] ++ ws)) (va_runVN (As := [.ref a_10]) (rest := []) ⟨hx, hb, hml, hown, hts⟩ (t_X0_copyFrom l D ct S ws ph xx a_25 a_10 _ hT ha_26 ha_11 hph hy1) (cm_VN 1 hts kc_X0_copyFrom ki_RX0 kl_RX10_344 kv_X0_copyFrom kx_X0_copyFrom kd_X0_copyFrom ⟨Nat.le_of_ble_eq_true rfl, Nat.le_of_ble_eq_true rfl⟩) (ty_preV (wr := [(ty_XO x w sp sv bu bl le)]) (E := []) (ws := ws) (ci := 0) hP hK hD hS hA hX hT rfl ha_26) rfl rfl hl.1 rfl (lv_room (Nat.le_of_ble_eq_true rfl)) dX10_safeCurrent_56 ⟨Nat.le_of_ble_eq_true rfl, Nat.le_of_ble_eq_true rfl⟩) hP hD hS hA (fun u H locs hw_34 hP hD hS => ?_)
            obtain ⟨ws_35, rfl⟩ : ∃ z, z = u := ⟨_, rfl⟩
            have hT := hw_34
            have hP : va_P D vwCl ([(ty_XO x w sp sv bu bl le)] ++ ws_35) H := hP
            have hD : va_D A ([(ty_XO x w sp sv bu bl le)] ++ ws_35) := hD
            refine lv_aload_n hx hb dX10_safeCurrent_59 rfl (lv_at hl 0 rfl) ?_
            refine lv_aload hx hb dX10_safeCurrent_60 (lv_at hl 4 rfl) ?_
            refine lv_iload hx hb dX10_safeCurrent_62 (lv_at hl 5 rfl) ?_
            refine lv_iload_n hx hb dX10_safeCurrent_64 rfl (lv_at hl 2 rfl) ?_
            refine ty_ki (wr := []) (wc := ([(ty_XO x w sp sv bu bl le)] ++ ws_35)) (va_runV (As := [.ref a_25, .int y_31, .int p2]) (rest := []) ⟨hx, hb, hml, hown, hts⟩ (t_X10_isSafe l D ct S ws_35 ph xx x w sp sv bu ns bl le a_25 y_31 p2 _ hT h_w h_sp h_sv ha_26 hph hy1) (cm_V 3 hts kc_X10_isSafe ki_RX10 kl_RX10_340 kv_X10_isSafe kx_X10_isSafe kd_X10_isSafe ⟨Nat.le_of_ble_eq_true rfl, Nat.le_of_ble_eq_true rfl⟩) (ty_preE (wr := []) (wc := ([(ty_XO x w sp sv bu bl le)] ++ ws_35)) (ci := 10) (q0 := 0) hP hK hD hS hA hX rfl rfl) rfl rfl hl.1 rfl (lv_room (Nat.le_of_ble_eq_true rfl)) dX10_safeCurrent_65 ⟨Nat.le_of_ble_eq_true rfl, Nat.le_of_ble_eq_true rfl⟩) hP hD hS hA (fun r_36 u H locs hw_37 hP hD hS => ?_)
            obtain ⟨ws_38, rfl⟩ : ∃ z, z = u := ⟨_, rfl⟩
            have hT := hw_37
            have hP : va_P D vwCl ([(ty_XO x w sp sv bu bl le)] ++ ws_38) H := hP
            have hD : va_D A ([(ty_XO x w sp sv bu bl le)] ++ ws_38) := hD
            refine lv_if_eq (tgt := 74) hx hb dX10_safeCurrent_68 (by decide) (fun hc_39 => ?_) (fun hc_39 => ?_)
            · refine lv_iinc (v := (y_31 + Int32.ofInt (-100))) (lv' := [(5, .int (y_31 + Int32.ofInt (-100))), (0, .ref x), (1, .int p1), (2, .int p2), (3, .ref a_10), (4, .ref a_25)]) hx hb dX10_safeCurrent_74 hl (k := 5) rfl rfl (by decide) rfl (fun ls hl => ?_)
              refine lv_goto (tgt := 46) hx hb dX10_safeCurrent_77 (by decide) ?_
              exact ih_46 _ _ _ _ (ty_dec hc_32 (by decide) (by decide)) ⟨ws_38, (y_31 + Int32.ofInt (-100)), rfl, hT, hP, hD, hS, (lv_sub hl [1, 2, 3, 4, 5, 0] rfl)⟩
            · refine lv_iload hx hb dX10_safeCurrent_71 (lv_at hl 5 rfl) ?_
              refine vx_ret ?_
              exact W.iret (v := y_31) hx hb hr (fun t ht hW => ⟨⟨y_31, ws_38, rfl, hT, by rw [ht]; exact hP, by rw [hAe]; exact hD⟩, hS.F ht⟩) hS.2.2 dX10_safeCurrent_73
        · refine lv_iconst (v := (-1)) hx hb dX10_safeCurrent_39 (by decide) ?_
          refine vx_ret ?_
          exact W.iret (v := (-1)) hx hb hr (fun t ht hW => ⟨⟨(-1), ws_29, rfl, hT, by rw [ht]; exact hP, by rw [hAe]; exact hD⟩, hS.F ht⟩) hS.2.2 dX10_safeCurrent_40
theorem dX1_passTick_0 : decode cX1_passTick 0 = .ok (.aload_n 0, 1) := by decide +kernel
theorem dX1_passTick_1 : decode cX1_passTick 1 = .ok (.getfield 18, 3) := by decide +kernel
theorem dX1_passTick_4 : decode cX1_passTick 4 = .ok (.getfield 76, 3) := by decide +kernel
theorem dX1_passTick_7 : decode cX1_passTick 7 = .ok (.istore_n 2, 1) := by decide +kernel
theorem dX1_passTick_8 : decode cX1_passTick 8 = .ok (.aload_n 0, 1) := by decide +kernel
theorem dX1_passTick_9 : decode cX1_passTick 9 = .ok (.getfield 18, 3) := by decide +kernel
theorem dX1_passTick_12 : decode cX1_passTick 12 = .ok (.getfield 79, 3) := by decide +kernel
theorem dX1_passTick_15 : decode cX1_passTick 15 = .ok (.istore_n 3, 1) := by decide +kernel
theorem dX1_passTick_16 : decode cX1_passTick 16 = .ok (.aload_n 0, 1) := by decide +kernel
theorem dX1_passTick_17 : decode cX1_passTick 17 = .ok (.getfield 18, 3) := by decide +kernel
theorem dX1_passTick_20 : decode cX1_passTick 20 = .ok (.aload_n 0, 1) := by decide +kernel
theorem dX1_passTick_21 : decode cX1_passTick 21 = .ok (.getfield 18, 3) := by decide +kernel
theorem dX1_passTick_24 : decode cX1_passTick 24 = .ok (.aload_n 0, 1) := by decide +kernel
theorem dX1_passTick_25 : decode cX1_passTick 25 = .ok (.aload_n 1, 1) := by decide +kernel
theorem dX1_passTick_26 : decode cX1_passTick 26 = .ok (.invokevirtual 136, 3) := by decide +kernel
theorem dX1_passTick_29 : decode cX1_passTick 29 = .ok (.aload_n 1, 1) := by decide +kernel
theorem dX1_passTick_30 : decode cX1_passTick 30 = .ok (.getfield 140, 3) := by decide +kernel
theorem dX1_passTick_33 : decode cX1_passTick 33 = .ok (.invokevirtual 144, 3) := by decide +kernel
theorem dX1_passTick_36 : decode cX1_passTick 36 = .ok (.aload_n 1, 1) := by decide +kernel
theorem dX1_passTick_37 : decode cX1_passTick 37 = .ok (.getfield 140, 3) := by decide +kernel
theorem dX1_passTick_40 : decode cX1_passTick 40 = .ok (.invokevirtual 148, 3) := by decide +kernel
theorem dX1_passTick_43 : decode cX1_passTick 43 = .ok (.aload_n 0, 1) := by decide +kernel
theorem dX1_passTick_44 : decode cX1_passTick 44 = .ok (.getfield 25, 3) := by decide +kernel
theorem dX1_passTick_47 : decode cX1_passTick 47 = .ok (.aload_n 0, 1) := by decide +kernel
theorem dX1_passTick_48 : decode cX1_passTick 48 = .ok (.getfield 18, 3) := by decide +kernel
theorem dX1_passTick_51 : decode cX1_passTick 51 = .ok (.invokevirtual 152, 3) := by decide +kernel
theorem dX1_passTick_54 : decode cX1_passTick 54 = .ok (.invokevirtual 156, 3) := by decide +kernel
theorem dX1_passTick_57 : decode cX1_passTick 57 = .ok (.aload_n 0, 1) := by decide +kernel
theorem dX1_passTick_58 : decode cX1_passTick 58 = .ok (.getfield 43, 3) := by decide +kernel
theorem dX1_passTick_61 : decode cX1_passTick 61 = .ok (.iconst 1, 1) := by decide +kernel
theorem dX1_passTick_62 : decode cX1_passTick 62 = .ok (.if_icmp .eq 13, 3) := by decide +kernel
theorem dX1_passTick_65 : decode cX1_passTick 65 = .ok (.aload_n 0, 1) := by decide +kernel
theorem dX1_passTick_66 : decode cX1_passTick 66 = .ok (.getfield 25, 3) := by decide +kernel
theorem dX1_passTick_69 : decode cX1_passTick 69 = .ok (.iconst 0, 1) := by decide +kernel
theorem dX1_passTick_70 : decode cX1_passTick 70 = .ok (.putfield 159, 3) := by decide +kernel
theorem dX1_passTick_73 : decode cX1_passTick 73 = .ok (.iconst 0, 1) := by decide +kernel
theorem dX1_passTick_74 : decode cX1_passTick 74 = .ok (.ireturn, 1) := by decide +kernel
theorem dX1_passTick_75 : decode cX1_passTick 75 = .ok (.aload_n 0, 1) := by decide +kernel
theorem dX1_passTick_76 : decode cX1_passTick 76 = .ok (.getfield 52, 3) := by decide +kernel
theorem dX1_passTick_79 : decode cX1_passTick 79 = .ok (.ifCond .ne 49, 3) := by decide +kernel
theorem dX1_passTick_82 : decode cX1_passTick 82 = .ok (.aload_n 0, 1) := by decide +kernel
theorem dX1_passTick_83 : decode cX1_passTick 83 = .ok (.getfield 18, 3) := by decide +kernel
theorem dX1_passTick_86 : decode cX1_passTick 86 = .ok (.getfield 76, 3) := by decide +kernel
theorem dX1_passTick_89 : decode cX1_passTick 89 = .ok (.iload_n 2, 1) := by decide +kernel
theorem dX1_passTick_90 : decode cX1_passTick 90 = .ok (.if_icmp .eq 38, 3) := by decide +kernel
theorem dX1_passTick_93 : decode cX1_passTick 93 = .ok (.aload_n 0, 1) := by decide +kernel
theorem dX1_passTick_94 : decode cX1_passTick 94 = .ok (.getfield 25, 3) := by decide +kernel
theorem dX1_passTick_97 : decode cX1_passTick 97 = .ok (.ldc2_w 162, 3) := by decide +kernel
theorem dX1_passTick_100 : decode cX1_passTick 100 = .ok (.aload_n 0, 1) := by decide +kernel
theorem dX1_passTick_101 : decode cX1_passTick 101 = .ok (.getfield 18, 3) := by decide +kernel
theorem dX1_passTick_104 : decode cX1_passTick 104 = .ok (.getfield 79, 3) := by decide +kernel
theorem dX1_passTick_107 : decode cX1_passTick 107 = .ok (.iload_n 3, 1) := by decide +kernel
theorem dX1_passTick_108 : decode cX1_passTick 108 = .ok (.isub, 1) := by decide +kernel
theorem dX1_passTick_109 : decode cX1_passTick 109 = .ok (.i2l, 1) := by decide +kernel
theorem dX1_passTick_110 : decode cX1_passTick 110 = .ok (.lmul, 1) := by decide +kernel
theorem dX1_passTick_111 : decode cX1_passTick 111 = .ok (.aload_n 0, 1) := by decide +kernel
theorem dX1_passTick_112 : decode cX1_passTick 112 = .ok (.getfield 18, 3) := by decide +kernel
theorem dX1_passTick_115 : decode cX1_passTick 115 = .ok (.getfield 76, 3) := by decide +kernel
theorem dX1_passTick_118 : decode cX1_passTick 118 = .ok (.iload_n 2, 1) := by decide +kernel
theorem dX1_passTick_119 : decode cX1_passTick 119 = .ok (.isub, 1) := by decide +kernel
theorem dX1_passTick_120 : decode cX1_passTick 120 = .ok (.i2l, 1) := by decide +kernel
theorem dX1_passTick_121 : decode cX1_passTick 121 = .ok (.invokestatic 164, 3) := by decide +kernel
theorem dX1_passTick_124 : decode cX1_passTick 124 = .ok (.l2i, 1) := by decide +kernel
theorem dX1_passTick_125 : decode cX1_passTick 125 = .ok (.putfield 168, 3) := by decide +kernel
theorem dX1_passTick_128 : decode cX1_passTick 128 = .ok (.aload_n 0, 1) := by decide +kernel
theorem dX1_passTick_129 : decode cX1_passTick 129 = .ok (.dup, 1) := by decide +kernel
theorem dX1_passTick_130 : decode cX1_passTick 130 = .ok (.getfield 52, 3) := by decide +kernel
theorem dX1_passTick_133 : decode cX1_passTick 133 = .ok (.iconst 1, 1) := by decide +kernel
theorem dX1_passTick_134 : decode cX1_passTick 134 = .ok (.iadd, 1) := by decide +kernel
theorem dX1_passTick_135 : decode cX1_passTick 135 = .ok (.putfield 52, 3) := by decide +kernel
theorem dX1_passTick_138 : decode cX1_passTick 138 = .ok (.aload_n 0, 1) := by decide +kernel
theorem dX1_passTick_139 : decode cX1_passTick 139 = .ok (.aload_n 1, 1) := by decide +kernel
theorem dX1_passTick_140 : decode cX1_passTick 140 = .ok (.invokevirtual 171, 3) := by decide +kernel
theorem dX1_passTick_143 : decode cX1_passTick 143 = .ok (.aload_n 0, 1) := by decide +kernel
theorem dX1_passTick_144 : decode cX1_passTick 144 = .ok (.aload_n 1, 1) := by decide +kernel
theorem dX1_passTick_145 : decode cX1_passTick 145 = .ok (.getfield 175, 3) := by decide +kernel
theorem dX1_passTick_148 : decode cX1_passTick 148 = .ok (.invokevirtual 179, 3) := by decide +kernel
theorem dX1_passTick_151 : decode cX1_passTick 151 = .ok (.istore 4, 2) := by decide +kernel
theorem dX1_passTick_153 : decode cX1_passTick 153 = .ok (.aload_n 0, 1) := by decide +kernel
theorem dX1_passTick_154 : decode cX1_passTick 154 = .ok (.aload_n 1, 1) := by decide +kernel
theorem dX1_passTick_155 : decode cX1_passTick 155 = .ok (.getfield 140, 3) := by decide +kernel
theorem dX1_passTick_158 : decode cX1_passTick 158 = .ok (.iload 4, 2) := by decide +kernel
theorem dX1_passTick_160 : decode cX1_passTick 160 = .ok (.invokevirtual 183, 3) := by decide +kernel
theorem dX1_passTick_163 : decode cX1_passTick 163 = .ok (.istore 5, 2) := by decide +kernel
theorem dX1_passTick_165 : decode cX1_passTick 165 = .ok (.iload 5, 2) := by decide +kernel
theorem dX1_passTick_167 : decode cX1_passTick 167 = .ok (.ifCond .eq 12, 3) := by decide +kernel
theorem dX1_passTick_170 : decode cX1_passTick 170 = .ok (.aload_n 0, 1) := by decide +kernel
theorem dX1_passTick_171 : decode cX1_passTick 171 = .ok (.iload 5, 2) := by decide +kernel
theorem dX1_passTick_173 : decode cX1_passTick 173 = .ok (.aload_n 1, 1) := by decide +kernel
theorem dX1_passTick_174 : decode cX1_passTick 174 = .ok (.invokevirtual 186, 3) := by decide +kernel
theorem dX1_passTick_177 : decode cX1_passTick 177 = .ok (.iconst 0, 1) := by decide +kernel
theorem dX1_passTick_178 : decode cX1_passTick 178 = .ok (.ireturn, 1) := by decide +kernel
theorem dX1_passTick_179 : decode cX1_passTick 179 = .ok (.iload 4, 2) := by decide +kernel
theorem dX1_passTick_181 : decode cX1_passTick 181 = .ok (.ifCond .eq 13, 3) := by decide +kernel
theorem dX1_passTick_184 : decode cX1_passTick 184 = .ok (.aload_n 0, 1) := by decide +kernel
theorem dX1_passTick_185 : decode cX1_passTick 185 = .ok (.aload_n 1, 1) := by decide +kernel
theorem dX1_passTick_186 : decode cX1_passTick 186 = .ok (.invokevirtual 190, 3) := by decide +kernel
theorem dX1_passTick_189 : decode cX1_passTick 189 = .ok (.aload_n 0, 1) := by decide +kernel
theorem dX1_passTick_190 : decode cX1_passTick 190 = .ok (.aload_n 1, 1) := by decide +kernel
theorem dX1_passTick_191 : decode cX1_passTick 191 = .ok (.invokevirtual 193, 3) := by decide +kernel
theorem dX1_passTick_194 : decode cX1_passTick 194 = .ok (.iload 4, 2) := by decide +kernel
theorem dX1_passTick_196 : decode cX1_passTick 196 = .ok (.ireturn, 1) := by decide +kernel
set_option maxRecDepth 100000 in
set_option maxHeartbeats 4000000 in
theorem t_X1_passTick (l : Launch) (D : va_G) (ct : Nat → ClassId) (S : ty_S) (ws : va_W) (ph : va_W → Prop) (xx : Nat → Nat → Nat → Prop) (h0 : Nat) (p1 : Nat) (sz : Nat) (hT : ty_V ct S ph ws) (h_h0 : S h0 = some (.inl 1)) (h_p1 : S p1 = some (.inl 9)) (hph : ty_C ph xx) (hy1 : ty_y1 xx) : Met l yX1_passTick (ws_ yX1_passTick cX1_passTick 6 (some .boolean)) ({ frames := 4, cells := 0, slots := 0, locals := 96 } : Room) (va_Pc [.ref h0, .ref p1] (cmP D ct sz ([] ++ ws))) (va_Qi (fun (r : Int32) (u9 : va_W) => ty_V ct S ph u9) (cmB D ([] ++ ws) sz (fun (u9 : va_W) => ([] ++ u9))) (va_A ([] ++ ws) sz)) 0 0 (va_A ([] ++ ws) sz) := by
  refine Met.ofW (cc := cX1_passTick) (maxL := 6) (ret := (some .boolean)) (by decide) rfl ?_
  intro p e s m args below meth c s₁ B hml hv
  obtain ⟨rfl, hsz, hP, hK, hD0, hX⟩ := hv
  have hx := B.exec
  have hb := B.bytes
  have hr := B.returns
  have hts := ws_all (atoms_spec (ws := ws_ yX1_passTick cX1_passTick 6 (some .boolean)) B.pre)
  have hown : s.vm.findClass RX1 = some m.cls := findClass_of_methodNamed B.named
  have hlocks := B.notSynchronized
  subst hsz
  have hD := hD0.self (sz := s.heap.size)
  generalize hAe : va_A ([] ++ ws) s.heap.size = A at hD hX ⊢
  have hA : ∀ q : Nat, s.heap.size ≤ q → A q := fun q h => by rw [← hAe]; exact Or.inr h
  have hS : va_S A s.heap s.heap [] := va_S.rf
  have hl := lv_entry ([.ref h0, .ref p1]) (n := 6) (Nat.le_of_ble_eq_true rfl)
  rw [lg_entry_eq]
  generalize (lg_sl ([.ref h0, .ref p1]) ++ List.replicate (6 - (lg_sl ([.ref h0, .ref p1])).length) Slot.unset).toArray = ls at hl ⊢
  have hl : lv_has ls 6 [(0, .ref h0), (1, .ref p1)] := hl
  refine lv_aload_n hx hb dX1_passTick_0 rfl (lv_at hl 0 rfl) ?_
  refine ty_get (E := []) (ws := ws) (D := D) (ci := 1) (C := RX1) (T := TX1) (N := 14) hx hb hts in_X1 hown hK hP hT h_h0 rfl 1 (by decide) (hts _ kl_RX1_18) (fun _ h9 => h9) rfl dX1_passTick_1 (fun _ hv_1 hf_2 => ?_)
  obtain ⟨a_3, rfl, ha_4⟩ := hv_1
  refine ty_getN (E := []) (ws := ws) (D := D) (ci := 0) (C := RX0) (T := TX0) (N := 16) hx hb hts in_X0 hown hK hP hT ha_4 rfl 13 (by decide) (hts _ kl_RX1_76) (fun _ h9 => h9) rfl dX1_passTick_4 (fun _ hv_5 hf_6 => ?_)
  obtain ⟨x_7, rfl⟩ := hv_5
  refine lv_istore_n (lv' := [(2, .int x_7), (0, .ref h0), (1, .ref p1)]) hx hb dX1_passTick_7 rfl hl (by decide) rfl (fun ls hl => ?_)
  refine lv_aload_n hx hb dX1_passTick_8 rfl (lv_at hl 1 rfl) ?_
  refine ty_get (E := []) (ws := ws) (D := D) (ci := 1) (C := RX1) (T := TX1) (N := 14) hx hb hts in_X1 hown hK hP hT h_h0 rfl 1 (by decide) (hts _ kl_RX1_18) (fun _ h9 => h9) rfl dX1_passTick_9 (fun _ hv_8 hf_9 => ?_)
  obtain ⟨a_10, rfl, ha_11⟩ := hv_8
  refine ty_getN (E := []) (ws := ws) (D := D) (ci := 0) (C := RX0) (T := TX0) (N := 16) hx hb hts in_X0 hown hK hP hT ha_11 rfl 14 (by decide) (hts _ kl_RX1_79) (fun _ h9 => h9) rfl dX1_passTick_12 (fun _ hv_12 hf_13 => ?_)
  obtain ⟨x_14, rfl⟩ := hv_12
  refine lv_istore_n (lv' := [(3, .int x_14), (2, .int x_7), (0, .ref h0), (1, .ref p1)]) hx hb dX1_passTick_15 rfl hl (by decide) rfl (fun ls hl => ?_)
  refine lv_aload_n hx hb dX1_passTick_16 rfl (lv_at hl 2 rfl) ?_
  refine ty_get (E := []) (ws := ws) (D := D) (ci := 1) (C := RX1) (T := TX1) (N := 14) hx hb hts in_X1 hown hK hP hT h_h0 rfl 1 (by decide) (hts _ kl_RX1_18) (fun _ h9 => h9) rfl dX1_passTick_17 (fun _ hv_15 hf_16 => ?_)
  obtain ⟨a_17, rfl, ha_18⟩ := hv_15
  refine lv_aload_n hx hb dX1_passTick_20 rfl (lv_at hl 2 rfl) ?_
  refine ty_get (E := []) (ws := ws) (D := D) (ci := 1) (C := RX1) (T := TX1) (N := 14) hx hb hts in_X1 hown hK hP hT h_h0 rfl 1 (by decide) (hts _ kl_RX1_18) (fun _ h9 => h9) rfl dX1_passTick_21 (fun _ hv_19 hf_20 => ?_)
  obtain ⟨a_21, rfl, ha_22⟩ := hv_19
  refine lv_aload_n hx hb dX1_passTick_24 rfl (lv_at hl 2 rfl) ?_
  refine lv_aload_n hx hb dX1_passTick_25 rfl (lv_at hl 3 rfl) ?_
  refine ty_ki (wr := []) (wc := ([] ++ ws)) (va_runV (As := [.ref p1]) (rest := [.ref a_21, .ref a_17]) ⟨hx, hb, hml, hown, hts⟩ (t_X1_wantedCurrent l D ct S ws ph xx h0 p1 _ hT h_h0 h_p1 hph hy1) (cm_V 1 hts kc_X1_wantedCurrent ki_RX1 kl_RX1_136 kv_X1_wantedCurrent kx_X1_wantedCurrent kd_X1_wantedCurrent ⟨Nat.le_of_ble_eq_true rfl, Nat.le_of_ble_eq_true rfl⟩) (ty_preV (wr := []) (E := []) (ws := ws) (ci := 1) hP hK hD hS hA hX hT rfl h_h0) rfl rfl hl.1 rfl (lv_room (Nat.le_of_ble_eq_true rfl)) dX1_passTick_26 ⟨Nat.le_of_ble_eq_true rfl, Nat.le_of_ble_eq_true rfl⟩) hP hD hS hA (fun r_23 u H locs hw_24 hP hD hS => ?_)
  obtain ⟨ws_25, rfl⟩ : ∃ z, z = u := ⟨_, rfl⟩
  have hT := hw_24
  have hP : va_P D vwCl ([] ++ ws_25) H := hP
  have hD : va_D A ([] ++ ws_25) := hD
  refine lv_aload_n hx hb dX1_passTick_29 rfl (lv_at hl 3 rfl) ?_
  refine ty_getN (E := []) (ws := ws_25) (D := D) (ci := 9) (C := RX9) (T := TX9) (N := 8) hx hb hts in_X9 hown hK hP hT h_p1 rfl 1 (by decide) (hts _ kl_RX1_140) (fun _ h9 => h9) rfl dX1_passTick_30 (fun _ hv_26 hf_27 => ?_)
  obtain ⟨a_28, rfl, ha_29⟩ := hv_26
  refine ty_ki (wr := []) (wc := ([] ++ ws_25)) (va_runVN (As := [.int r_23, .ref a_28]) (rest := [.ref a_17]) ⟨hx, hb, hml, hown, hts⟩ (t_X0_allowed l D ct S ws_25 ph xx a_21 r_23 a_28 _ hT ha_22 ha_29 hph hy1) (cm_VN 2 hts kc_X0_allowed ki_RX0 kl_RX1_144 kv_X0_allowed kx_X0_allowed kd_X0_allowed ⟨Nat.le_of_ble_eq_true rfl, Nat.le_of_ble_eq_true rfl⟩) (ty_preV (wr := []) (E := []) (ws := ws_25) (ci := 0) hP hK hD hS hA hX hT rfl ha_22) rfl rfl hl.1 rfl (lv_room (Nat.le_of_ble_eq_true rfl)) dX1_passTick_33 ⟨Nat.le_of_ble_eq_true rfl, Nat.le_of_ble_eq_true rfl⟩) hP hD hS hA (fun r_30 u H locs hw_31 hP hD hS => ?_)
  obtain ⟨ws_32, rfl⟩ : ∃ z, z = u := ⟨_, rfl⟩
  have hT := hw_31
  have hP : va_P D vwCl ([] ++ ws_32) H := hP
  have hD : va_D A ([] ++ ws_32) := hD
  refine lv_aload_n hx hb dX1_passTick_36 rfl (lv_at hl 3 rfl) ?_
  refine ty_getN (E := []) (ws := ws_32) (D := D) (ci := 9) (C := RX9) (T := TX9) (N := 8) hx hb hts in_X9 hown hK hP hT h_p1 rfl 1 (by decide) (hts _ kl_RX1_140) (fun _ h9 => h9) rfl dX1_passTick_37 (fun _ hv_33 hf_34 => ?_)
  obtain ⟨a_35, rfl, ha_36⟩ := hv_33
  refine ty_kv (wr := []) (wc := ([] ++ ws_32)) (va_runVN (As := [.int r_30, .ref a_35]) (rest := []) ⟨hx, hb, hml, hown, hts⟩ (t_X0_passCurrent l D ct S ws_32 ph xx a_17 r_30 a_35 _ hT ha_18 ha_36 hph hy1) (cm_VN 2 hts kc_X0_passCurrent ki_RX0 kl_RX1_148 kv_X0_passCurrent kx_X0_passCurrent kd_X0_passCurrent ⟨Nat.le_of_ble_eq_true rfl, Nat.le_of_ble_eq_true rfl⟩) (ty_preV (wr := []) (E := []) (ws := ws_32) (ci := 0) hP hK hD hS hA hX hT rfl ha_18) rfl rfl hl.1 rfl (lv_room (Nat.le_of_ble_eq_true rfl)) dX1_passTick_40 ⟨Nat.le_of_ble_eq_true rfl, Nat.le_of_ble_eq_true rfl⟩) hP hD hS hA (fun u H locs hw_38 hP hD hS => ?_)
  obtain ⟨ws_39, rfl⟩ : ∃ z, z = u := ⟨_, rfl⟩
  have hT := hw_38
  have hP : va_P D vwCl ([] ++ ws_39) H := hP
  have hD : va_D A ([] ++ ws_39) := hD
  refine lv_aload_n hx hb dX1_passTick_43 rfl (lv_at hl 2 rfl) ?_
  refine ty_get (E := []) (ws := ws_39) (D := D) (ci := 1) (C := RX1) (T := TX1) (N := 14) hx hb hts in_X1 hown hK hP hT h_h0 rfl 2 (by decide) (hts _ kl_RX1_25) (fun _ h9 => h9) rfl dX1_passTick_44 (fun _ hv_40 hf_41 => ?_)
  obtain ⟨a_42, rfl, ha_43⟩ := hv_40
  refine lv_aload_n hx hb dX1_passTick_47 rfl (lv_at hl 2 rfl) ?_
  refine ty_get (E := []) (ws := ws_39) (D := D) (ci := 1) (C := RX1) (T := TX1) (N := 14) hx hb hts in_X1 hown hK hP hT h_h0 rfl 1 (by decide) (hts _ kl_RX1_18) (fun _ h9 => h9) rfl dX1_passTick_48 (fun _ hv_44 hf_45 => ?_)
  obtain ⟨a_46, rfl, ha_47⟩ := hv_44
  refine ty_ki (wr := []) (wc := ([] ++ ws_39)) (va_runVN (As := []) (rest := [.ref a_42]) ⟨hx, hb, hml, hown, hts⟩ (t_X0_thousandths l D ct S ws_39 ph xx a_46 _ hT ha_47 hph hy1) (cm_VN 0 hts kc_X0_thousandths ki_RX0 kl_RX1_152 kv_X0_thousandths kx_X0_thousandths kd_X0_thousandths ⟨Nat.le_of_ble_eq_true rfl, Nat.le_of_ble_eq_true rfl⟩) (ty_preV (wr := []) (E := []) (ws := ws_39) (ci := 0) hP hK hD hS hA hX hT rfl ha_47) rfl rfl hl.1 rfl (lv_room (Nat.le_of_ble_eq_true rfl)) dX1_passTick_51 ⟨Nat.le_of_ble_eq_true rfl, Nat.le_of_ble_eq_true rfl⟩) hP hD hS hA (fun r_48 u H locs hw_49 hP hD hS => ?_)
  obtain ⟨ws_50, rfl⟩ : ∃ z, z = u := ⟨_, rfl⟩
  have hT := hw_49
  have hP : va_P D vwCl ([] ++ ws_50) H := hP
  have hD : va_D A ([] ++ ws_50) := hD
  refine ty_kv (wr := []) (wc := ([] ++ ws_50)) (va_runVN (As := [.int r_48]) (rest := []) ⟨hx, hb, hml, hown, hts⟩ (t_X4_countFilling l D ct S ws_50 ph xx a_42 r_48 _ hT ha_43 hph hy1) (cm_VN 1 hts kc_X4_countFilling ki_RX4 kl_RX1_156 kv_X4_countFilling kx_X4_countFilling kd_X4_countFilling ⟨Nat.le_of_ble_eq_true rfl, Nat.le_of_ble_eq_true rfl⟩) (ty_preV (wr := []) (E := []) (ws := ws_50) (ci := 4) hP hK hD hS hA hX hT rfl ha_43) rfl rfl hl.1 rfl (lv_room (Nat.le_of_ble_eq_true rfl)) dX1_passTick_54 ⟨Nat.le_of_ble_eq_true rfl, Nat.le_of_ble_eq_true rfl⟩) hP hD hS hA (fun u H locs hw_52 hP hD hS => ?_)
  obtain ⟨ws_53, rfl⟩ : ∃ z, z = u := ⟨_, rfl⟩
  have hT := hw_52
  have hP : va_P D vwCl ([] ++ ws_53) H := hP
  have hD : va_D A ([] ++ ws_53) := hD
  refine lv_aload_n hx hb dX1_passTick_57 rfl (lv_at hl 2 rfl) ?_
  refine ty_get (E := []) (ws := ws_53) (D := D) (ci := 1) (C := RX1) (T := TX1) (N := 14) hx hb hts in_X1 hown hK hP hT h_h0 rfl 3 (by decide) (hts _ kl_RX1_43) (fun _ h9 => h9) rfl dX1_passTick_58 (fun _ hv_54 hf_55 => ?_)
  obtain ⟨x_56, rfl⟩ := hv_54
  refine lv_iconst (v := 1) hx hb dX1_passTick_61 (by decide) ?_
  refine lv_icmp_eq (tgt := 75) hx hb dX1_passTick_62 (by decide) (fun hc_57 => ?_) (fun hc_57 => ?_)
  · refine lv_aload_n hx hb dX1_passTick_75 rfl (lv_at hl 2 rfl) ?_
    refine ty_get (E := []) (ws := ws_53) (D := D) (ci := 1) (C := RX1) (T := TX1) (N := 14) hx hb hts in_X1 hown hK hP hT h_h0 rfl 6 (by decide) (hts _ kl_RX1_52) (fun _ h9 => h9) rfl dX1_passTick_76 (fun _ hv_58 hf_59 => ?_)
    obtain ⟨x_60, rfl⟩ := hv_58
    refine lv_if_ne (tgt := 128) hx hb dX1_passTick_79 (by decide) (fun hc_61 => ?_) (fun hc_61 => ?_)
    · refine lv_aload_n hx hb dX1_passTick_128 rfl (lv_at hl 2 rfl) ?_
      refine lv_dup hx hb dX1_passTick_129 rfl ?_
      refine ty_get (E := []) (ws := ws_53) (D := D) (ci := 1) (C := RX1) (T := TX1) (N := 14) hx hb hts in_X1 hown hK hP hT h_h0 rfl 6 (by decide) (hts _ kl_RX1_52) (fun _ h9 => h9) rfl dX1_passTick_130 (fun _ hv_62 hf_63 => ?_)
      obtain ⟨x_64, rfl⟩ := hv_62
      refine lv_iconst (v := 1) hx hb dX1_passTick_133 (by decide) ?_
      refine lv_iadd hx hb dX1_passTick_134 ?_
      refine lv_topi (fun x_65 _ => ?_)
      refine ty_put (v := .int x_65) (ty := .int) (E := []) (ws := ws_53) (D := D) (ci := 1) (C := RX1) (T := TX1) (N := 14) hx hb hts in_X1 tyX1 tyX1_ok nmX1 hown hK hP hD hS hT h_h0 rfl 6 (by decide) (hts _ kl_RX1_52) (fun _ h9 => h9) rfl (by decide +kernel) rfl rfl rfl ⟨_, rfl⟩ dX1_passTick_135 hph (hy1 1 6 h0 rfl) (fun ws_66 H locs hT hP hD hS => ?_)
      refine lv_aload_n hx hb dX1_passTick_138 rfl (lv_at hl 2 rfl) ?_
      refine lv_aload_n hx hb dX1_passTick_139 rfl (lv_at hl 3 rfl) ?_
      refine ty_kv (wr := []) (wc := ([] ++ ws_66)) (va_runV (As := [.ref p1]) (rest := []) ⟨hx, hb, hml, hown, hts⟩ (t_X1_warn l D ct S ws_66 ph xx h0 p1 _ hT h_h0 h_p1 hph hy1) (cm_V 1 hts kc_X1_warn ki_RX1 kl_RX1_171 kv_X1_warn kx_X1_warn kd_X1_warn ⟨Nat.le_of_ble_eq_true rfl, Nat.le_of_ble_eq_true rfl⟩) (ty_preV (wr := []) (E := []) (ws := ws_66) (ci := 1) hP hK hD hS hA hX hT rfl h_h0) rfl rfl hl.1 rfl (lv_room (Nat.le_of_ble_eq_true rfl)) dX1_passTick_140 ⟨Nat.le_of_ble_eq_true rfl, Nat.le_of_ble_eq_true rfl⟩) hP hD hS hA (fun u H locs hw_68 hP hD hS => ?_)
      obtain ⟨ws_69, rfl⟩ : ∃ z, z = u := ⟨_, rfl⟩
      have hT := hw_68
      have hP : va_P D vwCl ([] ++ ws_69) H := hP
      have hD : va_D A ([] ++ ws_69) := hD
      refine lv_aload_n hx hb dX1_passTick_143 rfl (lv_at hl 2 rfl) ?_
      refine lv_aload_n hx hb dX1_passTick_144 rfl (lv_at hl 3 rfl) ?_
      refine ty_getN (E := []) (ws := ws_69) (D := D) (ci := 9) (C := RX9) (T := TX9) (N := 8) hx hb hts in_X9 hown hK hP hT h_p1 rfl 3 (by decide) (hts _ kl_RX1_175) (fun _ h9 => h9) rfl dX1_passTick_145 (fun _ hv_70 hf_71 => ?_)
      obtain ⟨a_72, rfl, ha_73⟩ := hv_70
      refine ty_ki (wr := []) (wc := ([] ++ ws_69)) (va_runV (As := [.ref a_72]) (rest := []) ⟨hx, hb, hml, hown, hts⟩ (t_X1_stepEnds l D ct S ws_69 ph xx h0 a_72 _ hT h_h0 ha_73 hph hy1) (cm_V 1 hts kc_X1_stepEnds ki_RX1 kl_RX1_179 kv_X1_stepEnds kx_X1_stepEnds kd_X1_stepEnds ⟨Nat.le_of_ble_eq_true rfl, Nat.le_of_ble_eq_true rfl⟩) (ty_preV (wr := []) (E := []) (ws := ws_69) (ci := 1) hP hK hD hS hA hX hT rfl h_h0) rfl rfl hl.1 rfl (lv_room (Nat.le_of_ble_eq_true rfl)) dX1_passTick_148 ⟨Nat.le_of_ble_eq_true rfl, Nat.le_of_ble_eq_true rfl⟩) hP hD hS hA (fun r_74 u H locs hw_75 hP hD hS => ?_)
      obtain ⟨ws_76, rfl⟩ : ∃ z, z = u := ⟨_, rfl⟩
      obtain ⟨hT, hp_77⟩ := hw_75
      have hp_77 : vp_nar .boolean r_74 = r_74 := hp_77
      have hP : va_P D vwCl ([] ++ ws_76) H := hP
      have hD : va_D A ([] ++ ws_76) := hD
      refine lv_istore (lv' := [(4, .int r_74), (3, .int x_14), (2, .int x_7), (0, .ref h0), (1, .ref p1)]) hx hb dX1_passTick_151 hl (by decide) rfl (fun ls hl => ?_)
      refine lv_aload_n hx hb dX1_passTick_153 rfl (lv_at hl 3 rfl) ?_
      refine lv_aload_n hx hb dX1_passTick_154 rfl (lv_at hl 4 rfl) ?_
      refine ty_getN (E := []) (ws := ws_76) (D := D) (ci := 9) (C := RX9) (T := TX9) (N := 8) hx hb hts in_X9 hown hK hP hT h_p1 rfl 1 (by decide) (hts _ kl_RX1_140) (fun _ h9 => h9) rfl dX1_passTick_155 (fun _ hv_78 hf_79 => ?_)
      obtain ⟨a_80, rfl, ha_81⟩ := hv_78
      refine lv_iload hx hb dX1_passTick_158 (lv_at hl 0 rfl) ?_
      refine ty_ki (wr := []) (wc := ([] ++ ws_76)) (va_runV (As := [.ref a_80, .int r_74]) (rest := []) ⟨hx, hb, hml, hown, hts⟩ (t_X1_tripReason l D ct S ws_76 ph xx h0 a_80 r_74 _ hT h_h0 ha_81 hph hy1) (cm_V 2 hts kc_X1_tripReason ki_RX1 kl_RX1_183 kv_X1_tripReason kx_X1_tripReason kd_X1_tripReason ⟨Nat.le_of_ble_eq_true rfl, Nat.le_of_ble_eq_true rfl⟩) (ty_preV (wr := []) (E := []) (ws := ws_76) (ci := 1) hP hK hD hS hA hX hT rfl h_h0) rfl rfl hl.1 rfl (lv_room (Nat.le_of_ble_eq_true rfl)) dX1_passTick_160 ⟨Nat.le_of_ble_eq_true rfl, Nat.le_of_ble_eq_true rfl⟩) hP hD hS hA (fun r_82 u H locs hw_83 hP hD hS => ?_)
      obtain ⟨ws_84, rfl⟩ : ∃ z, z = u := ⟨_, rfl⟩
      have hT := hw_83
      have hP : va_P D vwCl ([] ++ ws_84) H := hP
      have hD : va_D A ([] ++ ws_84) := hD
      refine lv_istore (lv' := [(5, .int r_82), (4, .int r_74), (3, .int x_14), (2, .int x_7), (0, .ref h0), (1, .ref p1)]) hx hb dX1_passTick_163 hl (by decide) rfl (fun ls hl => ?_)
      refine lv_iload hx hb dX1_passTick_165 (lv_at hl 0 rfl) ?_
      refine lv_if_eq (tgt := 179) hx hb dX1_passTick_167 (by decide) (fun hc_85 => ?_) (fun hc_85 => ?_)
      · refine lv_iload hx hb dX1_passTick_179 (lv_at hl 1 rfl) ?_
        refine lv_if_eq (tgt := 194) hx hb dX1_passTick_181 (by decide) (fun hc_86 => ?_) (fun hc_86 => ?_)
        · refine lv_iload hx hb dX1_passTick_194 (lv_at hl 1 rfl) ?_
          exact W.zret (v := r_74) hx hb hr (ty_zn hp_77) (fun t ht hW => ⟨⟨r_74, ws_84, rfl, hT, by rw [ht]; exact hP, by rw [hAe]; exact hD⟩, hS.F ht⟩) hS.2.2 dX1_passTick_196
        · refine lv_aload_n hx hb dX1_passTick_184 rfl (lv_at hl 4 rfl) ?_
          refine lv_aload_n hx hb dX1_passTick_185 rfl (lv_at hl 5 rfl) ?_
          refine ty_kv (wr := []) (wc := ([] ++ ws_84)) (va_runV (As := [.ref p1]) (rest := []) ⟨hx, hb, hml, hown, hts⟩ (t_X1_measureEnd l D ct S ws_84 ph xx h0 p1 _ hT h_h0 h_p1 hph hy1) (cm_V 1 hts kc_X1_measureEnd ki_RX1 kl_RX1_190 kv_X1_measureEnd kx_X1_measureEnd kd_X1_measureEnd ⟨Nat.le_of_ble_eq_true rfl, Nat.le_of_ble_eq_true rfl⟩) (ty_preV (wr := []) (E := []) (ws := ws_84) (ci := 1) hP hK hD hS hA hX hT rfl h_h0) rfl rfl hl.1 rfl (lv_room (Nat.le_of_ble_eq_true rfl)) dX1_passTick_186 ⟨Nat.le_of_ble_eq_true rfl, Nat.le_of_ble_eq_true rfl⟩) hP hD hS hA (fun u H locs hw_88 hP hD hS => ?_)
          obtain ⟨ws_89, rfl⟩ : ∃ z, z = u := ⟨_, rfl⟩
          have hT := hw_88
          have hP : va_P D vwCl ([] ++ ws_89) H := hP
          have hD : va_D A ([] ++ ws_89) := hD
          refine lv_aload_n hx hb dX1_passTick_189 rfl (lv_at hl 4 rfl) ?_
          refine lv_aload_n hx hb dX1_passTick_190 rfl (lv_at hl 5 rfl) ?_
          refine ty_kv (wr := []) (wc := ([] ++ ws_89)) (va_runV (As := [.ref p1]) (rest := []) ⟨hx, hb, hml, hown, hts⟩ (t_X1_leaveStep l D ct S ws_89 ph xx h0 p1 _ hT h_h0 h_p1 hph hy1) (cm_V 1 hts kc_X1_leaveStep ki_RX1 kl_RX1_193 kv_X1_leaveStep kx_X1_leaveStep kd_X1_leaveStep ⟨Nat.le_of_ble_eq_true rfl, Nat.le_of_ble_eq_true rfl⟩) (ty_preV (wr := []) (E := []) (ws := ws_89) (ci := 1) hP hK hD hS hA hX hT rfl h_h0) rfl rfl hl.1 rfl (lv_room (Nat.le_of_ble_eq_true rfl)) dX1_passTick_191 ⟨Nat.le_of_ble_eq_true rfl, Nat.le_of_ble_eq_true rfl⟩) hP hD hS hA (fun u H locs hw_91 hP hD hS => ?_)
          obtain ⟨ws_92, rfl⟩ : ∃ z, z = u := ⟨_, rfl⟩
          have hT := hw_91
          have hP : va_P D vwCl ([] ++ ws_92) H := hP
          have hD : va_D A ([] ++ ws_92) := hD
          refine lv_iload hx hb dX1_passTick_194 (lv_at hl 1 rfl) ?_
          exact W.zret (v := r_74) hx hb hr (ty_zn hp_77) (fun t ht hW => ⟨⟨r_74, ws_92, rfl, hT, by rw [ht]; exact hP, by rw [hAe]; exact hD⟩, hS.F ht⟩) hS.2.2 dX1_passTick_196
      · refine lv_aload_n hx hb dX1_passTick_170 rfl (lv_at hl 4 rfl) ?_
        refine lv_iload hx hb dX1_passTick_171 (lv_at hl 0 rfl) ?_
        refine lv_aload_n hx hb dX1_passTick_173 rfl (lv_at hl 5 rfl) ?_
        refine ty_kv (wr := []) (wc := ([] ++ ws_84)) (va_runV (As := [.int r_82, .ref p1]) (rest := []) ⟨hx, hb, hml, hown, hts⟩ (t_X1_trip l D ct S ws_84 ph xx h0 r_82 p1 _ hT h_h0 h_p1 hph hy1) (cm_V 2 hts kc_X1_trip ki_RX1 kl_RX1_186 kv_X1_trip kx_X1_trip kd_X1_trip ⟨Nat.le_of_ble_eq_true rfl, Nat.le_of_ble_eq_true rfl⟩) (ty_preV (wr := []) (E := []) (ws := ws_84) (ci := 1) hP hK hD hS hA hX hT rfl h_h0) rfl rfl hl.1 rfl (lv_room (Nat.le_of_ble_eq_true rfl)) dX1_passTick_174 ⟨Nat.le_of_ble_eq_true rfl, Nat.le_of_ble_eq_true rfl⟩) hP hD hS hA (fun u H locs hw_94 hP hD hS => ?_)
        obtain ⟨ws_95, rfl⟩ : ∃ z, z = u := ⟨_, rfl⟩
        have hT := hw_94
        have hP : va_P D vwCl ([] ++ ws_95) H := hP
        have hD : va_D A ([] ++ ws_95) := hD
        refine lv_iconst (v := 0) hx hb dX1_passTick_177 (by decide) ?_
        exact W.zret (v := 0) hx hb hr (by decide) (fun t ht hW => ⟨⟨0, ws_95, rfl, hT, by rw [ht]; exact hP, by rw [hAe]; exact hD⟩, hS.F ht⟩) hS.2.2 dX1_passTick_178
    · refine lv_aload_n hx hb dX1_passTick_82 rfl (lv_at hl 2 rfl) ?_
      refine ty_get (E := []) (ws := ws_53) (D := D) (ci := 1) (C := RX1) (T := TX1) (N := 14) hx hb hts in_X1 hown hK hP hT h_h0 rfl 1 (by decide) (hts _ kl_RX1_18) (fun _ h9 => h9) rfl dX1_passTick_83 (fun _ hv_96 hf_97 => ?_)
      obtain ⟨a_98, rfl, ha_99⟩ := hv_96
      refine ty_getN (E := []) (ws := ws_53) (D := D) (ci := 0) (C := RX0) (T := TX0) (N := 16) hx hb hts in_X0 hown hK hP hT ha_99 rfl 13 (by decide) (hts _ kl_RX1_76) (fun _ h9 => h9) rfl dX1_passTick_86 (fun _ hv_100 hf_101 => ?_)
      obtain ⟨x_102, rfl⟩ := hv_100
      refine lv_iload_n hx hb dX1_passTick_89 rfl (lv_at hl 1 rfl) ?_
      refine lv_icmp_eq (tgt := 128) hx hb dX1_passTick_90 (by decide) (fun hc_103 => ?_) (fun hc_103 => ?_)
      · refine lv_aload_n hx hb dX1_passTick_128 rfl (lv_at hl 2 rfl) ?_
        refine lv_dup hx hb dX1_passTick_129 rfl ?_
        refine ty_get (E := []) (ws := ws_53) (D := D) (ci := 1) (C := RX1) (T := TX1) (N := 14) hx hb hts in_X1 hown hK hP hT h_h0 rfl 6 (by decide) (hts _ kl_RX1_52) (fun _ h9 => h9) rfl dX1_passTick_130 (fun _ hv_104 hf_105 => ?_)
        obtain ⟨x_106, rfl⟩ := hv_104
        refine lv_iconst (v := 1) hx hb dX1_passTick_133 (by decide) ?_
        refine lv_iadd hx hb dX1_passTick_134 ?_
        refine lv_topi (fun x_107 _ => ?_)
        refine ty_put (v := .int x_107) (ty := .int) (E := []) (ws := ws_53) (D := D) (ci := 1) (C := RX1) (T := TX1) (N := 14) hx hb hts in_X1 tyX1 tyX1_ok nmX1 hown hK hP hD hS hT h_h0 rfl 6 (by decide) (hts _ kl_RX1_52) (fun _ h9 => h9) rfl (by decide +kernel) rfl rfl rfl ⟨_, rfl⟩ dX1_passTick_135 hph (hy1 1 6 h0 rfl) (fun ws_108 H locs hT hP hD hS => ?_)
        refine lv_aload_n hx hb dX1_passTick_138 rfl (lv_at hl 2 rfl) ?_
        refine lv_aload_n hx hb dX1_passTick_139 rfl (lv_at hl 3 rfl) ?_
        refine ty_kv (wr := []) (wc := ([] ++ ws_108)) (va_runV (As := [.ref p1]) (rest := []) ⟨hx, hb, hml, hown, hts⟩ (t_X1_warn l D ct S ws_108 ph xx h0 p1 _ hT h_h0 h_p1 hph hy1) (cm_V 1 hts kc_X1_warn ki_RX1 kl_RX1_171 kv_X1_warn kx_X1_warn kd_X1_warn ⟨Nat.le_of_ble_eq_true rfl, Nat.le_of_ble_eq_true rfl⟩) (ty_preV (wr := []) (E := []) (ws := ws_108) (ci := 1) hP hK hD hS hA hX hT rfl h_h0) rfl rfl hl.1 rfl (lv_room (Nat.le_of_ble_eq_true rfl)) dX1_passTick_140 ⟨Nat.le_of_ble_eq_true rfl, Nat.le_of_ble_eq_true rfl⟩) hP hD hS hA (fun u H locs hw_110 hP hD hS => ?_)
        obtain ⟨ws_111, rfl⟩ : ∃ z, z = u := ⟨_, rfl⟩
        have hT := hw_110
        have hP : va_P D vwCl ([] ++ ws_111) H := hP
        have hD : va_D A ([] ++ ws_111) := hD
        refine lv_aload_n hx hb dX1_passTick_143 rfl (lv_at hl 2 rfl) ?_
        refine lv_aload_n hx hb dX1_passTick_144 rfl (lv_at hl 3 rfl) ?_
        refine ty_getN (E := []) (ws := ws_111) (D := D) (ci := 9) (C := RX9) (T := TX9) (N := 8) hx hb hts in_X9 hown hK hP hT h_p1 rfl 3 (by decide) (hts _ kl_RX1_175) (fun _ h9 => h9) rfl dX1_passTick_145 (fun _ hv_112 hf_113 => ?_)
        obtain ⟨a_114, rfl, ha_115⟩ := hv_112
        refine ty_ki (wr := []) (wc := ([] ++ ws_111)) (va_runV (As := [.ref a_114]) (rest := []) ⟨hx, hb, hml, hown, hts⟩ (t_X1_stepEnds l D ct S ws_111 ph xx h0 a_114 _ hT h_h0 ha_115 hph hy1) (cm_V 1 hts kc_X1_stepEnds ki_RX1 kl_RX1_179 kv_X1_stepEnds kx_X1_stepEnds kd_X1_stepEnds ⟨Nat.le_of_ble_eq_true rfl, Nat.le_of_ble_eq_true rfl⟩) (ty_preV (wr := []) (E := []) (ws := ws_111) (ci := 1) hP hK hD hS hA hX hT rfl h_h0) rfl rfl hl.1 rfl (lv_room (Nat.le_of_ble_eq_true rfl)) dX1_passTick_148 ⟨Nat.le_of_ble_eq_true rfl, Nat.le_of_ble_eq_true rfl⟩) hP hD hS hA (fun r_116 u H locs hw_117 hP hD hS => ?_)
        obtain ⟨ws_118, rfl⟩ : ∃ z, z = u := ⟨_, rfl⟩
        obtain ⟨hT, hp_119⟩ := hw_117
        have hp_119 : vp_nar .boolean r_116 = r_116 := hp_119
        have hP : va_P D vwCl ([] ++ ws_118) H := hP
        have hD : va_D A ([] ++ ws_118) := hD
        refine lv_istore (lv' := [(4, .int r_116), (3, .int x_14), (2, .int x_7), (0, .ref h0), (1, .ref p1)]) hx hb dX1_passTick_151 hl (by decide) rfl (fun ls hl => ?_)
        refine lv_aload_n hx hb dX1_passTick_153 rfl (lv_at hl 3 rfl) ?_
        refine lv_aload_n hx hb dX1_passTick_154 rfl (lv_at hl 4 rfl) ?_
        refine ty_getN (E := []) (ws := ws_118) (D := D) (ci := 9) (C := RX9) (T := TX9) (N := 8) hx hb hts in_X9 hown hK hP hT h_p1 rfl 1 (by decide) (hts _ kl_RX1_140) (fun _ h9 => h9) rfl dX1_passTick_155 (fun _ hv_120 hf_121 => ?_)
        obtain ⟨a_122, rfl, ha_123⟩ := hv_120
        refine lv_iload hx hb dX1_passTick_158 (lv_at hl 0 rfl) ?_
        refine ty_ki (wr := []) (wc := ([] ++ ws_118)) (va_runV (As := [.ref a_122, .int r_116]) (rest := []) ⟨hx, hb, hml, hown, hts⟩ (t_X1_tripReason l D ct S ws_118 ph xx h0 a_122 r_116 _ hT h_h0 ha_123 hph hy1) (cm_V 2 hts kc_X1_tripReason ki_RX1 kl_RX1_183 kv_X1_tripReason kx_X1_tripReason kd_X1_tripReason ⟨Nat.le_of_ble_eq_true rfl, Nat.le_of_ble_eq_true rfl⟩) (ty_preV (wr := []) (E := []) (ws := ws_118) (ci := 1) hP hK hD hS hA hX hT rfl h_h0) rfl rfl hl.1 rfl (lv_room (Nat.le_of_ble_eq_true rfl)) dX1_passTick_160 ⟨Nat.le_of_ble_eq_true rfl, Nat.le_of_ble_eq_true rfl⟩) hP hD hS hA (fun r_124 u H locs hw_125 hP hD hS => ?_)
        obtain ⟨ws_126, rfl⟩ : ∃ z, z = u := ⟨_, rfl⟩
        have hT := hw_125
        have hP : va_P D vwCl ([] ++ ws_126) H := hP
        have hD : va_D A ([] ++ ws_126) := hD
        refine lv_istore (lv' := [(5, .int r_124), (4, .int r_116), (3, .int x_14), (2, .int x_7), (0, .ref h0), (1, .ref p1)]) hx hb dX1_passTick_163 hl (by decide) rfl (fun ls hl => ?_)
        refine lv_iload hx hb dX1_passTick_165 (lv_at hl 0 rfl) ?_
        refine lv_if_eq (tgt := 179) hx hb dX1_passTick_167 (by decide) (fun hc_127 => ?_) (fun hc_127 => ?_)
        · refine lv_iload hx hb dX1_passTick_179 (lv_at hl 1 rfl) ?_
          refine lv_if_eq (tgt := 194) hx hb dX1_passTick_181 (by decide) (fun hc_128 => ?_) (fun hc_128 => ?_)
          · refine lv_iload hx hb dX1_passTick_194 (lv_at hl 1 rfl) ?_
            exact W.zret (v := r_116) hx hb hr (ty_zn hp_119) (fun t ht hW => ⟨⟨r_116, ws_126, rfl, hT, by rw [ht]; exact hP, by rw [hAe]; exact hD⟩, hS.F ht⟩) hS.2.2 dX1_passTick_196
          · refine lv_aload_n hx hb dX1_passTick_184 rfl (lv_at hl 4 rfl) ?_
            refine lv_aload_n hx hb dX1_passTick_185 rfl (lv_at hl 5 rfl) ?_
            refine ty_kv (wr := []) (wc := ([] ++ ws_126)) (va_runV (As := [.ref p1]) (rest := []) ⟨hx, hb, hml, hown, hts⟩ (t_X1_measureEnd l D ct S ws_126 ph xx h0 p1 _ hT h_h0 h_p1 hph hy1) (cm_V 1 hts kc_X1_measureEnd ki_RX1 kl_RX1_190 kv_X1_measureEnd kx_X1_measureEnd kd_X1_measureEnd ⟨Nat.le_of_ble_eq_true rfl, Nat.le_of_ble_eq_true rfl⟩) (ty_preV (wr := []) (E := []) (ws := ws_126) (ci := 1) hP hK hD hS hA hX hT rfl h_h0) rfl rfl hl.1 rfl (lv_room (Nat.le_of_ble_eq_true rfl)) dX1_passTick_186 ⟨Nat.le_of_ble_eq_true rfl, Nat.le_of_ble_eq_true rfl⟩) hP hD hS hA (fun u H locs hw_130 hP hD hS => ?_)
            obtain ⟨ws_131, rfl⟩ : ∃ z, z = u := ⟨_, rfl⟩
            have hT := hw_130
            have hP : va_P D vwCl ([] ++ ws_131) H := hP
            have hD : va_D A ([] ++ ws_131) := hD
            refine lv_aload_n hx hb dX1_passTick_189 rfl (lv_at hl 4 rfl) ?_
            refine lv_aload_n hx hb dX1_passTick_190 rfl (lv_at hl 5 rfl) ?_
            refine ty_kv (wr := []) (wc := ([] ++ ws_131)) (va_runV (As := [.ref p1]) (rest := []) ⟨hx, hb, hml, hown, hts⟩ (t_X1_leaveStep l D ct S ws_131 ph xx h0 p1 _ hT h_h0 h_p1 hph hy1) (cm_V 1 hts kc_X1_leaveStep ki_RX1 kl_RX1_193 kv_X1_leaveStep kx_X1_leaveStep kd_X1_leaveStep ⟨Nat.le_of_ble_eq_true rfl, Nat.le_of_ble_eq_true rfl⟩) (ty_preV (wr := []) (E := []) (ws := ws_131) (ci := 1) hP hK hD hS hA hX hT rfl h_h0) rfl rfl hl.1 rfl (lv_room (Nat.le_of_ble_eq_true rfl)) dX1_passTick_191 ⟨Nat.le_of_ble_eq_true rfl, Nat.le_of_ble_eq_true rfl⟩) hP hD hS hA (fun u H locs hw_133 hP hD hS => ?_)
            obtain ⟨ws_134, rfl⟩ : ∃ z, z = u := ⟨_, rfl⟩
            have hT := hw_133
            have hP : va_P D vwCl ([] ++ ws_134) H := hP
            have hD : va_D A ([] ++ ws_134) := hD
            refine lv_iload hx hb dX1_passTick_194 (lv_at hl 1 rfl) ?_
            exact W.zret (v := r_116) hx hb hr (ty_zn hp_119) (fun t ht hW => ⟨⟨r_116, ws_134, rfl, hT, by rw [ht]; exact hP, by rw [hAe]; exact hD⟩, hS.F ht⟩) hS.2.2 dX1_passTick_196
        · refine lv_aload_n hx hb dX1_passTick_170 rfl (lv_at hl 4 rfl) ?_
          refine lv_iload hx hb dX1_passTick_171 (lv_at hl 0 rfl) ?_
          refine lv_aload_n hx hb dX1_passTick_173 rfl (lv_at hl 5 rfl) ?_
          refine ty_kv (wr := []) (wc := ([] ++ ws_126)) (va_runV (As := [.int r_124, .ref p1]) (rest := []) ⟨hx, hb, hml, hown, hts⟩ (t_X1_trip l D ct S ws_126 ph xx h0 r_124 p1 _ hT h_h0 h_p1 hph hy1) (cm_V 2 hts kc_X1_trip ki_RX1 kl_RX1_186 kv_X1_trip kx_X1_trip kd_X1_trip ⟨Nat.le_of_ble_eq_true rfl, Nat.le_of_ble_eq_true rfl⟩) (ty_preV (wr := []) (E := []) (ws := ws_126) (ci := 1) hP hK hD hS hA hX hT rfl h_h0) rfl rfl hl.1 rfl (lv_room (Nat.le_of_ble_eq_true rfl)) dX1_passTick_174 ⟨Nat.le_of_ble_eq_true rfl, Nat.le_of_ble_eq_true rfl⟩) hP hD hS hA (fun u H locs hw_136 hP hD hS => ?_)
          obtain ⟨ws_137, rfl⟩ : ∃ z, z = u := ⟨_, rfl⟩
          have hT := hw_136
          have hP : va_P D vwCl ([] ++ ws_137) H := hP
          have hD : va_D A ([] ++ ws_137) := hD
          refine lv_iconst (v := 0) hx hb dX1_passTick_177 (by decide) ?_
          exact W.zret (v := 0) hx hb hr (by decide) (fun t ht hW => ⟨⟨0, ws_137, rfl, hT, by rw [ht]; exact hP, by rw [hAe]; exact hD⟩, hS.F ht⟩) hS.2.2 dX1_passTick_178
      · refine lv_aload_n hx hb dX1_passTick_93 rfl (lv_at hl 2 rfl) ?_
        refine ty_get (E := []) (ws := ws_53) (D := D) (ci := 1) (C := RX1) (T := TX1) (N := 14) hx hb hts in_X1 hown hK hP hT h_h0 rfl 2 (by decide) (hts _ kl_RX1_25) (fun _ h9 => h9) rfl dX1_passTick_94 (fun _ hv_138 hf_139 => ?_)
        obtain ⟨a_140, rfl, ha_141⟩ := hv_138
        refine lv_ldc2 hx hb hown (hts _ kl_RX1_162) dX1_passTick_97 ?_
        refine lv_aload_n hx hb dX1_passTick_100 rfl (lv_at hl 2 rfl) ?_
        refine ty_get (E := []) (ws := ws_53) (D := D) (ci := 1) (C := RX1) (T := TX1) (N := 14) hx hb hts in_X1 hown hK hP hT h_h0 rfl 1 (by decide) (hts _ kl_RX1_18) (fun _ h9 => h9) rfl dX1_passTick_101 (fun _ hv_142 hf_143 => ?_)
        obtain ⟨a_144, rfl, ha_145⟩ := hv_142
        refine ty_getN (E := []) (ws := ws_53) (D := D) (ci := 0) (C := RX0) (T := TX0) (N := 16) hx hb hts in_X0 hown hK hP hT ha_145 rfl 14 (by decide) (hts _ kl_RX1_79) (fun _ h9 => h9) rfl dX1_passTick_104 (fun _ hv_146 hf_147 => ?_)
        obtain ⟨x_148, rfl⟩ := hv_146
        refine lv_iload_n hx hb dX1_passTick_107 rfl (lv_at hl 0 rfl) ?_
        refine lv_isub hx hb dX1_passTick_108 ?_
        refine lv_topi (fun x_149 _ => ?_)
        refine lv_i2l hx hb dX1_passTick_109 rfl ?_
        refine lv_topl (fun x_150 _ => ?_)
        refine lv_lmul hx hb dX1_passTick_110 ?_
        refine lv_topl (fun x_151 _ => ?_)
        refine lv_aload_n hx hb dX1_passTick_111 rfl (lv_at hl 2 rfl) ?_
        refine ty_get (E := []) (ws := ws_53) (D := D) (ci := 1) (C := RX1) (T := TX1) (N := 14) hx hb hts in_X1 hown hK hP hT h_h0 rfl 1 (by decide) (hts _ kl_RX1_18) (fun _ h9 => h9) rfl dX1_passTick_112 (fun _ hv_152 hf_153 => ?_)
        obtain ⟨a_154, rfl, ha_155⟩ := hv_152
        refine ty_getN (E := []) (ws := ws_53) (D := D) (ci := 0) (C := RX0) (T := TX0) (N := 16) hx hb hts in_X0 hown hK hP hT ha_155 rfl 13 (by decide) (hts _ kl_RX1_76) (fun _ h9 => h9) rfl dX1_passTick_115 (fun _ hv_156 hf_157 => ?_)
        obtain ⟨x_158, rfl⟩ := hv_156
        refine lv_iload_n hx hb dX1_passTick_118 rfl (lv_at hl 1 rfl) ?_
        refine lv_isub hx hb dX1_passTick_119 ?_
        refine lv_topi (fun x_159 _ => ?_)
        refine lv_i2l hx hb dX1_passTick_120 rfl ?_
        refine lv_topl (fun x_160 _ => ?_)
        refine ty_kl (wr := []) (wc := ([] ++ ws_53)) (va_runSN (As := [.long x_151, .long x_160]) (rest := [.ref a_140]) ⟨hx, hb, hml, hown, hts⟩ (t_X10_quotient l D ct S ws_53 ph xx x_151 x_160 _ hT hph hy1) (cm_SN 2 hts kc_X10_quotient ki_RX10 kl_RX1_164 ks_X10_quotient kd_X10_quotient ⟨Nat.le_of_ble_eq_true rfl, Nat.le_of_ble_eq_true rfl⟩) (ty_preS (wr := []) (wc := ([] ++ ws_53)) hP hK hD hS hA hX) rfl rfl hl.1 rfl (lv_room (Nat.le_of_ble_eq_true rfl)) dX1_passTick_121 ⟨Nat.le_of_ble_eq_true rfl, Nat.le_of_ble_eq_true rfl⟩) hP hD hS hA (fun r_161 u H locs hw_162 hP hD hS => ?_)
        obtain ⟨ws_163, rfl⟩ : ∃ z, z = u := ⟨_, rfl⟩
        have hT := hw_162
        have hP : va_P D vwCl ([] ++ ws_163) H := hP
        have hD : va_D A ([] ++ ws_163) := hD
        refine lv_l2i hx hb dX1_passTick_124 rfl ?_
        refine lv_topi (fun x_164 _ => ?_)
        refine ty_putN (v := .int x_164) (ty := .int) (E := []) (ws := ws_163) (D := D) (ci := 4) (C := RX4) (T := TX4) (N := 7) hx hb hts in_X4 tyX4 tyX4_ok nmX4 hown hK hP hD hS hT ha_141 rfl 2 (by decide) (hts _ kl_RX1_168) (fun _ h9 => h9) rfl (by decide +kernel) rfl rfl rfl ⟨_, rfl⟩ dX1_passTick_125 hph (hy1 4 2 a_140 rfl) (fun ws_165 H locs hT hP hD hS => ?_)
        refine lv_aload_n hx hb dX1_passTick_128 rfl (lv_at hl 2 rfl) ?_
        refine lv_dup hx hb dX1_passTick_129 rfl ?_
        refine ty_get (E := []) (ws := ws_165) (D := D) (ci := 1) (C := RX1) (T := TX1) (N := 14) hx hb hts in_X1 hown hK hP hT h_h0 rfl 6 (by decide) (hts _ kl_RX1_52) (fun _ h9 => h9) rfl dX1_passTick_130 (fun _ hv_166 hf_167 => ?_)
        obtain ⟨x_168, rfl⟩ := hv_166
        refine lv_iconst (v := 1) hx hb dX1_passTick_133 (by decide) ?_
        refine lv_iadd hx hb dX1_passTick_134 ?_
        refine lv_topi (fun x_169 _ => ?_)
        refine ty_put (v := .int x_169) (ty := .int) (E := []) (ws := ws_165) (D := D) (ci := 1) (C := RX1) (T := TX1) (N := 14) hx hb hts in_X1 tyX1 tyX1_ok nmX1 hown hK hP hD hS hT h_h0 rfl 6 (by decide) (hts _ kl_RX1_52) (fun _ h9 => h9) rfl (by decide +kernel) rfl rfl rfl ⟨_, rfl⟩ dX1_passTick_135 hph (hy1 1 6 h0 rfl) (fun ws_170 H locs hT hP hD hS => ?_)
        refine lv_aload_n hx hb dX1_passTick_138 rfl (lv_at hl 2 rfl) ?_
        refine lv_aload_n hx hb dX1_passTick_139 rfl (lv_at hl 3 rfl) ?_
        refine ty_kv (wr := []) (wc := ([] ++ ws_170)) (va_runV (As := [.ref p1]) (rest := []) ⟨hx, hb, hml, hown, hts⟩ (t_X1_warn l D ct S ws_170 ph xx h0 p1 _ hT h_h0 h_p1 hph hy1) (cm_V 1 hts kc_X1_warn ki_RX1 kl_RX1_171 kv_X1_warn kx_X1_warn kd_X1_warn ⟨Nat.le_of_ble_eq_true rfl, Nat.le_of_ble_eq_true rfl⟩) (ty_preV (wr := []) (E := []) (ws := ws_170) (ci := 1) hP hK hD hS hA hX hT rfl h_h0) rfl rfl hl.1 rfl (lv_room (Nat.le_of_ble_eq_true rfl)) dX1_passTick_140 ⟨Nat.le_of_ble_eq_true rfl, Nat.le_of_ble_eq_true rfl⟩) hP hD hS hA (fun u H locs hw_172 hP hD hS => ?_)
        obtain ⟨ws_173, rfl⟩ : ∃ z, z = u := ⟨_, rfl⟩
        have hT := hw_172
        have hP : va_P D vwCl ([] ++ ws_173) H := hP
        have hD : va_D A ([] ++ ws_173) := hD
        refine lv_aload_n hx hb dX1_passTick_143 rfl (lv_at hl 2 rfl) ?_
        refine lv_aload_n hx hb dX1_passTick_144 rfl (lv_at hl 3 rfl) ?_
        refine ty_getN (E := []) (ws := ws_173) (D := D) (ci := 9) (C := RX9) (T := TX9) (N := 8) hx hb hts in_X9 hown hK hP hT h_p1 rfl 3 (by decide) (hts _ kl_RX1_175) (fun _ h9 => h9) rfl dX1_passTick_145 (fun _ hv_174 hf_175 => ?_)
        obtain ⟨a_176, rfl, ha_177⟩ := hv_174
        refine ty_ki (wr := []) (wc := ([] ++ ws_173)) (va_runV (As := [.ref a_176]) (rest := []) ⟨hx, hb, hml, hown, hts⟩ (t_X1_stepEnds l D ct S ws_173 ph xx h0 a_176 _ hT h_h0 ha_177 hph hy1) (cm_V 1 hts kc_X1_stepEnds ki_RX1 kl_RX1_179 kv_X1_stepEnds kx_X1_stepEnds kd_X1_stepEnds ⟨Nat.le_of_ble_eq_true rfl, Nat.le_of_ble_eq_true rfl⟩) (ty_preV (wr := []) (E := []) (ws := ws_173) (ci := 1) hP hK hD hS hA hX hT rfl h_h0) rfl rfl hl.1 rfl (lv_room (Nat.le_of_ble_eq_true rfl)) dX1_passTick_148 ⟨Nat.le_of_ble_eq_true rfl, Nat.le_of_ble_eq_true rfl⟩) hP hD hS hA (fun r_178 u H locs hw_179 hP hD hS => ?_)
        obtain ⟨ws_180, rfl⟩ : ∃ z, z = u := ⟨_, rfl⟩
        obtain ⟨hT, hp_181⟩ := hw_179
        have hp_181 : vp_nar .boolean r_178 = r_178 := hp_181
        have hP : va_P D vwCl ([] ++ ws_180) H := hP
        have hD : va_D A ([] ++ ws_180) := hD
        refine lv_istore (lv' := [(4, .int r_178), (3, .int x_14), (2, .int x_7), (0, .ref h0), (1, .ref p1)]) hx hb dX1_passTick_151 hl (by decide) rfl (fun ls hl => ?_)
        refine lv_aload_n hx hb dX1_passTick_153 rfl (lv_at hl 3 rfl) ?_
        refine lv_aload_n hx hb dX1_passTick_154 rfl (lv_at hl 4 rfl) ?_
        refine ty_getN (E := []) (ws := ws_180) (D := D) (ci := 9) (C := RX9) (T := TX9) (N := 8) hx hb hts in_X9 hown hK hP hT h_p1 rfl 1 (by decide) (hts _ kl_RX1_140) (fun _ h9 => h9) rfl dX1_passTick_155 (fun _ hv_182 hf_183 => ?_)
        obtain ⟨a_184, rfl, ha_185⟩ := hv_182
        refine lv_iload hx hb dX1_passTick_158 (lv_at hl 0 rfl) ?_
        refine ty_ki (wr := []) (wc := ([] ++ ws_180)) (va_runV (As := [.ref a_184, .int r_178]) (rest := []) ⟨hx, hb, hml, hown, hts⟩ (t_X1_tripReason l D ct S ws_180 ph xx h0 a_184 r_178 _ hT h_h0 ha_185 hph hy1) (cm_V 2 hts kc_X1_tripReason ki_RX1 kl_RX1_183 kv_X1_tripReason kx_X1_tripReason kd_X1_tripReason ⟨Nat.le_of_ble_eq_true rfl, Nat.le_of_ble_eq_true rfl⟩) (ty_preV (wr := []) (E := []) (ws := ws_180) (ci := 1) hP hK hD hS hA hX hT rfl h_h0) rfl rfl hl.1 rfl (lv_room (Nat.le_of_ble_eq_true rfl)) dX1_passTick_160 ⟨Nat.le_of_ble_eq_true rfl, Nat.le_of_ble_eq_true rfl⟩) hP hD hS hA (fun r_186 u H locs hw_187 hP hD hS => ?_)
        obtain ⟨ws_188, rfl⟩ : ∃ z, z = u := ⟨_, rfl⟩
        have hT := hw_187
        have hP : va_P D vwCl ([] ++ ws_188) H := hP
        have hD : va_D A ([] ++ ws_188) := hD
        refine lv_istore (lv' := [(5, .int r_186), (4, .int r_178), (3, .int x_14), (2, .int x_7), (0, .ref h0), (1, .ref p1)]) hx hb dX1_passTick_163 hl (by decide) rfl (fun ls hl => ?_)
        refine lv_iload hx hb dX1_passTick_165 (lv_at hl 0 rfl) ?_
        refine lv_if_eq (tgt := 179) hx hb dX1_passTick_167 (by decide) (fun hc_189 => ?_) (fun hc_189 => ?_)
        · refine lv_iload hx hb dX1_passTick_179 (lv_at hl 1 rfl) ?_
          refine lv_if_eq (tgt := 194) hx hb dX1_passTick_181 (by decide) (fun hc_190 => ?_) (fun hc_190 => ?_)
          · refine lv_iload hx hb dX1_passTick_194 (lv_at hl 1 rfl) ?_
            exact W.zret (v := r_178) hx hb hr (ty_zn hp_181) (fun t ht hW => ⟨⟨r_178, ws_188, rfl, hT, by rw [ht]; exact hP, by rw [hAe]; exact hD⟩, hS.F ht⟩) hS.2.2 dX1_passTick_196
          · refine lv_aload_n hx hb dX1_passTick_184 rfl (lv_at hl 4 rfl) ?_
            refine lv_aload_n hx hb dX1_passTick_185 rfl (lv_at hl 5 rfl) ?_
            refine ty_kv (wr := []) (wc := ([] ++ ws_188)) (va_runV (As := [.ref p1]) (rest := []) ⟨hx, hb, hml, hown, hts⟩ (t_X1_measureEnd l D ct S ws_188 ph xx h0 p1 _ hT h_h0 h_p1 hph hy1) (cm_V 1 hts kc_X1_measureEnd ki_RX1 kl_RX1_190 kv_X1_measureEnd kx_X1_measureEnd kd_X1_measureEnd ⟨Nat.le_of_ble_eq_true rfl, Nat.le_of_ble_eq_true rfl⟩) (ty_preV (wr := []) (E := []) (ws := ws_188) (ci := 1) hP hK hD hS hA hX hT rfl h_h0) rfl rfl hl.1 rfl (lv_room (Nat.le_of_ble_eq_true rfl)) dX1_passTick_186 ⟨Nat.le_of_ble_eq_true rfl, Nat.le_of_ble_eq_true rfl⟩) hP hD hS hA (fun u H locs hw_192 hP hD hS => ?_)
            obtain ⟨ws_193, rfl⟩ : ∃ z, z = u := ⟨_, rfl⟩
            have hT := hw_192
            have hP : va_P D vwCl ([] ++ ws_193) H := hP
            have hD : va_D A ([] ++ ws_193) := hD
            refine lv_aload_n hx hb dX1_passTick_189 rfl (lv_at hl 4 rfl) ?_
            refine lv_aload_n hx hb dX1_passTick_190 rfl (lv_at hl 5 rfl) ?_
            refine ty_kv (wr := []) (wc := ([] ++ ws_193)) (va_runV (As := [.ref p1]) (rest := []) ⟨hx, hb, hml, hown, hts⟩ (t_X1_leaveStep l D ct S ws_193 ph xx h0 p1 _ hT h_h0 h_p1 hph hy1) (cm_V 1 hts kc_X1_leaveStep ki_RX1 kl_RX1_193 kv_X1_leaveStep kx_X1_leaveStep kd_X1_leaveStep ⟨Nat.le_of_ble_eq_true rfl, Nat.le_of_ble_eq_true rfl⟩) (ty_preV (wr := []) (E := []) (ws := ws_193) (ci := 1) hP hK hD hS hA hX hT rfl h_h0) rfl rfl hl.1 rfl (lv_room (Nat.le_of_ble_eq_true rfl)) dX1_passTick_191 ⟨Nat.le_of_ble_eq_true rfl, Nat.le_of_ble_eq_true rfl⟩) hP hD hS hA (fun u H locs hw_195 hP hD hS => ?_)
            obtain ⟨ws_196, rfl⟩ : ∃ z, z = u := ⟨_, rfl⟩
            have hT := hw_195
            have hP : va_P D vwCl ([] ++ ws_196) H := hP
            have hD : va_D A ([] ++ ws_196) := hD
            refine lv_iload hx hb dX1_passTick_194 (lv_at hl 1 rfl) ?_
            exact W.zret (v := r_178) hx hb hr (ty_zn hp_181) (fun t ht hW => ⟨⟨r_178, ws_196, rfl, hT, by rw [ht]; exact hP, by rw [hAe]; exact hD⟩, hS.F ht⟩) hS.2.2 dX1_passTick_196
        · refine lv_aload_n hx hb dX1_passTick_170 rfl (lv_at hl 4 rfl) ?_
          refine lv_iload hx hb dX1_passTick_171 (lv_at hl 0 rfl) ?_
          refine lv_aload_n hx hb dX1_passTick_173 rfl (lv_at hl 5 rfl) ?_
          refine ty_kv (wr := []) (wc := ([] ++ ws_188)) (va_runV (As := [.int r_186, .ref p1]) (rest := []) ⟨hx, hb, hml, hown, hts⟩ (t_X1_trip l D ct S ws_188 ph xx h0 r_186 p1 _ hT h_h0 h_p1 hph hy1) (cm_V 2 hts kc_X1_trip ki_RX1 kl_RX1_186 kv_X1_trip kx_X1_trip kd_X1_trip ⟨Nat.le_of_ble_eq_true rfl, Nat.le_of_ble_eq_true rfl⟩) (ty_preV (wr := []) (E := []) (ws := ws_188) (ci := 1) hP hK hD hS hA hX hT rfl h_h0) rfl rfl hl.1 rfl (lv_room (Nat.le_of_ble_eq_true rfl)) dX1_passTick_174 ⟨Nat.le_of_ble_eq_true rfl, Nat.le_of_ble_eq_true rfl⟩) hP hD hS hA (fun u H locs hw_198 hP hD hS => ?_)
          obtain ⟨ws_199, rfl⟩ : ∃ z, z = u := ⟨_, rfl⟩
          have hT := hw_198
          have hP : va_P D vwCl ([] ++ ws_199) H := hP
          have hD : va_D A ([] ++ ws_199) := hD
          refine lv_iconst (v := 0) hx hb dX1_passTick_177 (by decide) ?_
          exact W.zret (v := 0) hx hb hr (by decide) (fun t ht hW => ⟨⟨0, ws_199, rfl, hT, by rw [ht]; exact hP, by rw [hAe]; exact hD⟩, hS.F ht⟩) hS.2.2 dX1_passTick_178
  · refine lv_aload_n hx hb dX1_passTick_65 rfl (lv_at hl 2 rfl) ?_
    refine ty_get (E := []) (ws := ws_53) (D := D) (ci := 1) (C := RX1) (T := TX1) (N := 14) hx hb hts in_X1 hown hK hP hT h_h0 rfl 2 (by decide) (hts _ kl_RX1_25) (fun _ h9 => h9) rfl dX1_passTick_66 (fun _ hv_200 hf_201 => ?_)
    obtain ⟨a_202, rfl, ha_203⟩ := hv_200
    refine lv_iconst (v := 0) hx hb dX1_passTick_69 (by decide) ?_
    refine ty_putN (v := .int 0) (ty := .int) (E := []) (ws := ws_53) (D := D) (ci := 4) (C := RX4) (T := TX4) (N := 7) hx hb hts in_X4 tyX4 tyX4_ok nmX4 hown hK hP hD hS hT ha_203 rfl 4 (by decide) (hts _ kl_RX1_159) (fun _ h9 => h9) rfl (by decide +kernel) rfl rfl rfl ⟨_, rfl⟩ dX1_passTick_70 hph (hy1 4 4 a_202 rfl) (fun ws_204 H locs hT hP hD hS => ?_)
    refine lv_iconst (v := 0) hx hb dX1_passTick_73 (by decide) ?_
    exact W.zret (v := 0) hx hb hr (by decide) (fun t ht hW => ⟨⟨0, ws_204, rfl, hT, by rw [ht]; exact hP, by rw [hAe]; exact hD⟩, hS.F ht⟩) hS.2.2 dX1_passTick_74
