theorem dX9_channelAt_0 : decode cX9_channelAt 0 = .ok (.iload_n 1, 1) := by decide +kernel
theorem dX9_channelAt_1 : decode cX9_channelAt 1 = .ok (.ifCond .lt 20, 3) := by decide +kernel
theorem dX9_channelAt_4 : decode cX9_channelAt 4 = .ok (.iload_n 1, 1) := by decide +kernel
theorem dX9_channelAt_5 : decode cX9_channelAt 5 = .ok (.aload_n 0, 1) := by decide +kernel
theorem dX9_channelAt_6 : decode cX9_channelAt 6 = .ok (.getfield 64, 3) := by decide +kernel
theorem dX9_channelAt_9 : decode cX9_channelAt 9 = .ok (.if_icmp .ge 12, 3) := by decide +kernel
theorem dX9_channelAt_12 : decode cX9_channelAt 12 = .ok (.iload_n 1, 1) := by decide +kernel
theorem dX9_channelAt_13 : decode cX9_channelAt 13 = .ok (.aload_n 0, 1) := by decide +kernel
theorem dX9_channelAt_14 : decode cX9_channelAt 14 = .ok (.getfield 34, 3) := by decide +kernel
theorem dX9_channelAt_17 : decode cX9_channelAt 17 = .ok (.arraylength, 1) := by decide +kernel
theorem dX9_channelAt_18 : decode cX9_channelAt 18 = .ok (.if_icmp .lt 5, 3) := by decide +kernel
theorem dX9_channelAt_21 : decode cX9_channelAt 21 = .ok (.aconst_null, 1) := by decide +kernel
theorem dX9_channelAt_22 : decode cX9_channelAt 22 = .ok (.areturn, 1) := by decide +kernel
theorem dX9_channelAt_23 : decode cX9_channelAt 23 = .ok (.aload_n 0, 1) := by decide +kernel
theorem dX9_channelAt_24 : decode cX9_channelAt 24 = .ok (.getfield 34, 3) := by decide +kernel
theorem dX9_channelAt_27 : decode cX9_channelAt 27 = .ok (.iload_n 1, 1) := by decide +kernel
theorem dX9_channelAt_28 : decode cX9_channelAt 28 = .ok (.aaload, 1) := by decide +kernel
theorem dX9_channelAt_29 : decode cX9_channelAt 29 = .ok (.areturn, 1) := by decide +kernel
set_option maxRecDepth 100000 in
set_option maxHeartbeats 4000000 in
theorem t_X9_channelAt (l : Launch) (D : va_G) (ct : Nat → ClassId) (S : ty_S) (ws : va_W) (ph : va_W → Prop) (xx : Nat → Nat → Nat → Prop) (h0 : Nat) (p1 : Int32) (sz : Nat) (hT : ty_V ct S ph ws) (h_h0 : S h0 = some (.inl 9)) (hph : ty_C ph xx) (hy1 : ty_y1 xx) : Met l yX9_channelAt (ws_ yX9_channelAt cX9_channelAt 2 (some (.object "CellCycler$Channel"))) ({ frames := 0, cells := 0, slots := 0, locals := 0 } : Room) (va_Pc [.ref h0, .int p1] (cmP D ct sz ([] ++ ws))) (va_Qq (fun (r : Option Nat) (u9 : va_W) => ty_V ct S ph u9 ∧ (r = none ∨ ∃ a : Nat, r = some a ∧ S a = some (.inl 1))) (cmB D ([] ++ ws) sz (fun (u9 : va_W) => ([] ++ u9))) (va_A ([] ++ ws) sz)) 0 0 (va_A ([] ++ ws) sz) := by
  refine Met.ofW (cc := cX9_channelAt) (maxL := 2) (ret := (some (.object "CellCycler$Channel"))) (by decide) rfl ?_
  intro p e s m args below meth c s₁ B hml hv
  obtain ⟨rfl, hsz, hP, hK, hD0, hX⟩ := hv
  have hx := B.exec
  have hb := B.bytes
  have hr := B.returns
  have hts := ws_all (atoms_spec (ws := ws_ yX9_channelAt cX9_channelAt 2 (some (.object "CellCycler$Channel"))) B.pre)
  have hown : s.vm.findClass RX9 = some m.cls := findClass_of_methodNamed B.named
  have hlocks := B.notSynchronized
  subst hsz
  have hD := hD0.self (sz := s.heap.size)
  generalize hAe : va_A ([] ++ ws) s.heap.size = A at hD hX ⊢
  have hA : ∀ q : Nat, s.heap.size ≤ q → A q := fun q h => by rw [← hAe]; exact Or.inr h
  have hS : va_S A s.heap s.heap [] := va_S.rf
  have hl := lv_entry ([.ref h0, .int p1]) (n := 2) (Nat.le_of_ble_eq_true rfl)
  rw [lg_entry_eq]
  generalize (lg_sl ([.ref h0, .int p1]) ++ List.replicate (2 - (lg_sl ([.ref h0, .int p1])).length) Slot.unset).toArray = ls at hl ⊢
  have hl : lv_has ls 2 [(0, .ref h0), (1, .int p1)] := hl
  refine lv_iload_n hx hb dX9_channelAt_0 rfl (lv_at hl 1 rfl) ?_
  refine lv_if_lt (tgt := 21) hx hb dX9_channelAt_1 (by decide) (fun hc_1 => ?_) (fun hc_1 => ?_)
  · refine lv_null hx hb dX9_channelAt_21 ?_
    exact W.aret (v := .null) hx hb hr (Or.inl ⟨_, rfl⟩) (Or.inl rfl) (fun t ht hW => ⟨⟨none, ws, rfl, ⟨hT, (Or.inl rfl)⟩, by rw [ht]; exact hP, by rw [hAe]; exact hD⟩, hS.F ht⟩) hS.2.2 dX9_channelAt_22
  · refine lv_iload_n hx hb dX9_channelAt_4 rfl (lv_at hl 1 rfl) ?_
    refine lv_aload_n hx hb dX9_channelAt_5 rfl (lv_at hl 0 rfl) ?_
    refine ty_get (E := []) (ws := ws) (D := D) (ci := 9) (C := RX9) (T := TX9) (N := 8) hx hb hts in_X9 hown hK hP hT h_h0 rfl 4 (by decide) (hts _ kl_RX9_64) (fun _ h9 => h9) rfl dX9_channelAt_6 (fun _ hv_2 hf_3 => ?_)
    obtain ⟨x_4, rfl⟩ := hv_2
    refine lv_icmp_ge (tgt := 21) hx hb dX9_channelAt_9 (by decide) (fun hc_5 => ?_) (fun hc_5 => ?_)
    · refine lv_null hx hb dX9_channelAt_21 ?_
      exact W.aret (v := .null) hx hb hr (Or.inl ⟨_, rfl⟩) (Or.inl rfl) (fun t ht hW => ⟨⟨none, ws, rfl, ⟨hT, (Or.inl rfl)⟩, by rw [ht]; exact hP, by rw [hAe]; exact hD⟩, hS.F ht⟩) hS.2.2 dX9_channelAt_22
    · refine lv_iload_n hx hb dX9_channelAt_12 rfl (lv_at hl 1 rfl) ?_
      refine lv_aload_n hx hb dX9_channelAt_13 rfl (lv_at hl 0 rfl) ?_
      refine ty_get (E := []) (ws := ws) (D := D) (ci := 9) (C := RX9) (T := TX9) (N := 8) hx hb hts in_X9 hown hK hP hT h_h0 rfl 5 (by decide) (hts _ kl_RX9_34) (fun _ h9 => h9) rfl dX9_channelAt_14 (fun _ hv_6 hf_7 => ?_)
      obtain ⟨a_8, n_9, rfl, ha_10⟩ := hv_6
      refine ty_alen3 (E := []) (ws := ws) hx hb hK hP hT ha_10 dX9_channelAt_17 ?_
      refine lv_icmp_lt (tgt := 23) hx hb dX9_channelAt_18 (by decide) (fun hc_11 => ?_) (fun hc_11 => ?_)
      · refine lv_aload_n hx hb dX9_channelAt_23 rfl (lv_at hl 0 rfl) ?_
        refine ty_getD (v := .ref a_8) (E := []) (ws := ws) (D := D) (ci := 9) (C := RX9) (T := TX9) (N := 8) hx hb hts in_X9 hown hK hP hD hT h_h0 rfl 5 (by decide) (hts _ kl_RX9_34) (fun _ h9 => h9) hf_7 dX9_channelAt_24 ?_
        refine lv_iload_n hx hb dX9_channelAt_27 rfl (lv_at hl 1 rfl) ?_
        refine ty_aald3 (E := []) (ws := ws) hx hb hK hP hT ha_10 (cm_vin2 (ty_lt hT.1 ha_10) hc_1 hc_11) dX9_channelAt_28 ?_ (fun a_12 ha_13 => ?_)
        · exact W.aret (v := .null) hx hb hr (Or.inl ⟨_, rfl⟩) (Or.inl rfl) (fun t ht hW => ⟨⟨none, ws, rfl, ⟨hT, (Or.inl rfl)⟩, by rw [ht]; exact hP, by rw [hAe]; exact hD⟩, hS.F ht⟩) hS.2.2 dX9_channelAt_29
        · exact W.aret (v := .ref a_12) hx hb hr (Or.inl ⟨_, rfl⟩) (Or.inr ⟨_, rfl⟩) (fun t ht hW => ⟨⟨(some a_12), ws, rfl, ⟨hT, (Or.inr ⟨_, rfl, ha_13⟩)⟩, by rw [ht]; exact hP, by rw [hAe]; exact hD⟩, hS.F ht⟩) hS.2.2 dX9_channelAt_29
      · refine lv_null hx hb dX9_channelAt_21 ?_
        exact W.aret (v := .null) hx hb hr (Or.inl ⟨_, rfl⟩) (Or.inl rfl) (fun t ht hW => ⟨⟨none, ws, rfl, ⟨hT, (Or.inl rfl)⟩, by rw [ht]; exact hP, by rw [hAe]; exact hD⟩, hS.F ht⟩) hS.2.2 dX9_channelAt_22
theorem dX9_channelsIn_0 : decode cX9_channelsIn 0 = .ok (.iconst 0, 1) := by decide +kernel
theorem dX9_channelsIn_1 : decode cX9_channelsIn 1 = .ok (.istore_n 2, 1) := by decide +kernel
theorem dX9_channelsIn_2 : decode cX9_channelsIn 2 = .ok (.iconst 0, 1) := by decide +kernel
theorem dX9_channelsIn_3 : decode cX9_channelsIn 3 = .ok (.istore_n 3, 1) := by decide +kernel
theorem dX9_channelsIn_4 : decode cX9_channelsIn 4 = .ok (.iload_n 3, 1) := by decide +kernel
theorem dX9_channelsIn_5 : decode cX9_channelsIn 5 = .ok (.aload_n 0, 1) := by decide +kernel
theorem dX9_channelsIn_6 : decode cX9_channelsIn 6 = .ok (.getfield 64, 3) := by decide +kernel
theorem dX9_channelsIn_9 : decode cX9_channelsIn 9 = .ok (.if_icmp .ge 36, 3) := by decide +kernel
theorem dX9_channelsIn_12 : decode cX9_channelsIn 12 = .ok (.aload_n 0, 1) := by decide +kernel
theorem dX9_channelsIn_13 : decode cX9_channelsIn 13 = .ok (.iload_n 3, 1) := by decide +kernel
theorem dX9_channelsIn_14 : decode cX9_channelsIn 14 = .ok (.invokevirtual 68, 3) := by decide +kernel
theorem dX9_channelsIn_17 : decode cX9_channelsIn 17 = .ok (.astore 4, 2) := by decide +kernel
theorem dX9_channelsIn_19 : decode cX9_channelsIn 19 = .ok (.aload 4, 2) := by decide +kernel
theorem dX9_channelsIn_21 : decode cX9_channelsIn 21 = .ok (.ifnull 18, 3) := by decide +kernel
theorem dX9_channelsIn_24 : decode cX9_channelsIn 24 = .ok (.aload 4, 2) := by decide +kernel
theorem dX9_channelsIn_26 : decode cX9_channelsIn 26 = .ok (.getfield 72, 3) := by decide +kernel
theorem dX9_channelsIn_29 : decode cX9_channelsIn 29 = .ok (.iload_n 1, 1) := by decide +kernel
theorem dX9_channelsIn_30 : decode cX9_channelsIn 30 = .ok (.if_icmp .ne 9, 3) := by decide +kernel
theorem dX9_channelsIn_33 : decode cX9_channelsIn 33 = .ok (.iload_n 2, 1) := by decide +kernel
theorem dX9_channelsIn_34 : decode cX9_channelsIn 34 = .ok (.iconst 1, 1) := by decide +kernel
theorem dX9_channelsIn_35 : decode cX9_channelsIn 35 = .ok (.iload_n 3, 1) := by decide +kernel
theorem dX9_channelsIn_36 : decode cX9_channelsIn 36 = .ok (.ishl, 1) := by decide +kernel
theorem dX9_channelsIn_37 : decode cX9_channelsIn 37 = .ok (.ior, 1) := by decide +kernel
theorem dX9_channelsIn_38 : decode cX9_channelsIn 38 = .ok (.istore_n 2, 1) := by decide +kernel
theorem dX9_channelsIn_39 : decode cX9_channelsIn 39 = .ok (.iinc 3 1, 3) := by decide +kernel
theorem dX9_channelsIn_42 : decode cX9_channelsIn 42 = .ok (.goto (-38), 3) := by decide +kernel
theorem dX9_channelsIn_45 : decode cX9_channelsIn 45 = .ok (.iload_n 2, 1) := by decide +kernel
theorem dX9_channelsIn_46 : decode cX9_channelsIn 46 = .ok (.ireturn, 1) := by decide +kernel
set_option maxRecDepth 100000 in
set_option maxHeartbeats 4000000 in
theorem t_X9_channelsIn (l : Launch) (D : va_G) (ct : Nat → ClassId) (S : ty_S) (ws : va_W) (ph : va_W → Prop) (xx : Nat → Nat → Nat → Prop) (h0 : Nat) (p1 : Int32) (sz : Nat) (hT : ty_V ct S ph ws) (h_h0 : S h0 = some (.inl 9)) (hph : ty_C ph xx) (hy1 : ty_y1 xx) : Met l yX9_channelsIn (ws_ yX9_channelsIn cX9_channelsIn 5 (some .int)) ({ frames := 1, cells := 0, slots := 0, locals := 21 } : Room) (va_Pc [.ref h0, .int p1] (cmP D ct sz ([] ++ ws))) (va_Qi (fun (r : Int32) (u9 : va_W) => ty_V ct S ph u9) (cmB D ([] ++ ws) sz (fun (u9 : va_W) => ([] ++ u9))) (va_A ([] ++ ws) sz)) 0 0 (va_A ([] ++ ws) sz) := by
  refine Met.ofW (cc := cX9_channelsIn) (maxL := 5) (ret := (some .int)) (by decide) rfl ?_
  intro p e s m args below meth c s₁ B hml hv
  obtain ⟨rfl, hsz, hP, hK, hD0, hX⟩ := hv
  have hx := B.exec
  have hb := B.bytes
  have hr := B.returns
  have hts := ws_all (atoms_spec (ws := ws_ yX9_channelsIn cX9_channelsIn 5 (some .int)) B.pre)
  have hown : s.vm.findClass RX9 = some m.cls := findClass_of_methodNamed B.named
  have hlocks := B.notSynchronized
  subst hsz
  have hD := hD0.self (sz := s.heap.size)
  generalize hAe : va_A ([] ++ ws) s.heap.size = A at hD hX ⊢
  have hA : ∀ q : Nat, s.heap.size ≤ q → A q := fun q h => by rw [← hAe]; exact Or.inr h
  have hS : va_S A s.heap s.heap [] := va_S.rf
  have hl := lv_entry ([.ref h0, .int p1]) (n := 5) (Nat.le_of_ble_eq_true rfl)
  rw [lg_entry_eq]
  generalize (lg_sl ([.ref h0, .int p1]) ++ List.replicate (5 - (lg_sl ([.ref h0, .int p1])).length) Slot.unset).toArray = ls at hl ⊢
  have hl : lv_has ls 5 [(0, .ref h0), (1, .int p1)] := hl
  refine lv_iconst (v := 0) hx hb dX9_channelsIn_0 (by decide) ?_
  refine lv_istore_n (lv' := [(2, .int 0), (0, .ref h0), (1, .int p1)]) hx hb dX9_channelsIn_1 rfl hl (by decide) rfl (fun ls hl => ?_)
  refine lv_iconst (v := 0) hx hb dX9_channelsIn_2 (by decide) ?_
  refine lv_istore_n (lv' := [(3, .int 0), (2, .int 0), (0, .ref h0), (1, .int p1)]) hx hb dX9_channelsIn_3 rfl hl (by decide) rfl (fun ls hl => ?_)
  refine ty_loop (I := fun μ H locs ls => ∃ (ws : va_W) (y_1 : Int32) (y_2 : Int32), μ = (2147483648 - y_2.toInt).toNat ∧ ty_V ct S ph ws ∧ va_P D vwCl ([] ++ ws) H ∧ va_D A ([] ++ ws) ∧ va_S A s.heap H locs ∧ lv_has ls 5 [(0, .ref h0), (1, .int p1), (2, .int y_1), (3, .int y_2)]) ⟨_, ws, (0 : Int32), (0 : Int32), rfl, hT, hP, hD, hS, (lv_sub hl [2, 3, 1, 0] rfl)⟩ (fun μ H locs ls hI ih_4 => ?_)
  obtain ⟨ws, y_1, y_2, rfl, hT, hP, hD, hS, hl⟩ := hI
  refine lv_iload_n hx hb dX9_channelsIn_4 rfl (lv_at hl 3 rfl) ?_
  refine lv_aload_n hx hb dX9_channelsIn_5 rfl (lv_at hl 0 rfl) ?_
  refine ty_get (E := []) (ws := ws) (D := D) (ci := 9) (C := RX9) (T := TX9) (N := 8) hx hb hts in_X9 hown hK hP hT h_h0 rfl 4 (by decide) (hts _ kl_RX9_64) (fun _ h9 => h9) rfl dX9_channelsIn_6 (fun _ hv_3 hf_4 => ?_)
  obtain ⟨x_5, rfl⟩ := hv_3
  refine lv_icmp_ge (tgt := 45) hx hb dX9_channelsIn_9 (by decide) (fun hc_6 => ?_) (fun hc_6 => ?_)
  · refine lv_iload_n hx hb dX9_channelsIn_45 rfl (lv_at hl 2 rfl) ?_
    exact W.iret (v := y_1) hx hb hr (fun t ht hW => ⟨⟨y_1, ws, rfl, hT, by rw [ht]; exact hP, by rw [hAe]; exact hD⟩, hS.F ht⟩) hS.2.2 dX9_channelsIn_46
  · refine lv_aload_n hx hb dX9_channelsIn_12 rfl (lv_at hl 0 rfl) ?_
    refine lv_iload_n hx hb dX9_channelsIn_13 rfl (lv_at hl 3 rfl) ?_
    refine ty_kq (wr := []) (wc := ([] ++ ws)) (va_runV (As := [.int y_2]) (rest := []) ⟨hx, hb, hml, hown, hts⟩ (t_X9_channelAt l D ct S ws ph xx h0 y_2 _ hT h_h0 hph hy1) (cm_V 1 hts kc_X9_channelAt ki_RX9 kl_RX9_68 kv_X9_channelAt kx_X9_channelAt kd_X9_channelAt ⟨Nat.le_of_ble_eq_true rfl, Nat.le_of_ble_eq_true rfl⟩) (ty_preV (wr := []) (E := []) (ws := ws) (ci := 9) hP hK hD hS hA hX hT rfl h_h0) rfl rfl hl.1 rfl (lv_room (Nat.le_of_ble_eq_true rfl)) dX9_channelsIn_14 ⟨Nat.le_of_ble_eq_true rfl, Nat.le_of_ble_eq_true rfl⟩) hP hD hS hA (fun r_7 u H locs hw_8 hP hD hS => ?_)
    obtain ⟨ws_9, rfl⟩ : ∃ z, z = u := ⟨_, rfl⟩
    obtain ⟨hT, hq_10⟩ := hw_8
    have hP : va_P D vwCl ([] ++ ws_9) H := hP
    have hD : va_D A ([] ++ ws_9) := hD
    rcases hq_10 with rfl | ⟨a_11, rfl, ha_12⟩
    · refine W.eq (g2 := F0 m 17 ls (.null :: [])) rfl ?_
      refine lv_astoreN (lv' := [(4, .null), (0, .ref h0), (1, .int p1), (2, .int y_1), (3, .int y_2)]) hx hb dX9_channelsIn_17 hl (by decide) rfl (fun ls hl => ?_)
      refine lv_aloadN hx hb dX9_channelsIn_19 (lv_at hl 0 rfl) ?_
      refine lv_ifnullN (tgt := 39) hx hb dX9_channelsIn_21 (by decide) ?_
      refine lv_iinc (v := (y_2 + Int32.ofInt 1)) (lv' := [(3, .int (y_2 + Int32.ofInt 1)), (4, .null), (0, .ref h0), (1, .int p1), (2, .int y_1)]) hx hb dX9_channelsIn_39 hl (k := 4) rfl rfl (by decide) rfl (fun ls hl => ?_)
      refine lv_goto (tgt := 4) hx hb dX9_channelsIn_42 (by decide) ?_
      exact ih_4 _ _ _ _ (ty_inc (cm_lt hc_6)) ⟨ws_9, y_1, (y_2 + Int32.ofInt 1), rfl, hT, hP, hD, hS, (lv_sub hl [2, 3, 4, 0] rfl)⟩
    · refine W.eq (g2 := F0 m 17 ls (.ref a_11 :: [])) rfl ?_
      refine lv_astore (lv' := [(4, .ref a_11), (0, .ref h0), (1, .int p1), (2, .int y_1), (3, .int y_2)]) hx hb dX9_channelsIn_17 hl (by decide) rfl (fun ls hl => ?_)
      refine lv_aload hx hb dX9_channelsIn_19 (lv_at hl 0 rfl) ?_
      refine lv_ifnull hx hb dX9_channelsIn_21 ?_
      refine lv_aload hx hb dX9_channelsIn_24 (lv_at hl 0 rfl) ?_
      refine ty_getN (E := []) (ws := ws_9) (D := D) (ci := 1) (C := RX1) (T := TX1) (N := 14) hx hb hts in_X1 hown hK hP hT ha_12 rfl 3 (by decide) (hts _ kl_RX9_72) (fun _ h9 => h9) rfl dX9_channelsIn_26 (fun _ hv_13 hf_14 => ?_)
      obtain ⟨x_15, rfl⟩ := hv_13
      refine lv_iload_n hx hb dX9_channelsIn_29 rfl (lv_at hl 2 rfl) ?_
      refine lv_icmp_ne (tgt := 39) hx hb dX9_channelsIn_30 (by decide) (fun hc_16 => ?_) (fun hc_16 => ?_)
      · refine lv_iinc (v := (y_2 + Int32.ofInt 1)) (lv' := [(3, .int (y_2 + Int32.ofInt 1)), (4, .ref a_11), (0, .ref h0), (1, .int p1), (2, .int y_1)]) hx hb dX9_channelsIn_39 hl (k := 4) rfl rfl (by decide) rfl (fun ls hl => ?_)
        refine lv_goto (tgt := 4) hx hb dX9_channelsIn_42 (by decide) ?_
        exact ih_4 _ _ _ _ (ty_inc (cm_lt hc_6)) ⟨ws_9, y_1, (y_2 + Int32.ofInt 1), rfl, hT, hP, hD, hS, (lv_sub hl [2, 3, 4, 0] rfl)⟩
      · refine lv_iload_n hx hb dX9_channelsIn_33 rfl (lv_at hl 3 rfl) ?_
        refine lv_iconst (v := 1) hx hb dX9_channelsIn_34 (by decide) ?_
        refine lv_iload_n hx hb dX9_channelsIn_35 rfl (lv_at hl 4 rfl) ?_
        refine lv_ishl hx hb dX9_channelsIn_36 ?_
        refine lv_topi (fun x_17 _ => ?_)
        refine lv_ior hx hb dX9_channelsIn_37 ?_
        refine lv_topi (fun x_18 _ => ?_)
        refine lv_topi (fun x_19 _ => ?_)
        refine lv_istore_n (lv' := [(2, .int x_19), (4, .ref a_11), (0, .ref h0), (1, .int p1), (3, .int y_2)]) hx hb dX9_channelsIn_38 rfl hl (by decide) rfl (fun ls hl => ?_)
        refine lv_iinc (v := (y_2 + Int32.ofInt 1)) (lv' := [(3, .int (y_2 + Int32.ofInt 1)), (2, .int x_19), (4, .ref a_11), (0, .ref h0), (1, .int p1)]) hx hb dX9_channelsIn_39 hl (k := 4) rfl rfl (by decide) rfl (fun ls hl => ?_)
        refine lv_goto (tgt := 4) hx hb dX9_channelsIn_42 (by decide) ?_
        exact ih_4 _ _ _ _ (ty_inc (cm_lt hc_6)) ⟨ws_9, x_19, (y_2 + Int32.ofInt 1), rfl, hT, hP, hD, hS, (lv_sub hl [3, 4, 1, 0] rfl)⟩
theorem dX10_loadError_0 : decode cX10_loadError 0 = .ok (.aload_n 0, 1) := by decide +kernel
theorem dX10_loadError_1 : decode cX10_loadError 1 = .ok (.getfield 31, 3) := by decide +kernel
theorem dX10_loadError_4 : decode cX10_loadError 4 = .ok (.ireturn, 1) := by decide +kernel
set_option maxRecDepth 100000 in
set_option maxHeartbeats 4000000 in
theorem t_X10_loadError (l : Launch) (D : va_G) (ct : Nat → ClassId) (S : ty_S) (ws : va_W) (ph : va_W → Prop) (xx : Nat → Nat → Nat → Prop) (x : Nat) (w : Nat) (sp : Nat) (sv : Nat) (bu : Nat) (ns : Nat) (bl : Int32) (le : Int32) (sz : Nat) (hT : ty_V ct S ph ws) (h_w : S w = some (.inl 9)) (h_sp : S sp = some (.inl 9)) (h_sv : S sv = some (.inr (4, ns))) (hph : ty_C ph xx) (hy1 : ty_y1 xx) : Met l yX10_loadError (ws_ yX10_loadError cX10_loadError 1 (some .int)) ({ frames := 0, cells := 0, slots := 0, locals := 0 } : Room) (va_Pc [.ref x] (cmP D ct sz ([(ty_XO x w sp sv bu bl le)] ++ ws))) (va_Qi (fun (r : Int32) (u9 : va_W) => ty_V ct S ph u9) (cmB D ([(ty_XO x w sp sv bu bl le)] ++ ws) sz (fun (u9 : va_W) => ([(ty_XO x w sp sv bu bl le)] ++ u9))) (va_A ([(ty_XO x w sp sv bu bl le)] ++ ws) sz)) 0 0 (va_A ([(ty_XO x w sp sv bu bl le)] ++ ws) sz) := by
  refine Met.ofW (cc := cX10_loadError) (maxL := 1) (ret := (some .int)) (by decide) rfl ?_
  intro p e s m args below meth c s₁ B hml hv
  obtain ⟨rfl, hsz, hP, hK, hD0, hX⟩ := hv
  have hx := B.exec
  have hb := B.bytes
  have hr := B.returns
  have hts := ws_all (atoms_spec (ws := ws_ yX10_loadError cX10_loadError 1 (some .int)) B.pre)
  have hown : s.vm.findClass RX10 = some m.cls := findClass_of_methodNamed B.named
  have hlocks := B.notSynchronized
  subst hsz
  have hD := hD0.self (sz := s.heap.size)
  generalize hAe : va_A ([(ty_XO x w sp sv bu bl le)] ++ ws) s.heap.size = A at hD hX ⊢
  have hA : ∀ q : Nat, s.heap.size ≤ q → A q := fun q h => by rw [← hAe]; exact Or.inr h
  have hS : va_S A s.heap s.heap [] := va_S.rf
  have hl := lv_entry ([.ref x]) (n := 1) (Nat.le_of_ble_eq_true rfl)
  rw [lg_entry_eq]
  generalize (lg_sl ([.ref x]) ++ List.replicate (1 - (lg_sl ([.ref x])).length) Slot.unset).toArray = ls at hl ⊢
  have hl : lv_has ls 1 [(0, .ref x)] := hl
  refine lv_aload_n hx hb dX10_loadError_0 rfl (lv_at hl 0 rfl) ?_
  refine va_get (v := .int le) (D := D) (ci := 10) (C := RX10) (T := TX10) (N := 6) hx hb hts in_X10 hown hK hP 0 rfl rfl 5 (by decide) (hts _ kl_RX10_31) (fun _ h9 => h9) rfl dX10_loadError_1 ?_
  exact W.iret (v := le) hx hb hr (fun t ht hW => ⟨⟨le, ws, rfl, hT, by rw [ht]; exact hP, by rw [hAe]; exact hD⟩, hS.F ht⟩) hS.2.2 dX10_loadError_4
theorem dX10_now_0 : decode cX10_now 0 = .ok (.aload_n 0, 1) := by decide +kernel
theorem dX10_now_1 : decode cX10_now 1 = .ok (.getfield 10, 3) := by decide +kernel
theorem dX10_now_4 : decode cX10_now 4 = .ok (.getfield 164, 3) := by decide +kernel
theorem dX10_now_7 : decode cX10_now 7 = .ok (.ireturn, 1) := by decide +kernel
set_option maxRecDepth 100000 in
set_option maxHeartbeats 4000000 in
theorem t_X10_now (l : Launch) (D : va_G) (ct : Nat → ClassId) (S : ty_S) (ws : va_W) (ph : va_W → Prop) (xx : Nat → Nat → Nat → Prop) (x : Nat) (w : Nat) (sp : Nat) (sv : Nat) (bu : Nat) (ns : Nat) (bl : Int32) (le : Int32) (sz : Nat) (hT : ty_V ct S ph ws) (h_w : S w = some (.inl 9)) (h_sp : S sp = some (.inl 9)) (h_sv : S sv = some (.inr (4, ns))) (hph : ty_C ph xx) (hy1 : ty_y1 xx) : Met l yX10_now (ws_ yX10_now cX10_now 1 (some .int)) ({ frames := 0, cells := 0, slots := 0, locals := 0 } : Room) (va_Pc [.ref x] (cmP D ct sz ([(ty_XO x w sp sv bu bl le)] ++ ws))) (va_Qi (fun (r : Int32) (u9 : va_W) => ty_V ct S ph u9) (cmB D ([(ty_XO x w sp sv bu bl le)] ++ ws) sz (fun (u9 : va_W) => ([(ty_XO x w sp sv bu bl le)] ++ u9))) (va_A ([(ty_XO x w sp sv bu bl le)] ++ ws) sz)) 0 0 (va_A ([(ty_XO x w sp sv bu bl le)] ++ ws) sz) := by
  refine Met.ofW (cc := cX10_now) (maxL := 1) (ret := (some .int)) (by decide) rfl ?_
  intro p e s m args below meth c s₁ B hml hv
  obtain ⟨rfl, hsz, hP, hK, hD0, hX⟩ := hv
  have hx := B.exec
  have hb := B.bytes
  have hr := B.returns
  have hts := ws_all (atoms_spec (ws := ws_ yX10_now cX10_now 1 (some .int)) B.pre)
  have hown : s.vm.findClass RX10 = some m.cls := findClass_of_methodNamed B.named
  have hlocks := B.notSynchronized
  subst hsz
  have hD := hD0.self (sz := s.heap.size)
  generalize hAe : va_A ([(ty_XO x w sp sv bu bl le)] ++ ws) s.heap.size = A at hD hX ⊢
  have hA : ∀ q : Nat, s.heap.size ≤ q → A q := fun q h => by rw [← hAe]; exact Or.inr h
  have hS : va_S A s.heap s.heap [] := va_S.rf
  have hl := lv_entry ([.ref x]) (n := 1) (Nat.le_of_ble_eq_true rfl)
  rw [lg_entry_eq]
  generalize (lg_sl ([.ref x]) ++ List.replicate (1 - (lg_sl ([.ref x])).length) Slot.unset).toArray = ls at hl ⊢
  have hl : lv_has ls 1 [(0, .ref x)] := hl
  refine lv_aload_n hx hb dX10_now_0 rfl (lv_at hl 0 rfl) ?_
  refine va_get (v := .ref w) (D := D) (ci := 10) (C := RX10) (T := TX10) (N := 6) hx hb hts in_X10 hown hK hP 0 rfl rfl 0 (by decide) (hts _ kl_RX10_10) (fun _ h9 => h9) rfl dX10_now_1 ?_
  refine ty_getN (E := [(ty_XO x w sp sv bu bl le)]) (ws := ws) (D := D) (ci := 9) (C := RX9) (T := TX9) (N := 8) hx hb hts in_X9 hown hK hP hT h_w rfl 0 (by decide) (hts _ kl_RX10_164) (fun _ h9 => h9) rfl dX10_now_4 (fun _ hv_1 hf_2 => ?_)
  obtain ⟨x_3, rfl⟩ := hv_1
  exact W.iret (v := x_3) hx hb hr (fun t ht hW => ⟨⟨x_3, ws, rfl, hT, by rw [ht]; exact hP, by rw [hAe]; exact hD⟩, hS.F ht⟩) hS.2.2 dX10_now_7
theorem dX10_hottest_0 : decode cX10_hottest 0 = .ok (.iconst (-1), 1) := by decide +kernel
theorem dX10_hottest_1 : decode cX10_hottest 1 = .ok (.istore_n 1, 1) := by decide +kernel
theorem dX10_hottest_2 : decode cX10_hottest 2 = .ok (.iconst 0, 1) := by decide +kernel
theorem dX10_hottest_3 : decode cX10_hottest 3 = .ok (.istore_n 2, 1) := by decide +kernel
theorem dX10_hottest_4 : decode cX10_hottest 4 = .ok (.iconst 0, 1) := by decide +kernel
theorem dX10_hottest_5 : decode cX10_hottest 5 = .ok (.istore_n 3, 1) := by decide +kernel
theorem dX10_hottest_6 : decode cX10_hottest 6 = .ok (.iload_n 3, 1) := by decide +kernel
theorem dX10_hottest_7 : decode cX10_hottest 7 = .ok (.aload_n 0, 1) := by decide +kernel
theorem dX10_hottest_8 : decode cX10_hottest 8 = .ok (.getfield 10, 3) := by decide +kernel
theorem dX10_hottest_11 : decode cX10_hottest 11 = .ok (.getfield 64, 3) := by decide +kernel
theorem dX10_hottest_14 : decode cX10_hottest 14 = .ok (.if_icmp .ge 52, 3) := by decide +kernel
theorem dX10_hottest_17 : decode cX10_hottest 17 = .ok (.aload_n 0, 1) := by decide +kernel
theorem dX10_hottest_18 : decode cX10_hottest 18 = .ok (.getfield 10, 3) := by decide +kernel
theorem dX10_hottest_21 : decode cX10_hottest 21 = .ok (.iload_n 3, 1) := by decide +kernel
theorem dX10_hottest_22 : decode cX10_hottest 22 = .ok (.invokevirtual 125, 3) := by decide +kernel
theorem dX10_hottest_25 : decode cX10_hottest 25 = .ok (.astore 4, 2) := by decide +kernel
theorem dX10_hottest_27 : decode cX10_hottest 27 = .ok (.aload 4, 2) := by decide +kernel
theorem dX10_hottest_29 : decode cX10_hottest 29 = .ok (.ifnull 31, 3) := by decide +kernel
theorem dX10_hottest_32 : decode cX10_hottest 32 = .ok (.iload_n 1, 1) := by decide +kernel
theorem dX10_hottest_33 : decode cX10_hottest 33 = .ok (.iconst (-1), 1) := by decide +kernel
theorem dX10_hottest_34 : decode cX10_hottest 34 = .ok (.if_icmp .eq 15, 3) := by decide +kernel
theorem dX10_hottest_37 : decode cX10_hottest 37 = .ok (.aload 4, 2) := by decide +kernel
theorem dX10_hottest_39 : decode cX10_hottest 39 = .ok (.getfield 134, 3) := by decide +kernel
theorem dX10_hottest_42 : decode cX10_hottest 42 = .ok (.getfield 299, 3) := by decide +kernel
theorem dX10_hottest_45 : decode cX10_hottest 45 = .ok (.iload_n 2, 1) := by decide +kernel
theorem dX10_hottest_46 : decode cX10_hottest 46 = .ok (.if_icmp .le 14, 3) := by decide +kernel
theorem dX10_hottest_49 : decode cX10_hottest 49 = .ok (.iload_n 3, 1) := by decide +kernel
theorem dX10_hottest_50 : decode cX10_hottest 50 = .ok (.istore_n 1, 1) := by decide +kernel
theorem dX10_hottest_51 : decode cX10_hottest 51 = .ok (.aload 4, 2) := by decide +kernel
theorem dX10_hottest_53 : decode cX10_hottest 53 = .ok (.getfield 134, 3) := by decide +kernel
theorem dX10_hottest_56 : decode cX10_hottest 56 = .ok (.getfield 299, 3) := by decide +kernel
theorem dX10_hottest_59 : decode cX10_hottest 59 = .ok (.istore_n 2, 1) := by decide +kernel
theorem dX10_hottest_60 : decode cX10_hottest 60 = .ok (.iinc 3 1, 3) := by decide +kernel
theorem dX10_hottest_63 : decode cX10_hottest 63 = .ok (.goto (-57), 3) := by decide +kernel
theorem dX10_hottest_66 : decode cX10_hottest 66 = .ok (.iload_n 1, 1) := by decide +kernel
theorem dX10_hottest_67 : decode cX10_hottest 67 = .ok (.ireturn, 1) := by decide +kernel
set_option maxRecDepth 100000 in
set_option maxHeartbeats 4000000 in
theorem t_X10_hottest (l : Launch) (D : va_G) (ct : Nat → ClassId) (S : ty_S) (ws : va_W) (ph : va_W → Prop) (xx : Nat → Nat → Nat → Prop) (x : Nat) (w : Nat) (sp : Nat) (sv : Nat) (bu : Nat) (ns : Nat) (bl : Int32) (le : Int32) (sz : Nat) (hT : ty_V ct S ph ws) (h_w : S w = some (.inl 9)) (h_sp : S sp = some (.inl 9)) (h_sv : S sv = some (.inr (4, ns))) (hph : ty_C ph xx) (hy1 : ty_y1 xx) : Met l yX10_hottest (ws_ yX10_hottest cX10_hottest 5 (some .int)) ({ frames := 1, cells := 0, slots := 0, locals := 21 } : Room) (va_Pc [.ref x] (cmP D ct sz ([(ty_XO x w sp sv bu bl le)] ++ ws))) (va_Qi (fun (r : Int32) (u9 : va_W) => ty_V ct S ph u9) (cmB D ([(ty_XO x w sp sv bu bl le)] ++ ws) sz (fun (u9 : va_W) => ([(ty_XO x w sp sv bu bl le)] ++ u9))) (va_A ([(ty_XO x w sp sv bu bl le)] ++ ws) sz)) 0 0 (va_A ([(ty_XO x w sp sv bu bl le)] ++ ws) sz) := by
  refine Met.ofW (cc := cX10_hottest) (maxL := 5) (ret := (some .int)) (by decide) rfl ?_
  intro p e s m args below meth c s₁ B hml hv
  obtain ⟨rfl, hsz, hP, hK, hD0, hX⟩ := hv
  have hx := B.exec
  have hb := B.bytes
  have hr := B.returns
  have hts := ws_all (atoms_spec (ws := ws_ yX10_hottest cX10_hottest 5 (some .int)) B.pre)
  have hown : s.vm.findClass RX10 = some m.cls := findClass_of_methodNamed B.named
  have hlocks := B.notSynchronized
  subst hsz
  have hD := hD0.self (sz := s.heap.size)
  generalize hAe : va_A ([(ty_XO x w sp sv bu bl le)] ++ ws) s.heap.size = A at hD hX ⊢
  have hA : ∀ q : Nat, s.heap.size ≤ q → A q := fun q h => by rw [← hAe]; exact Or.inr h
  have hS : va_S A s.heap s.heap [] := va_S.rf
  have hl := lv_entry ([.ref x]) (n := 5) (Nat.le_of_ble_eq_true rfl)
  rw [lg_entry_eq]
  generalize (lg_sl ([.ref x]) ++ List.replicate (5 - (lg_sl ([.ref x])).length) Slot.unset).toArray = ls at hl ⊢
  have hl : lv_has ls 5 [(0, .ref x)] := hl
  refine lv_iconst (v := (-1)) hx hb dX10_hottest_0 (by decide) ?_
  refine lv_istore_n (lv' := [(1, .int (-1)), (0, .ref x)]) hx hb dX10_hottest_1 rfl hl (by decide) rfl (fun ls hl => ?_)
  refine lv_iconst (v := 0) hx hb dX10_hottest_2 (by decide) ?_
  refine lv_istore_n (lv' := [(2, .int 0), (1, .int (-1)), (0, .ref x)]) hx hb dX10_hottest_3 rfl hl (by decide) rfl (fun ls hl => ?_)
  refine lv_iconst (v := 0) hx hb dX10_hottest_4 (by decide) ?_
  refine lv_istore_n (lv' := [(3, .int 0), (2, .int 0), (1, .int (-1)), (0, .ref x)]) hx hb dX10_hottest_5 rfl hl (by decide) rfl (fun ls hl => ?_)
  refine ty_loop (I := fun μ H locs ls => ∃ (ws : va_W) (y_1 : Int32) (y_2 : Int32) (y_3 : Int32), μ = (2147483648 - y_3.toInt).toNat ∧ ty_V ct S ph ws ∧ va_P D vwCl ([(ty_XO x w sp sv bu bl le)] ++ ws) H ∧ va_D A ([(ty_XO x w sp sv bu bl le)] ++ ws) ∧ va_S A s.heap H locs ∧ lv_has ls 5 [(0, .ref x), (1, .int y_1), (2, .int y_2), (3, .int y_3)]) ⟨_, ws, ((-1) : Int32), (0 : Int32), (0 : Int32), rfl, hT, hP, hD, hS, (lv_sub hl [3, 2, 1, 0] rfl)⟩ (fun μ H locs ls hI ih_6 => ?_)
  obtain ⟨ws, y_1, y_2, y_3, rfl, hT, hP, hD, hS, hl⟩ := hI
  refine lv_iload_n hx hb dX10_hottest_6 rfl (lv_at hl 3 rfl) ?_
  refine lv_aload_n hx hb dX10_hottest_7 rfl (lv_at hl 0 rfl) ?_
  refine va_get (v := .ref w) (D := D) (ci := 10) (C := RX10) (T := TX10) (N := 6) hx hb hts in_X10 hown hK hP 0 rfl rfl 0 (by decide) (hts _ kl_RX10_10) (fun _ h9 => h9) rfl dX10_hottest_8 ?_
  refine ty_getN (E := [(ty_XO x w sp sv bu bl le)]) (ws := ws) (D := D) (ci := 9) (C := RX9) (T := TX9) (N := 8) hx hb hts in_X9 hown hK hP hT h_w rfl 4 (by decide) (hts _ kl_RX10_64) (fun _ h9 => h9) rfl dX10_hottest_11 (fun _ hv_4 hf_5 => ?_)
  obtain ⟨x_6, rfl⟩ := hv_4
  refine lv_icmp_ge (tgt := 66) hx hb dX10_hottest_14 (by decide) (fun hc_7 => ?_) (fun hc_7 => ?_)
  · refine lv_iload_n hx hb dX10_hottest_66 rfl (lv_at hl 1 rfl) ?_
    exact W.iret (v := y_1) hx hb hr (fun t ht hW => ⟨⟨y_1, ws, rfl, hT, by rw [ht]; exact hP, by rw [hAe]; exact hD⟩, hS.F ht⟩) hS.2.2 dX10_hottest_67
  · refine lv_aload_n hx hb dX10_hottest_17 rfl (lv_at hl 0 rfl) ?_
    refine va_get (v := .ref w) (D := D) (ci := 10) (C := RX10) (T := TX10) (N := 6) hx hb hts in_X10 hown hK hP 0 rfl rfl 0 (by decide) (hts _ kl_RX10_10) (fun _ h9 => h9) rfl dX10_hottest_18 ?_
    refine lv_iload_n hx hb dX10_hottest_21 rfl (lv_at hl 3 rfl) ?_
    refine ty_kq (wr := [(ty_XO x w sp sv bu bl le)]) (wc := ([] ++ ws)) (va_runVN (As := [.int y_3]) (rest := []) ⟨hx, hb, hml, hown, hts⟩ (t_X9_channelAt l D ct S ws ph xx w y_3 _ hT h_w hph hy1) (cm_VN 1 hts kc_X9_channelAt ki_RX9 kl_RX10_125 kv_X9_channelAt kx_X9_channelAt kd_X9_channelAt ⟨Nat.le_of_ble_eq_true rfl, Nat.le_of_ble_eq_true rfl⟩) (ty_preV (wr := [(ty_XO x w sp sv bu bl le)]) (E := []) (ws := ws) (ci := 9) hP hK hD hS hA hX hT rfl h_w) rfl rfl hl.1 rfl (lv_room (Nat.le_of_ble_eq_true rfl)) dX10_hottest_22 ⟨Nat.le_of_ble_eq_true rfl, Nat.le_of_ble_eq_true rfl⟩) hP hD hS hA (fun r_8 u H locs hw_9 hP hD hS => ?_)
    obtain ⟨ws_10, rfl⟩ : ∃ z, z = u := ⟨_, rfl⟩
    obtain ⟨hT, hq_11⟩ := hw_9
    have hP : va_P D vwCl ([(ty_XO x w sp sv bu bl le)] ++ ws_10) H := hP
    have hD : va_D A ([(ty_XO x w sp sv bu bl le)] ++ ws_10) := hD
    rcases hq_11 with rfl | ⟨a_12, rfl, ha_13⟩
    · refine W.eq (g2 := F0 m 25 ls (.null :: [])) rfl ?_
      refine lv_astoreN (lv' := [(4, .null), (0, .ref x), (1, .int y_1), (2, .int y_2), (3, .int y_3)]) hx hb dX10_hottest_25 hl (by decide) rfl (fun ls hl => ?_)
      refine lv_aloadN hx hb dX10_hottest_27 (lv_at hl 0 rfl) ?_
      refine lv_ifnullN (tgt := 60) hx hb dX10_hottest_29 (by decide) ?_
      refine lv_iinc (v := (y_3 + Int32.ofInt 1)) (lv' := [(3, .int (y_3 + Int32.ofInt 1)), (4, .null), (0, .ref x), (1, .int y_1), (2, .int y_2)]) hx hb dX10_hottest_60 hl (k := 4) rfl rfl (by decide) rfl (fun ls hl => ?_)
      refine lv_goto (tgt := 6) hx hb dX10_hottest_63 (by decide) ?_
      exact ih_6 _ _ _ _ (ty_inc (cm_lt hc_7)) ⟨ws_10, y_1, y_2, (y_3 + Int32.ofInt 1), rfl, hT, hP, hD, hS, (lv_sub hl [2, 3, 4, 0] rfl)⟩
    · refine W.eq (g2 := F0 m 25 ls (.ref a_12 :: [])) rfl ?_
      refine lv_astore (lv' := [(4, .ref a_12), (0, .ref x), (1, .int y_1), (2, .int y_2), (3, .int y_3)]) hx hb dX10_hottest_25 hl (by decide) rfl (fun ls hl => ?_)
      refine lv_aload hx hb dX10_hottest_27 (lv_at hl 0 rfl) ?_
      refine lv_ifnull hx hb dX10_hottest_29 ?_
      refine lv_iload_n hx hb dX10_hottest_32 rfl (lv_at hl 2 rfl) ?_
      refine lv_iconst (v := (-1)) hx hb dX10_hottest_33 (by decide) ?_
      refine lv_icmp_eq (tgt := 49) hx hb dX10_hottest_34 (by decide) (fun hc_14 => ?_) (fun hc_14 => ?_)
      · refine lv_iload_n hx hb dX10_hottest_49 rfl (lv_at hl 4 rfl) ?_
        refine lv_istore_n (lv' := [(1, .int y_3), (4, .ref a_12), (0, .ref x), (2, .int y_2), (3, .int y_3)]) hx hb dX10_hottest_50 rfl hl (by decide) rfl (fun ls hl => ?_)
        refine lv_aload hx hb dX10_hottest_51 (lv_at hl 1 rfl) ?_
        refine ty_getN (E := [(ty_XO x w sp sv bu bl le)]) (ws := ws_10) (D := D) (ci := 1) (C := RX1) (T := TX1) (N := 14) hx hb hts in_X1 hown hK hP hT ha_13 rfl 1 (by decide) (hts _ kl_RX10_134) (fun _ h9 => h9) rfl dX10_hottest_53 (fun _ hv_15 hf_16 => ?_)
        obtain ⟨a_17, rfl, ha_18⟩ := hv_15
        refine ty_getN (E := [(ty_XO x w sp sv bu bl le)]) (ws := ws_10) (D := D) (ci := 0) (C := RX0) (T := TX0) (N := 16) hx hb hts in_X0 hown hK hP hT ha_18 rfl 11 (by decide) (hts _ kl_RX10_299) (fun _ h9 => h9) rfl dX10_hottest_56 (fun _ hv_19 hf_20 => ?_)
        obtain ⟨x_21, rfl⟩ := hv_19
        refine lv_istore_n (lv' := [(2, .int x_21), (1, .int y_3), (4, .ref a_12), (0, .ref x), (3, .int y_3)]) hx hb dX10_hottest_59 rfl hl (by decide) rfl (fun ls hl => ?_)
        refine lv_iinc (v := (y_3 + Int32.ofInt 1)) (lv' := [(3, .int (y_3 + Int32.ofInt 1)), (2, .int x_21), (1, .int y_3), (4, .ref a_12), (0, .ref x)]) hx hb dX10_hottest_60 hl (k := 4) rfl rfl (by decide) rfl (fun ls hl => ?_)
        refine lv_goto (tgt := 6) hx hb dX10_hottest_63 (by decide) ?_
        exact ih_6 _ _ _ _ (ty_inc (cm_lt hc_7)) ⟨ws_10, y_3, x_21, (y_3 + Int32.ofInt 1), rfl, hT, hP, hD, hS, (lv_sub hl [4, 2, 1, 0] rfl)⟩
      · refine lv_aload hx hb dX10_hottest_37 (lv_at hl 0 rfl) ?_
        refine ty_getN (E := [(ty_XO x w sp sv bu bl le)]) (ws := ws_10) (D := D) (ci := 1) (C := RX1) (T := TX1) (N := 14) hx hb hts in_X1 hown hK hP hT ha_13 rfl 1 (by decide) (hts _ kl_RX10_134) (fun _ h9 => h9) rfl dX10_hottest_39 (fun _ hv_22 hf_23 => ?_)
        obtain ⟨a_24, rfl, ha_25⟩ := hv_22
        refine ty_getN (E := [(ty_XO x w sp sv bu bl le)]) (ws := ws_10) (D := D) (ci := 0) (C := RX0) (T := TX0) (N := 16) hx hb hts in_X0 hown hK hP hT ha_25 rfl 11 (by decide) (hts _ kl_RX10_299) (fun _ h9 => h9) rfl dX10_hottest_42 (fun _ hv_26 hf_27 => ?_)
        obtain ⟨x_28, rfl⟩ := hv_26
        refine lv_iload_n hx hb dX10_hottest_45 rfl (lv_at hl 3 rfl) ?_
        refine lv_icmp_le (tgt := 60) hx hb dX10_hottest_46 (by decide) (fun hc_29 => ?_) (fun hc_29 => ?_)
        · refine lv_iinc (v := (y_3 + Int32.ofInt 1)) (lv' := [(3, .int (y_3 + Int32.ofInt 1)), (4, .ref a_12), (0, .ref x), (1, .int y_1), (2, .int y_2)]) hx hb dX10_hottest_60 hl (k := 4) rfl rfl (by decide) rfl (fun ls hl => ?_)
          refine lv_goto (tgt := 6) hx hb dX10_hottest_63 (by decide) ?_
          exact ih_6 _ _ _ _ (ty_inc (cm_lt hc_7)) ⟨ws_10, y_1, y_2, (y_3 + Int32.ofInt 1), rfl, hT, hP, hD, hS, (lv_sub hl [2, 3, 4, 0] rfl)⟩
        · refine lv_iload_n hx hb dX10_hottest_49 rfl (lv_at hl 4 rfl) ?_
          refine lv_istore_n (lv' := [(1, .int y_3), (4, .ref a_12), (0, .ref x), (2, .int y_2), (3, .int y_3)]) hx hb dX10_hottest_50 rfl hl (by decide) rfl (fun ls hl => ?_)
          refine lv_aload hx hb dX10_hottest_51 (lv_at hl 1 rfl) ?_
          refine ty_getN (E := [(ty_XO x w sp sv bu bl le)]) (ws := ws_10) (D := D) (ci := 1) (C := RX1) (T := TX1) (N := 14) hx hb hts in_X1 hown hK hP hT ha_13 rfl 1 (by decide) (hts _ kl_RX10_134) (fun _ h9 => h9) rfl dX10_hottest_53 (fun _ hv_30 hf_31 => ?_)
          obtain ⟨a_32, rfl, ha_33⟩ := hv_30
          refine ty_getN (E := [(ty_XO x w sp sv bu bl le)]) (ws := ws_10) (D := D) (ci := 0) (C := RX0) (T := TX0) (N := 16) hx hb hts in_X0 hown hK hP hT ha_33 rfl 11 (by decide) (hts _ kl_RX10_299) (fun _ h9 => h9) rfl dX10_hottest_56 (fun _ hv_34 hf_35 => ?_)
          obtain ⟨x_36, rfl⟩ := hv_34
          refine lv_istore_n (lv' := [(2, .int x_36), (1, .int y_3), (4, .ref a_12), (0, .ref x), (3, .int y_3)]) hx hb dX10_hottest_59 rfl hl (by decide) rfl (fun ls hl => ?_)
          refine lv_iinc (v := (y_3 + Int32.ofInt 1)) (lv' := [(3, .int (y_3 + Int32.ofInt 1)), (2, .int x_36), (1, .int y_3), (4, .ref a_12), (0, .ref x)]) hx hb dX10_hottest_60 hl (k := 4) rfl rfl (by decide) rfl (fun ls hl => ?_)
          refine lv_goto (tgt := 6) hx hb dX10_hottest_63 (by decide) ?_
          exact ih_6 _ _ _ _ (ty_inc (cm_lt hc_7)) ⟨ws_10, y_3, x_36, (y_3 + Int32.ofInt 1), rfl, hT, hP, hD, hS, (lv_sub hl [4, 2, 1, 0] rfl)⟩
theorem dX10_recordCount_0 : decode cX10_recordCount 0 = .ok (.aload_n 0, 1) := by decide +kernel
theorem dX10_recordCount_1 : decode cX10_recordCount 1 = .ok (.getfield 10, 3) := by decide +kernel
theorem dX10_recordCount_4 : decode cX10_recordCount 4 = .ok (.getfield 302, 3) := by decide +kernel
theorem dX10_recordCount_7 : decode cX10_recordCount 7 = .ok (.getfield 306, 3) := by decide +kernel
theorem dX10_recordCount_10 : decode cX10_recordCount 10 = .ok (.ireturn, 1) := by decide +kernel
set_option maxRecDepth 100000 in
set_option maxHeartbeats 4000000 in
theorem t_X10_recordCount (l : Launch) (D : va_G) (ct : Nat → ClassId) (S : ty_S) (ws : va_W) (ph : va_W → Prop) (xx : Nat → Nat → Nat → Prop) (x : Nat) (w : Nat) (sp : Nat) (sv : Nat) (bu : Nat) (ns : Nat) (bl : Int32) (le : Int32) (sz : Nat) (hT : ty_V ct S ph ws) (h_w : S w = some (.inl 9)) (h_sp : S sp = some (.inl 9)) (h_sv : S sv = some (.inr (4, ns))) (hph : ty_C ph xx) (hy1 : ty_y1 xx) : Met l yX10_recordCount (ws_ yX10_recordCount cX10_recordCount 1 (some .int)) ({ frames := 0, cells := 0, slots := 0, locals := 0 } : Room) (va_Pc [.ref x] (cmP D ct sz ([(ty_XO x w sp sv bu bl le)] ++ ws))) (va_Qi (fun (r : Int32) (u9 : va_W) => ty_V ct S ph u9) (cmB D ([(ty_XO x w sp sv bu bl le)] ++ ws) sz (fun (u9 : va_W) => ([(ty_XO x w sp sv bu bl le)] ++ u9))) (va_A ([(ty_XO x w sp sv bu bl le)] ++ ws) sz)) 0 0 (va_A ([(ty_XO x w sp sv bu bl le)] ++ ws) sz) := by
  refine Met.ofW (cc := cX10_recordCount) (maxL := 1) (ret := (some .int)) (by decide) rfl ?_
  intro p e s m args below meth c s₁ B hml hv
  obtain ⟨rfl, hsz, hP, hK, hD0, hX⟩ := hv
  have hx := B.exec
  have hb := B.bytes
  have hr := B.returns
  have hts := ws_all (atoms_spec (ws := ws_ yX10_recordCount cX10_recordCount 1 (some .int)) B.pre)
  have hown : s.vm.findClass RX10 = some m.cls := findClass_of_methodNamed B.named
  have hlocks := B.notSynchronized
  subst hsz
  have hD := hD0.self (sz := s.heap.size)
  generalize hAe : va_A ([(ty_XO x w sp sv bu bl le)] ++ ws) s.heap.size = A at hD hX ⊢
  have hA : ∀ q : Nat, s.heap.size ≤ q → A q := fun q h => by rw [← hAe]; exact Or.inr h
  have hS : va_S A s.heap s.heap [] := va_S.rf
  have hl := lv_entry ([.ref x]) (n := 1) (Nat.le_of_ble_eq_true rfl)
  rw [lg_entry_eq]
  generalize (lg_sl ([.ref x]) ++ List.replicate (1 - (lg_sl ([.ref x])).length) Slot.unset).toArray = ls at hl ⊢
  have hl : lv_has ls 1 [(0, .ref x)] := hl
  refine lv_aload_n hx hb dX10_recordCount_0 rfl (lv_at hl 0 rfl) ?_
  refine va_get (v := .ref w) (D := D) (ci := 10) (C := RX10) (T := TX10) (N := 6) hx hb hts in_X10 hown hK hP 0 rfl rfl 0 (by decide) (hts _ kl_RX10_10) (fun _ h9 => h9) rfl dX10_recordCount_1 ?_
  refine ty_getN (E := [(ty_XO x w sp sv bu bl le)]) (ws := ws) (D := D) (ci := 9) (C := RX9) (T := TX9) (N := 8) hx hb hts in_X9 hown hK hP hT h_w rfl 6 (by decide) (hts _ kl_RX10_302) (fun _ h9 => h9) rfl dX10_recordCount_4 (fun _ hv_1 hf_2 => ?_)
  obtain ⟨a_3, rfl, ha_4⟩ := hv_1
  refine ty_getN (E := [(ty_XO x w sp sv bu bl le)]) (ws := ws) (D := D) (ci := 8) (C := RX8) (T := TX8) (N := 5) hx hb hts in_X8 hown hK hP hT ha_4 rfl 4 (by decide) (hts _ kl_RX10_306) (fun _ h9 => h9) rfl dX10_recordCount_7 (fun _ hv_5 hf_6 => ?_)
  obtain ⟨x_7, rfl⟩ := hv_5
  exact W.iret (v := x_7) hx hb hr (fun t ht hW => ⟨⟨x_7, ws, rfl, hT, by rw [ht]; exact hP, by rw [hAe]; exact hD⟩, hS.F ht⟩) hS.2.2 dX10_recordCount_10
theorem dX10_logSize_0 : decode cX10_logSize 0 = .ok (.aload_n 0, 1) := by decide +kernel
theorem dX10_logSize_1 : decode cX10_logSize 1 = .ok (.getfield 10, 3) := by decide +kernel
theorem dX10_logSize_4 : decode cX10_logSize 4 = .ok (.getfield 318, 3) := by decide +kernel
theorem dX10_logSize_7 : decode cX10_logSize 7 = .ok (.getfield 306, 3) := by decide +kernel
theorem dX10_logSize_10 : decode cX10_logSize 10 = .ok (.ireturn, 1) := by decide +kernel
set_option maxRecDepth 100000 in
set_option maxHeartbeats 4000000 in
theorem t_X10_logSize (l : Launch) (D : va_G) (ct : Nat → ClassId) (S : ty_S) (ws : va_W) (ph : va_W → Prop) (xx : Nat → Nat → Nat → Prop) (x : Nat) (w : Nat) (sp : Nat) (sv : Nat) (bu : Nat) (ns : Nat) (bl : Int32) (le : Int32) (sz : Nat) (hT : ty_V ct S ph ws) (h_w : S w = some (.inl 9)) (h_sp : S sp = some (.inl 9)) (h_sv : S sv = some (.inr (4, ns))) (hph : ty_C ph xx) (hy1 : ty_y1 xx) : Met l yX10_logSize (ws_ yX10_logSize cX10_logSize 1 (some .int)) ({ frames := 0, cells := 0, slots := 0, locals := 0 } : Room) (va_Pc [.ref x] (cmP D ct sz ([(ty_XO x w sp sv bu bl le)] ++ ws))) (va_Qi (fun (r : Int32) (u9 : va_W) => ty_V ct S ph u9) (cmB D ([(ty_XO x w sp sv bu bl le)] ++ ws) sz (fun (u9 : va_W) => ([(ty_XO x w sp sv bu bl le)] ++ u9))) (va_A ([(ty_XO x w sp sv bu bl le)] ++ ws) sz)) 0 0 (va_A ([(ty_XO x w sp sv bu bl le)] ++ ws) sz) := by
  refine Met.ofW (cc := cX10_logSize) (maxL := 1) (ret := (some .int)) (by decide) rfl ?_
  intro p e s m args below meth c s₁ B hml hv
  obtain ⟨rfl, hsz, hP, hK, hD0, hX⟩ := hv
  have hx := B.exec
  have hb := B.bytes
  have hr := B.returns
  have hts := ws_all (atoms_spec (ws := ws_ yX10_logSize cX10_logSize 1 (some .int)) B.pre)
  have hown : s.vm.findClass RX10 = some m.cls := findClass_of_methodNamed B.named
  have hlocks := B.notSynchronized
  subst hsz
  have hD := hD0.self (sz := s.heap.size)
  generalize hAe : va_A ([(ty_XO x w sp sv bu bl le)] ++ ws) s.heap.size = A at hD hX ⊢
  have hA : ∀ q : Nat, s.heap.size ≤ q → A q := fun q h => by rw [← hAe]; exact Or.inr h
  have hS : va_S A s.heap s.heap [] := va_S.rf
  have hl := lv_entry ([.ref x]) (n := 1) (Nat.le_of_ble_eq_true rfl)
  rw [lg_entry_eq]
  generalize (lg_sl ([.ref x]) ++ List.replicate (1 - (lg_sl ([.ref x])).length) Slot.unset).toArray = ls at hl ⊢
  have hl : lv_has ls 1 [(0, .ref x)] := hl
  refine lv_aload_n hx hb dX10_logSize_0 rfl (lv_at hl 0 rfl) ?_
  refine va_get (v := .ref w) (D := D) (ci := 10) (C := RX10) (T := TX10) (N := 6) hx hb hts in_X10 hown hK hP 0 rfl rfl 0 (by decide) (hts _ kl_RX10_10) (fun _ h9 => h9) rfl dX10_logSize_1 ?_
  refine ty_getN (E := [(ty_XO x w sp sv bu bl le)]) (ws := ws) (D := D) (ci := 9) (C := RX9) (T := TX9) (N := 8) hx hb hts in_X9 hown hK hP hT h_w rfl 7 (by decide) (hts _ kl_RX10_318) (fun _ h9 => h9) rfl dX10_logSize_4 (fun _ hv_1 hf_2 => ?_)
  obtain ⟨a_3, rfl, ha_4⟩ := hv_1
  refine ty_getN (E := [(ty_XO x w sp sv bu bl le)]) (ws := ws) (D := D) (ci := 8) (C := RX8) (T := TX8) (N := 5) hx hb hts in_X8 hown hK hP hT ha_4 rfl 4 (by decide) (hts _ kl_RX10_306) (fun _ h9 => h9) rfl dX10_logSize_7 (fun _ hv_5 hf_6 => ?_)
  obtain ⟨x_7, rfl⟩ := hv_5
  exact W.iret (v := x_7) hx hb hr (fun t ht hW => ⟨⟨x_7, ws, rfl, hT, by rw [ht]; exact hP, by rw [hAe]; exact hD⟩, hS.F ht⟩) hS.2.2 dX10_logSize_10
theorem dX10_needRange_0 : decode cX10_needRange 0 = .ok (.iload_n 0, 1) := by decide +kernel
theorem dX10_needRange_1 : decode cX10_needRange 1 = .ok (.iload_n 1, 1) := by decide +kernel
theorem dX10_needRange_2 : decode cX10_needRange 2 = .ok (.if_icmp .lt 8, 3) := by decide +kernel
theorem dX10_needRange_5 : decode cX10_needRange 5 = .ok (.iload_n 0, 1) := by decide +kernel
theorem dX10_needRange_6 : decode cX10_needRange 6 = .ok (.iload_n 2, 1) := by decide +kernel
theorem dX10_needRange_7 : decode cX10_needRange 7 = .ok (.if_icmp .le 11, 3) := by decide +kernel
theorem dX10_needRange_10 : decode cX10_needRange 10 = .ok (.new 354, 3) := by decide +kernel
theorem dX10_needRange_13 : decode cX10_needRange 13 = .ok (.dup, 1) := by decide +kernel
theorem dX10_needRange_14 : decode cX10_needRange 14 = .ok (.invokespecial 356, 3) := by decide +kernel
theorem dX10_needRange_17 : decode cX10_needRange 17 = .ok (.athrow, 1) := by decide +kernel
theorem dX10_needRange_18 : decode cX10_needRange 18 = .ok (.return_, 1) := by decide +kernel
set_option maxRecDepth 100000 in
set_option maxHeartbeats 4000000 in
theorem t_X10_needRange (l : Launch) (hfl : l.stackTraces = false) (D : va_G) (ct : Nat → ClassId) (S : ty_S) (ws : va_W) (ph : va_W → Prop) (xx : Nat → Nat → Nat → Prop) (p1 : Int32) (p2 : Int32) (p3 : Int32) (sz : Nat) (hT : ty_V ct S ph ws) (hph : ty_C ph xx) (hy1 : ty_y1 xx) : vx_Met l yX10_needRange (ws_ yX10_needRange cX10_needRange 3 none) ({ frames := 6, cells := 1, slots := 6, locals := 90 } : Room) (va_Pc [.int p1, .int p2, .int p3] (cmP D ct sz ([] ++ ws))) (va_Qv (fun (u9 : va_W) => ty_V ct S ph u9) (cmB D ([] ++ ws) sz (fun (u9 : va_W) => ([] ++ u9))) (va_A ([] ++ ws) sz)) (vx_X (fun (u9 : va_W) => ty_V ct S ph u9) (cmBY D ([] ++ ws) sz ["java/lang/IllegalArgumentException"] (fun (u9 : va_W) => ([] ++ u9))) (va_A ([] ++ ws) sz)) 1 6 (va_A ([] ++ ws) sz) := by
  refine vx_ofW (cc := cX10_needRange) (maxL := 3) (ret := none) (by decide) rfl ?_
  intro p e s m args below meth c s₁ B hml hex hv
  obtain ⟨rfl, hsz, hP, hK, hD0, hX⟩ := hv
  have hx := B.exec
  have hb := B.bytes
  have hr := B.returns
  have hts := ws_all (atoms_spec (ws := ws_ yX10_needRange cX10_needRange 3 none) B.pre)
  have hown : s.vm.findClass RX10 = some m.cls := findClass_of_methodNamed B.named
  have hlocks := B.notSynchronized
  subst hsz
  have hD := hD0.self (sz := s.heap.size)
  generalize hAe : va_A ([] ++ ws) s.heap.size = A at hD hX ⊢
  have hA : ∀ q : Nat, s.heap.size ≤ q → A q := fun q h => by rw [← hAe]; exact Or.inr h
  have hS : va_S A s.heap s.heap [] := va_S.rf
  have hl := lv_entry ([.int p1, .int p2, .int p3]) (n := 3) (Nat.le_of_ble_eq_true rfl)
  rw [lg_entry_eq]
  generalize (lg_sl ([.int p1, .int p2, .int p3]) ++ List.replicate (3 - (lg_sl ([.int p1, .int p2, .int p3])).length) Slot.unset).toArray = ls at hl ⊢
  have hl : lv_has ls 3 [(0, .int p1), (1, .int p2), (2, .int p3)] := hl
  refine lv_iload_n hx hb dX10_needRange_0 rfl (lv_at hl 0 rfl) ?_
  refine lv_iload_n hx hb dX10_needRange_1 rfl (lv_at hl 1 rfl) ?_
  refine lv_icmp_lt (tgt := 10) hx hb dX10_needRange_2 (by decide) (fun hc_1 => ?_) (fun hc_1 => ?_)
  · exact vx_throw0 (names := cm_names) hx hb hfl hown (by decide +kernel) (by decide +kernel) (hts _ kl_RX10_354) (hts _ ki_java_lang_IllegalArgumentException) (cm_at0 kt_RX10_356 hts) ktg_RX10_356 hX.1 hX.2.1 hS (hl.1.trans hml.symm) dX10_needRange_10 dX10_needRange_13 dX10_needRange_14 dX10_needRange_17 (fun x hx => (hex x hx).elim) (Nat.le_of_ble_eq_true rfl) (Nat.le_of_ble_eq_true rfl) (Nat.le_of_ble_eq_true rfl) (Nat.le_of_ble_eq_true rfl) hlocks (fun t hv hz hk => ⟨ws, hT, ⟨by decide, hP.kept (fun k q hq => hk q.1 ((hP k q hq).lt)), by rw [hAe]; exact hD⟩, cm_F hS hz hk⟩) hS.2.2 (Nat.le_of_ble_eq_true rfl) (Nat.le_of_ble_eq_true rfl)
  · refine lv_iload_n hx hb dX10_needRange_5 rfl (lv_at hl 0 rfl) ?_
    refine lv_iload_n hx hb dX10_needRange_6 rfl (lv_at hl 2 rfl) ?_
    refine lv_icmp_le (tgt := 18) hx hb dX10_needRange_7 (by decide) (fun hc_2 => ?_) (fun hc_2 => ?_)
    · refine W.widen (k := 1) (n := 6) (Nat.le_of_ble_eq_true rfl) (Nat.le_of_ble_eq_true rfl) ?_
      refine vx_ret ?_
      exact W.vret hx hb hr (fun t ht hW => ⟨⟨ws, rfl, hT, by rw [ht]; exact hP, by rw [hAe]; exact hD⟩, hS.F ht⟩) hS.2.2 dX10_needRange_18
    · exact vx_throw0 (names := cm_names) hx hb hfl hown (by decide +kernel) (by decide +kernel) (hts _ kl_RX10_354) (hts _ ki_java_lang_IllegalArgumentException) (cm_at0 kt_RX10_356 hts) ktg_RX10_356 hX.1 hX.2.1 hS (hl.1.trans hml.symm) dX10_needRange_10 dX10_needRange_13 dX10_needRange_14 dX10_needRange_17 (fun x hx => (hex x hx).elim) (Nat.le_of_ble_eq_true rfl) (Nat.le_of_ble_eq_true rfl) (Nat.le_of_ble_eq_true rfl) (Nat.le_of_ble_eq_true rfl) hlocks (fun t hv hz hk => ⟨ws, hT, ⟨by decide, hP.kept (fun k q hq => hk q.1 ((hP k q hq).lt)), by rw [hAe]; exact hD⟩, cm_F hS hz hk⟩) hS.2.2 (Nat.le_of_ble_eq_true rfl) (Nat.le_of_ble_eq_true rfl)
theorem dX10_needChannel_0 : decode cX10_needChannel 0 = .ok (.aload_n 0, 1) := by decide +kernel
theorem dX10_needChannel_1 : decode cX10_needChannel 1 = .ok (.getfield 10, 3) := by decide +kernel
theorem dX10_needChannel_4 : decode cX10_needChannel 4 = .ok (.iload_n 1, 1) := by decide +kernel
theorem dX10_needChannel_5 : decode cX10_needChannel 5 = .ok (.invokevirtual 125, 3) := by decide +kernel
theorem dX10_needChannel_8 : decode cX10_needChannel 8 = .ok (.astore_n 2, 1) := by decide +kernel
theorem dX10_needChannel_9 : decode cX10_needChannel 9 = .ok (.aload_n 2, 1) := by decide +kernel
theorem dX10_needChannel_10 : decode cX10_needChannel 10 = .ok (.ifnonnull 11, 3) := by decide +kernel
theorem dX10_needChannel_13 : decode cX10_needChannel 13 = .ok (.new 357, 3) := by decide +kernel
theorem dX10_needChannel_16 : decode cX10_needChannel 16 = .ok (.dup, 1) := by decide +kernel
theorem dX10_needChannel_17 : decode cX10_needChannel 17 = .ok (.invokespecial 359, 3) := by decide +kernel
theorem dX10_needChannel_20 : decode cX10_needChannel 20 = .ok (.athrow, 1) := by decide +kernel
theorem dX10_needChannel_21 : decode cX10_needChannel 21 = .ok (.aload_n 2, 1) := by decide +kernel
theorem dX10_needChannel_22 : decode cX10_needChannel 22 = .ok (.areturn, 1) := by decide +kernel
set_option maxRecDepth 100000 in
set_option maxHeartbeats 4000000 in
theorem t_X10_needChannel (l : Launch) (hfl : l.stackTraces = false) (D : va_G) (ct : Nat → ClassId) (S : ty_S) (ws : va_W) (ph : va_W → Prop) (xx : Nat → Nat → Nat → Prop) (x : Nat) (w : Nat) (sp : Nat) (sv : Nat) (bu : Nat) (ns : Nat) (bl : Int32) (le : Int32) (p1 : Int32) (sz : Nat) (hT : ty_V ct S ph ws) (h_w : S w = some (.inl 9)) (h_sp : S sp = some (.inl 9)) (h_sv : S sv = some (.inr (4, ns))) (hph : ty_C ph xx) (hy1 : ty_y1 xx) : vx_Met l yX10_needChannel (ws_ yX10_needChannel cX10_needChannel 3 (some (.object "CellCycler$Channel"))) ({ frames := 6, cells := 1, slots := 6, locals := 90 } : Room) (va_Pc [.ref x, .int p1] (cmP D ct sz ([(ty_XO x w sp sv bu bl le)] ++ ws))) (va_Qq (fun (r : Option Nat) (u9 : va_W) => ty_V ct S ph u9 ∧ (∃ a : Nat, r = some a ∧ S a = some (.inl 1))) (cmB D ([(ty_XO x w sp sv bu bl le)] ++ ws) sz (fun (u9 : va_W) => ([(ty_XO x w sp sv bu bl le)] ++ u9))) (va_A ([(ty_XO x w sp sv bu bl le)] ++ ws) sz)) (vx_X (fun (u9 : va_W) => ty_V ct S ph u9) (cmBY D ([(ty_XO x w sp sv bu bl le)] ++ ws) sz ["java/lang/IndexOutOfBoundsException"] (fun (u9 : va_W) => ([(ty_XO x w sp sv bu bl le)] ++ u9))) (va_A ([(ty_XO x w sp sv bu bl le)] ++ ws) sz)) 1 6 (va_A ([(ty_XO x w sp sv bu bl le)] ++ ws) sz) := by
  refine vx_ofW (cc := cX10_needChannel) (maxL := 3) (ret := (some (.object "CellCycler$Channel"))) (by decide) rfl ?_
  intro p e s m args below meth c s₁ B hml hex hv
  obtain ⟨rfl, hsz, hP, hK, hD0, hX⟩ := hv
  have hx := B.exec
  have hb := B.bytes
  have hr := B.returns
  have hts := ws_all (atoms_spec (ws := ws_ yX10_needChannel cX10_needChannel 3 (some (.object "CellCycler$Channel"))) B.pre)
  have hown : s.vm.findClass RX10 = some m.cls := findClass_of_methodNamed B.named
  have hlocks := B.notSynchronized
  subst hsz
  have hD := hD0.self (sz := s.heap.size)
  generalize hAe : va_A ([(ty_XO x w sp sv bu bl le)] ++ ws) s.heap.size = A at hD hX ⊢
  have hA : ∀ q : Nat, s.heap.size ≤ q → A q := fun q h => by rw [← hAe]; exact Or.inr h
  have hS : va_S A s.heap s.heap [] := va_S.rf
  have hl := lv_entry ([.ref x, .int p1]) (n := 3) (Nat.le_of_ble_eq_true rfl)
  rw [lg_entry_eq]
  generalize (lg_sl ([.ref x, .int p1]) ++ List.replicate (3 - (lg_sl ([.ref x, .int p1])).length) Slot.unset).toArray = ls at hl ⊢
  have hl : lv_has ls 3 [(0, .ref x), (1, .int p1)] := hl
  refine lv_aload_n hx hb dX10_needChannel_0 rfl (lv_at hl 0 rfl) ?_
  refine va_get (v := .ref w) (D := D) (ci := 10) (C := RX10) (T := TX10) (N := 6) hx hb hts in_X10 hown hK hP 0 rfl rfl 0 (by decide) (hts _ kl_RX10_10) (fun _ h9 => h9) rfl dX10_needChannel_1 ?_
  refine lv_iload_n hx hb dX10_needChannel_4 rfl (lv_at hl 1 rfl) ?_
  refine ty_kq (wr := [(ty_XO x w sp sv bu bl le)]) (wc := ([] ++ ws)) (va_runVN (As := [.int p1]) (rest := []) ⟨hx, hb, hml, hown, hts⟩ (t_X9_channelAt l D ct S ws ph xx w p1 _ hT h_w hph hy1) (cm_VN 1 hts kc_X9_channelAt ki_RX9 kl_RX10_125 kv_X9_channelAt kx_X9_channelAt kd_X9_channelAt ⟨Nat.le_of_ble_eq_true rfl, Nat.le_of_ble_eq_true rfl⟩) (ty_preV (wr := [(ty_XO x w sp sv bu bl le)]) (E := []) (ws := ws) (ci := 9) hP hK hD hS hA hX hT rfl h_w) rfl rfl hl.1 rfl (lv_room (Nat.le_of_ble_eq_true rfl)) dX10_needChannel_5 ⟨Nat.le_of_ble_eq_true rfl, Nat.le_of_ble_eq_true rfl⟩) hP hD hS hA (fun r_1 u H locs hw_2 hP hD hS => ?_)
  obtain ⟨ws_3, rfl⟩ : ∃ z, z = u := ⟨_, rfl⟩
  obtain ⟨hT, hq_4⟩ := hw_2
  have hP : va_P D vwCl ([(ty_XO x w sp sv bu bl le)] ++ ws_3) H := hP
  have hD : va_D A ([(ty_XO x w sp sv bu bl le)] ++ ws_3) := hD
  rcases hq_4 with rfl | ⟨a_5, rfl, ha_6⟩
  · refine W.eq (g2 := F0 m 8 ls (.null :: [])) rfl ?_
    refine lv_astore_nN (lv' := [(2, .null), (0, .ref x), (1, .int p1)]) hx hb dX10_needChannel_8 rfl hl (by decide) rfl (fun ls hl => ?_)
    refine lv_aload_nN hx hb dX10_needChannel_9 rfl (lv_at hl 0 rfl) ?_
    refine lv_ifnonnullN hx hb dX10_needChannel_10 ?_
    exact vx_throw0 (names := cm_names) hx hb hfl hown (by decide +kernel) (by decide +kernel) (hts _ kl_RX10_357) (hts _ ki_java_lang_IndexOutOfBoundsException) (cm_at0 kt_RX10_359 hts) ktg_RX10_359 hX.1 hX.2.1 hS (hl.1.trans hml.symm) dX10_needChannel_13 dX10_needChannel_16 dX10_needChannel_17 dX10_needChannel_20 (fun x hx => (hex x hx).elim) (Nat.le_of_ble_eq_true rfl) (Nat.le_of_ble_eq_true rfl) (Nat.le_of_ble_eq_true rfl) (Nat.le_of_ble_eq_true rfl) hlocks (fun t hv hz hk => ⟨ws_3, hT, ⟨by decide, hP.kept (fun k q hq => hk q.1 ((hP k q hq).lt)), by rw [hAe]; exact hD⟩, cm_F hS hz hk⟩) hS.2.2 (Nat.le_of_ble_eq_true rfl) (Nat.le_of_ble_eq_true rfl)
  · refine W.eq (g2 := F0 m 8 ls (.ref a_5 :: [])) rfl ?_
    refine lv_astore_n (lv' := [(2, .ref a_5), (0, .ref x), (1, .int p1)]) hx hb dX10_needChannel_8 rfl hl (by decide) rfl (fun ls hl => ?_)
    refine lv_aload_n hx hb dX10_needChannel_9 rfl (lv_at hl 0 rfl) ?_
    refine lv_ifnonnull (tgt := 21) hx hb dX10_needChannel_10 (by decide) ?_
    refine lv_aload_n hx hb dX10_needChannel_21 rfl (lv_at hl 0 rfl) ?_
    refine W.widen (k := 1) (n := 6) (Nat.le_of_ble_eq_true rfl) (Nat.le_of_ble_eq_true rfl) ?_
    refine vx_ret ?_
    exact W.aret (v := .ref a_5) hx hb hr (Or.inl ⟨_, rfl⟩) (Or.inr ⟨_, rfl⟩) (fun t ht hW => ⟨⟨(some a_5), ws_3, rfl, ⟨hT, ⟨_, rfl, ha_6⟩⟩, by rw [ht]; exact hP, by rw [hAe]; exact hD⟩, hS.F ht⟩) hS.2.2 dX10_needChannel_22
theorem dX10_needProgram_0 : decode cX10_needProgram 0 = .ok (.iload_n 1, 1) := by decide +kernel
theorem dX10_needProgram_1 : decode cX10_needProgram 1 = .ok (.ifCond .lt 17, 3) := by decide +kernel
theorem dX10_needProgram_4 : decode cX10_needProgram 4 = .ok (.iload_n 1, 1) := by decide +kernel
theorem dX10_needProgram_5 : decode cX10_needProgram 5 = .ok (.aload_n 0, 1) := by decide +kernel
theorem dX10_needProgram_6 : decode cX10_needProgram 6 = .ok (.getfield 10, 3) := by decide +kernel
theorem dX10_needProgram_9 : decode cX10_needProgram 9 = .ok (.getfield 85, 3) := by decide +kernel
theorem dX10_needProgram_12 : decode cX10_needProgram 12 = .ok (.getfield 89, 3) := by decide +kernel
theorem dX10_needProgram_15 : decode cX10_needProgram 15 = .ok (.if_icmp .lt 11, 3) := by decide +kernel
theorem dX10_needProgram_18 : decode cX10_needProgram 18 = .ok (.new 357, 3) := by decide +kernel
theorem dX10_needProgram_21 : decode cX10_needProgram 21 = .ok (.dup, 1) := by decide +kernel
theorem dX10_needProgram_22 : decode cX10_needProgram 22 = .ok (.invokespecial 359, 3) := by decide +kernel
theorem dX10_needProgram_25 : decode cX10_needProgram 25 = .ok (.athrow, 1) := by decide +kernel
theorem dX10_needProgram_26 : decode cX10_needProgram 26 = .ok (.return_, 1) := by decide +kernel
set_option maxRecDepth 100000 in
set_option maxHeartbeats 4000000 in
theorem t_X10_needProgram (l : Launch) (hfl : l.stackTraces = false) (D : va_G) (ct : Nat → ClassId) (S : ty_S) (ws : va_W) (ph : va_W → Prop) (xx : Nat → Nat → Nat → Prop) (x : Nat) (w : Nat) (sp : Nat) (sv : Nat) (bu : Nat) (ns : Nat) (bl : Int32) (le : Int32) (p1 : Int32) (sz : Nat) (hT : ty_V ct S ph ws) (h_w : S w = some (.inl 9)) (h_sp : S sp = some (.inl 9)) (h_sv : S sv = some (.inr (4, ns))) (hph : ty_C ph xx) (hy1 : ty_y1 xx) : vx_Met l yX10_needProgram (ws_ yX10_needProgram cX10_needProgram 2 none) ({ frames := 6, cells := 1, slots := 6, locals := 90 } : Room) (va_Pc [.ref x, .int p1] (cmP D ct sz ([(ty_XO x w sp sv bu bl le)] ++ ws))) (va_Qv (fun (u9 : va_W) => ty_V ct S ph u9) (cmB D ([(ty_XO x w sp sv bu bl le)] ++ ws) sz (fun (u9 : va_W) => ([(ty_XO x w sp sv bu bl le)] ++ u9))) (va_A ([(ty_XO x w sp sv bu bl le)] ++ ws) sz)) (vx_X (fun (u9 : va_W) => ty_V ct S ph u9) (cmBY D ([(ty_XO x w sp sv bu bl le)] ++ ws) sz ["java/lang/IndexOutOfBoundsException"] (fun (u9 : va_W) => ([(ty_XO x w sp sv bu bl le)] ++ u9))) (va_A ([(ty_XO x w sp sv bu bl le)] ++ ws) sz)) 1 6 (va_A ([(ty_XO x w sp sv bu bl le)] ++ ws) sz) := by
  refine vx_ofW (cc := cX10_needProgram) (maxL := 2) (ret := none) (by decide) rfl ?_
  intro p e s m args below meth c s₁ B hml hex hv
  obtain ⟨rfl, hsz, hP, hK, hD0, hX⟩ := hv
  have hx := B.exec
  have hb := B.bytes
  have hr := B.returns
  have hts := ws_all (atoms_spec (ws := ws_ yX10_needProgram cX10_needProgram 2 none) B.pre)
  have hown : s.vm.findClass RX10 = some m.cls := findClass_of_methodNamed B.named
  have hlocks := B.notSynchronized
  subst hsz
  have hD := hD0.self (sz := s.heap.size)
  generalize hAe : va_A ([(ty_XO x w sp sv bu bl le)] ++ ws) s.heap.size = A at hD hX ⊢
  have hA : ∀ q : Nat, s.heap.size ≤ q → A q := fun q h => by rw [← hAe]; exact Or.inr h
  have hS : va_S A s.heap s.heap [] := va_S.rf
  have hl := lv_entry ([.ref x, .int p1]) (n := 2) (Nat.le_of_ble_eq_true rfl)
  rw [lg_entry_eq]
  generalize (lg_sl ([.ref x, .int p1]) ++ List.replicate (2 - (lg_sl ([.ref x, .int p1])).length) Slot.unset).toArray = ls at hl ⊢
  have hl : lv_has ls 2 [(0, .ref x), (1, .int p1)] := hl
  refine lv_iload_n hx hb dX10_needProgram_0 rfl (lv_at hl 1 rfl) ?_
  refine lv_if_lt (tgt := 18) hx hb dX10_needProgram_1 (by decide) (fun hc_1 => ?_) (fun hc_1 => ?_)
  · exact vx_throw0 (names := cm_names) hx hb hfl hown (by decide +kernel) (by decide +kernel) (hts _ kl_RX10_357) (hts _ ki_java_lang_IndexOutOfBoundsException) (cm_at0 kt_RX10_359 hts) ktg_RX10_359 hX.1 hX.2.1 hS (hl.1.trans hml.symm) dX10_needProgram_18 dX10_needProgram_21 dX10_needProgram_22 dX10_needProgram_25 (fun x hx => (hex x hx).elim) (Nat.le_of_ble_eq_true rfl) (Nat.le_of_ble_eq_true rfl) (Nat.le_of_ble_eq_true rfl) (Nat.le_of_ble_eq_true rfl) hlocks (fun t hv hz hk => ⟨ws, hT, ⟨by decide, hP.kept (fun k q hq => hk q.1 ((hP k q hq).lt)), by rw [hAe]; exact hD⟩, cm_F hS hz hk⟩) hS.2.2 (Nat.le_of_ble_eq_true rfl) (Nat.le_of_ble_eq_true rfl)
  · refine lv_iload_n hx hb dX10_needProgram_4 rfl (lv_at hl 1 rfl) ?_
    refine lv_aload_n hx hb dX10_needProgram_5 rfl (lv_at hl 0 rfl) ?_
    refine va_get (v := .ref w) (D := D) (ci := 10) (C := RX10) (T := TX10) (N := 6) hx hb hts in_X10 hown hK hP 0 rfl rfl 0 (by decide) (hts _ kl_RX10_10) (fun _ h9 => h9) rfl dX10_needProgram_6 ?_
    refine ty_getN (E := [(ty_XO x w sp sv bu bl le)]) (ws := ws) (D := D) (ci := 9) (C := RX9) (T := TX9) (N := 8) hx hb hts in_X9 hown hK hP hT h_w rfl 3 (by decide) (hts _ kl_RX10_85) (fun _ h9 => h9) rfl dX10_needProgram_9 (fun _ hv_2 hf_3 => ?_)
    obtain ⟨a_4, rfl, ha_5⟩ := hv_2
    refine ty_getN (E := [(ty_XO x w sp sv bu bl le)]) (ws := ws) (D := D) (ci := 5) (C := RX5) (T := TX5) (N := 5) hx hb hts in_X5 hown hK hP hT ha_5 rfl 0 (by decide) (hts _ kl_RX10_89) (fun _ h9 => h9) rfl dX10_needProgram_12 (fun _ hv_6 hf_7 => ?_)
    obtain ⟨x_8, rfl, hz_9⟩ := hv_6
    refine lv_icmp_lt (tgt := 26) hx hb dX10_needProgram_15 (by decide) (fun hc_10 => ?_) (fun hc_10 => ?_)
    · refine W.widen (k := 1) (n := 6) (Nat.le_of_ble_eq_true rfl) (Nat.le_of_ble_eq_true rfl) ?_
      refine vx_ret ?_
      exact W.vret hx hb hr (fun t ht hW => ⟨⟨ws, rfl, hT, by rw [ht]; exact hP, by rw [hAe]; exact hD⟩, hS.F ht⟩) hS.2.2 dX10_needProgram_26
    · exact vx_throw0 (names := cm_names) hx hb hfl hown (by decide +kernel) (by decide +kernel) (hts _ kl_RX10_357) (hts _ ki_java_lang_IndexOutOfBoundsException) (cm_at0 kt_RX10_359 hts) ktg_RX10_359 hX.1 hX.2.1 hS (hl.1.trans hml.symm) dX10_needProgram_18 dX10_needProgram_21 dX10_needProgram_22 dX10_needProgram_25 (fun x hx => (hex x hx).elim) (Nat.le_of_ble_eq_true rfl) (Nat.le_of_ble_eq_true rfl) (Nat.le_of_ble_eq_true rfl) (Nat.le_of_ble_eq_true rfl) hlocks (fun t hv hz hk => ⟨ws, hT, ⟨by decide, hP.kept (fun k q hq => hk q.1 ((hP k q hq).lt)), by rw [hAe]; exact hD⟩, cm_F hS hz hk⟩) hS.2.2 (Nat.le_of_ble_eq_true rfl) (Nat.le_of_ble_eq_true rfl)
theorem dX10_savedAt_0 : decode cX10_savedAt 0 = .ok (.iload_n 1, 1) := by decide +kernel
theorem dX10_savedAt_1 : decode cX10_savedAt 1 = .ok (.ifCond .lt 12, 3) := by decide +kernel
theorem dX10_savedAt_4 : decode cX10_savedAt 4 = .ok (.iload_n 1, 1) := by decide +kernel
theorem dX10_savedAt_5 : decode cX10_savedAt 5 = .ok (.aload_n 0, 1) := by decide +kernel
theorem dX10_savedAt_6 : decode cX10_savedAt 6 = .ok (.getfield 19, 3) := by decide +kernel
theorem dX10_savedAt_9 : decode cX10_savedAt 9 = .ok (.arraylength, 1) := by decide +kernel
theorem dX10_savedAt_10 : decode cX10_savedAt 10 = .ok (.if_icmp .lt 7, 3) := by decide +kernel
theorem dX10_savedAt_13 : decode cX10_savedAt 13 = .ok (.aconst_null, 1) := by decide +kernel
theorem dX10_savedAt_14 : decode cX10_savedAt 14 = .ok (.goto 9, 3) := by decide +kernel
theorem dX10_savedAt_17 : decode cX10_savedAt 17 = .ok (.aload_n 0, 1) := by decide +kernel
theorem dX10_savedAt_18 : decode cX10_savedAt 18 = .ok (.getfield 19, 3) := by decide +kernel
theorem dX10_savedAt_21 : decode cX10_savedAt 21 = .ok (.iload_n 1, 1) := by decide +kernel
theorem dX10_savedAt_22 : decode cX10_savedAt 22 = .ok (.aaload, 1) := by decide +kernel
theorem dX10_savedAt_23 : decode cX10_savedAt 23 = .ok (.areturn, 1) := by decide +kernel
set_option maxRecDepth 100000 in
set_option maxHeartbeats 4000000 in
theorem t_X10_savedAt (l : Launch) (D : va_G) (ct : Nat → ClassId) (S : ty_S) (ws : va_W) (ph : va_W → Prop) (xx : Nat → Nat → Nat → Prop) (x : Nat) (w : Nat) (sp : Nat) (sv : Nat) (bu : Nat) (ns : Nat) (bl : Int32) (le : Int32) (p1 : Int32) (sz : Nat) (hT : ty_V ct S ph ws) (h_w : S w = some (.inl 9)) (h_sp : S sp = some (.inl 9)) (h_sv : S sv = some (.inr (4, ns))) (hph : ty_C ph xx) (hy1 : ty_y1 xx) : Met l yX10_savedAt (ws_ yX10_savedAt cX10_savedAt 2 (some (.object "CellCycler$World"))) ({ frames := 0, cells := 0, slots := 0, locals := 0 } : Room) (va_Pc [.ref x, .int p1] (cmP D ct sz ([(ty_XO x w sp sv bu bl le)] ++ ws))) (va_Qq (fun (r : Option Nat) (u9 : va_W) => ty_V ct S ph u9 ∧ (r = none ∨ ∃ a : Nat, r = some a ∧ S a = some (.inl 9))) (cmB D ([(ty_XO x w sp sv bu bl le)] ++ ws) sz (fun (u9 : va_W) => ([(ty_XO x w sp sv bu bl le)] ++ u9))) (va_A ([(ty_XO x w sp sv bu bl le)] ++ ws) sz)) 0 0 (va_A ([(ty_XO x w sp sv bu bl le)] ++ ws) sz) := by
  refine Met.ofW (cc := cX10_savedAt) (maxL := 2) (ret := (some (.object "CellCycler$World"))) (by decide) rfl ?_
  intro p e s m args below meth c s₁ B hml hv
  obtain ⟨rfl, hsz, hP, hK, hD0, hX⟩ := hv
  have hx := B.exec
  have hb := B.bytes
  have hr := B.returns
  have hts := ws_all (atoms_spec (ws := ws_ yX10_savedAt cX10_savedAt 2 (some (.object "CellCycler$World"))) B.pre)
  have hown : s.vm.findClass RX10 = some m.cls := findClass_of_methodNamed B.named
  have hlocks := B.notSynchronized
  subst hsz
  have hD := hD0.self (sz := s.heap.size)
  generalize hAe : va_A ([(ty_XO x w sp sv bu bl le)] ++ ws) s.heap.size = A at hD hX ⊢
  have hA : ∀ q : Nat, s.heap.size ≤ q → A q := fun q h => by rw [← hAe]; exact Or.inr h
  have hS : va_S A s.heap s.heap [] := va_S.rf
  have hl := lv_entry ([.ref x, .int p1]) (n := 2) (Nat.le_of_ble_eq_true rfl)
  rw [lg_entry_eq]
  generalize (lg_sl ([.ref x, .int p1]) ++ List.replicate (2 - (lg_sl ([.ref x, .int p1])).length) Slot.unset).toArray = ls at hl ⊢
  have hl : lv_has ls 2 [(0, .ref x), (1, .int p1)] := hl
  refine lv_iload_n hx hb dX10_savedAt_0 rfl (lv_at hl 1 rfl) ?_
  refine lv_if_lt (tgt := 13) hx hb dX10_savedAt_1 (by decide) (fun hc_1 => ?_) (fun hc_1 => ?_)
  · refine lv_null hx hb dX10_savedAt_13 ?_
    refine lv_goto (tgt := 23) hx hb dX10_savedAt_14 (by decide) ?_
    exact W.aret (v := .null) hx hb hr (Or.inl ⟨_, rfl⟩) (Or.inl rfl) (fun t ht hW => ⟨⟨none, ws, rfl, ⟨hT, (Or.inl rfl)⟩, by rw [ht]; exact hP, by rw [hAe]; exact hD⟩, hS.F ht⟩) hS.2.2 dX10_savedAt_23
  · refine lv_iload_n hx hb dX10_savedAt_4 rfl (lv_at hl 1 rfl) ?_
    refine lv_aload_n hx hb dX10_savedAt_5 rfl (lv_at hl 0 rfl) ?_
    refine va_get (v := .ref sv) (D := D) (ci := 10) (C := RX10) (T := TX10) (N := 6) hx hb hts in_X10 hown hK hP 0 rfl rfl 2 (by decide) (hts _ kl_RX10_19) (fun _ h9 => h9) rfl dX10_savedAt_6 ?_
    refine ty_alen4 (E := [(ty_XO x w sp sv bu bl le)]) (ws := ws) hx hb hK hP hT h_sv dX10_savedAt_9 ?_
    refine lv_icmp_lt (tgt := 17) hx hb dX10_savedAt_10 (by decide) (fun hc_2 => ?_) (fun hc_2 => ?_)
    · refine lv_aload_n hx hb dX10_savedAt_17 rfl (lv_at hl 0 rfl) ?_
      refine va_get (v := .ref sv) (D := D) (ci := 10) (C := RX10) (T := TX10) (N := 6) hx hb hts in_X10 hown hK hP 0 rfl rfl 2 (by decide) (hts _ kl_RX10_19) (fun _ h9 => h9) rfl dX10_savedAt_18 ?_
      refine lv_iload_n hx hb dX10_savedAt_21 rfl (lv_at hl 1 rfl) ?_
      refine ty_aald4 (E := [(ty_XO x w sp sv bu bl le)]) (ws := ws) hx hb hK hP hT h_sv (cm_vin2 (ty_lt hT.1 h_sv) hc_1 hc_2) dX10_savedAt_22 ?_ (fun a_3 ha_4 => ?_)
      · exact W.aret (v := .null) hx hb hr (Or.inl ⟨_, rfl⟩) (Or.inl rfl) (fun t ht hW => ⟨⟨none, ws, rfl, ⟨hT, (Or.inl rfl)⟩, by rw [ht]; exact hP, by rw [hAe]; exact hD⟩, hS.F ht⟩) hS.2.2 dX10_savedAt_23
      · exact W.aret (v := .ref a_3) hx hb hr (Or.inl ⟨_, rfl⟩) (Or.inr ⟨_, rfl⟩) (fun t ht hW => ⟨⟨(some a_3), ws, rfl, ⟨hT, (Or.inr ⟨_, rfl, ha_4⟩)⟩, by rw [ht]; exact hP, by rw [hAe]; exact hD⟩, hS.F ht⟩) hS.2.2 dX10_savedAt_23
    · refine lv_null hx hb dX10_savedAt_13 ?_
      refine lv_goto (tgt := 23) hx hb dX10_savedAt_14 (by decide) ?_
      exact W.aret (v := .null) hx hb hr (Or.inl ⟨_, rfl⟩) (Or.inl rfl) (fun t ht hW => ⟨⟨none, ws, rfl, ⟨hT, (Or.inl rfl)⟩, by rw [ht]; exact hP, by rw [hAe]; exact hD⟩, hS.F ht⟩) hS.2.2 dX10_savedAt_23
theorem dX10_keepAt_0 : decode cX10_keepAt 0 = .ok (.iload_n 1, 1) := by decide +kernel
theorem dX10_keepAt_1 : decode cX10_keepAt 1 = .ok (.ifCond .lt 19, 3) := by decide +kernel
theorem dX10_keepAt_4 : decode cX10_keepAt 4 = .ok (.iload_n 1, 1) := by decide +kernel
theorem dX10_keepAt_5 : decode cX10_keepAt 5 = .ok (.aload_n 0, 1) := by decide +kernel
theorem dX10_keepAt_6 : decode cX10_keepAt 6 = .ok (.getfield 19, 3) := by decide +kernel
theorem dX10_keepAt_9 : decode cX10_keepAt 9 = .ok (.arraylength, 1) := by decide +kernel
theorem dX10_keepAt_10 : decode cX10_keepAt 10 = .ok (.if_icmp .ge 10, 3) := by decide +kernel
theorem dX10_keepAt_13 : decode cX10_keepAt 13 = .ok (.aload_n 0, 1) := by decide +kernel
theorem dX10_keepAt_14 : decode cX10_keepAt 14 = .ok (.getfield 19, 3) := by decide +kernel
theorem dX10_keepAt_17 : decode cX10_keepAt 17 = .ok (.iload_n 1, 1) := by decide +kernel
theorem dX10_keepAt_18 : decode cX10_keepAt 18 = .ok (.aload_n 2, 1) := by decide +kernel
theorem dX10_keepAt_19 : decode cX10_keepAt 19 = .ok (.aastore, 1) := by decide +kernel
theorem dX10_keepAt_20 : decode cX10_keepAt 20 = .ok (.return_, 1) := by decide +kernel
set_option maxRecDepth 100000 in
set_option maxHeartbeats 4000000 in
theorem t_X10_keepAt (l : Launch) (D : va_G) (ct : Nat → ClassId) (S : ty_S) (ws : va_W) (ph : va_W → Prop) (xx : Nat → Nat → Nat → Prop) (x : Nat) (w : Nat) (sp : Nat) (sv : Nat) (bu : Nat) (ns : Nat) (bl : Int32) (le : Int32) (p1 : Int32) (p2 : Nat) (sz : Nat) (hT : ty_V ct S ph ws) (h_w : S w = some (.inl 9)) (h_sp : S sp = some (.inl 9)) (h_sv : S sv = some (.inr (4, ns))) (h_p2 : S p2 = some (.inl 9)) (hph : ty_C ph xx) (hy1 : ty_y1 xx) (hy14 : xx 14 0 sv) : Met l yX10_keepAt (ws_ yX10_keepAt cX10_keepAt 3 none) ({ frames := 0, cells := 0, slots := 0, locals := 0 } : Room) (va_Pc [.ref x, .int p1, .ref p2] (cmP D ct sz ([(ty_XO x w sp sv bu bl le)] ++ ws))) (va_Qv (fun (u9 : va_W) => ty_V ct S ph u9) (cmB D ([(ty_XO x w sp sv bu bl le)] ++ ws) sz (fun (u9 : va_W) => ([(ty_XO x w sp sv bu bl le)] ++ u9))) (va_A ([(ty_XO x w sp sv bu bl le)] ++ ws) sz)) 0 0 (va_A ([(ty_XO x w sp sv bu bl le)] ++ ws) sz) := by
  refine Met.ofW (cc := cX10_keepAt) (maxL := 3) (ret := none) (by decide) rfl ?_
  intro p e s m args below meth c s₁ B hml hv
  obtain ⟨rfl, hsz, hP, hK, hD0, hX⟩ := hv
  have hx := B.exec
  have hb := B.bytes
  have hr := B.returns
  have hts := ws_all (atoms_spec (ws := ws_ yX10_keepAt cX10_keepAt 3 none) B.pre)
  have hown : s.vm.findClass RX10 = some m.cls := findClass_of_methodNamed B.named
  have hlocks := B.notSynchronized
  subst hsz
  have hD := hD0.self (sz := s.heap.size)
  generalize hAe : va_A ([(ty_XO x w sp sv bu bl le)] ++ ws) s.heap.size = A at hD hX ⊢
  have hA : ∀ q : Nat, s.heap.size ≤ q → A q := fun q h => by rw [← hAe]; exact Or.inr h
  have hS : va_S A s.heap s.heap [] := va_S.rf
  have hl := lv_entry ([.ref x, .int p1, .ref p2]) (n := 3) (Nat.le_of_ble_eq_true rfl)
  rw [lg_entry_eq]
  generalize (lg_sl ([.ref x, .int p1, .ref p2]) ++ List.replicate (3 - (lg_sl ([.ref x, .int p1, .ref p2])).length) Slot.unset).toArray = ls at hl ⊢
  have hl : lv_has ls 3 [(0, .ref x), (1, .int p1), (2, .ref p2)] := hl
  refine lv_iload_n hx hb dX10_keepAt_0 rfl (lv_at hl 1 rfl) ?_
  refine lv_if_lt (tgt := 20) hx hb dX10_keepAt_1 (by decide) (fun hc_1 => ?_) (fun hc_1 => ?_)
  · exact W.vret hx hb hr (fun t ht hW => ⟨⟨ws, rfl, hT, by rw [ht]; exact hP, by rw [hAe]; exact hD⟩, hS.F ht⟩) hS.2.2 dX10_keepAt_20
  · refine lv_iload_n hx hb dX10_keepAt_4 rfl (lv_at hl 1 rfl) ?_
    refine lv_aload_n hx hb dX10_keepAt_5 rfl (lv_at hl 0 rfl) ?_
    refine va_get (v := .ref sv) (D := D) (ci := 10) (C := RX10) (T := TX10) (N := 6) hx hb hts in_X10 hown hK hP 0 rfl rfl 2 (by decide) (hts _ kl_RX10_19) (fun _ h9 => h9) rfl dX10_keepAt_6 ?_
    refine ty_alen4 (E := [(ty_XO x w sp sv bu bl le)]) (ws := ws) hx hb hK hP hT h_sv dX10_keepAt_9 ?_
    refine lv_icmp_ge (tgt := 20) hx hb dX10_keepAt_10 (by decide) (fun hc_2 => ?_) (fun hc_2 => ?_)
    · exact W.vret hx hb hr (fun t ht hW => ⟨⟨ws, rfl, hT, by rw [ht]; exact hP, by rw [hAe]; exact hD⟩, hS.F ht⟩) hS.2.2 dX10_keepAt_20
    · refine lv_aload_n hx hb dX10_keepAt_13 rfl (lv_at hl 0 rfl) ?_
      refine va_get (v := .ref sv) (D := D) (ci := 10) (C := RX10) (T := TX10) (N := 6) hx hb hts in_X10 hown hK hP 0 rfl rfl 2 (by decide) (hts _ kl_RX10_19) (fun _ h9 => h9) rfl dX10_keepAt_14 ?_
      refine lv_iload_n hx hb dX10_keepAt_17 rfl (lv_at hl 1 rfl) ?_
      refine lv_aload_n hx hb dX10_keepAt_18 rfl (lv_at hl 2 rfl) ?_
      refine ty_aast4 (E := [(ty_XO x w sp sv bu bl le)]) (ws := ws) hx hb hK hP hD hS hT h_sv h_p2 (cm_vin2 (ty_lt hT.1 h_sv) hc_1 (cm_lt hc_2)) dX10_keepAt_19 hph hy14 (fun ws_3 H locs hT hP hD hS => ?_)
      exact W.vret hx hb hr (fun t ht hW => ⟨⟨ws_3, rfl, hT, by rw [ht]; exact hP, by rw [hAe]; exact hD⟩, hS.F ht⟩) hS.2.2 dX10_keepAt_20
theorem dX10_at_0 : decode cX10_at 0 = .ok (.iload_n 1, 1) := by decide +kernel
theorem dX10_at_1 : decode cX10_at 1 = .ok (.ifCond .lt 9, 3) := by decide +kernel
theorem dX10_at_4 : decode cX10_at 4 = .ok (.iload_n 1, 1) := by decide +kernel
theorem dX10_at_5 : decode cX10_at 5 = .ok (.aload_n 0, 1) := by decide +kernel
theorem dX10_at_6 : decode cX10_at 6 = .ok (.arraylength, 1) := by decide +kernel
theorem dX10_at_7 : decode cX10_at 7 = .ok (.if_icmp .lt 7, 3) := by decide +kernel
theorem dX10_at_10 : decode cX10_at 10 = .ok (.iconst 0, 1) := by decide +kernel
theorem dX10_at_11 : decode cX10_at 11 = .ok (.goto 6, 3) := by decide +kernel
theorem dX10_at_14 : decode cX10_at 14 = .ok (.aload_n 0, 1) := by decide +kernel
theorem dX10_at_15 : decode cX10_at 15 = .ok (.iload_n 1, 1) := by decide +kernel
theorem dX10_at_16 : decode cX10_at 16 = .ok (.iaload, 1) := by decide +kernel
theorem dX10_at_17 : decode cX10_at 17 = .ok (.ireturn, 1) := by decide +kernel
set_option maxRecDepth 100000 in
set_option maxHeartbeats 4000000 in
theorem t_X10_at (l : Launch) (D : va_G) (ct : Nat → ClassId) (S : ty_S) (ws : va_W) (ph : va_W → Prop) (xx : Nat → Nat → Nat → Prop) (p1 : Nat) (np1 : Nat) (p2 : Int32) (sz : Nat) (hT : ty_V ct S ph ws) (h_p1 : S p1 = some (.inr (0, np1))) (hph : ty_C ph xx) (hy1 : ty_y1 xx) : Met l yX10_at (ws_ yX10_at cX10_at 2 (some .int)) ({ frames := 0, cells := 0, slots := 0, locals := 0 } : Room) (va_Pc [.ref p1, .int p2] (cmP D ct sz ([] ++ ws))) (va_Qi (fun (r : Int32) (u9 : va_W) => ty_V ct S ph u9) (cmB D ([] ++ ws) sz (fun (u9 : va_W) => ([] ++ u9))) (va_A ([] ++ ws) sz)) 0 0 (va_A ([] ++ ws) sz) := by
  refine Met.ofW (cc := cX10_at) (maxL := 2) (ret := (some .int)) (by decide) rfl ?_
  intro p e s m args below meth c s₁ B hml hv
  obtain ⟨rfl, hsz, hP, hK, hD0, hX⟩ := hv
  have hx := B.exec
  have hb := B.bytes
  have hr := B.returns
  have hts := ws_all (atoms_spec (ws := ws_ yX10_at cX10_at 2 (some .int)) B.pre)
  have hown : s.vm.findClass RX10 = some m.cls := findClass_of_methodNamed B.named
  have hlocks := B.notSynchronized
  subst hsz
  have hD := hD0.self (sz := s.heap.size)
  generalize hAe : va_A ([] ++ ws) s.heap.size = A at hD hX ⊢
  have hA : ∀ q : Nat, s.heap.size ≤ q → A q := fun q h => by rw [← hAe]; exact Or.inr h
  have hS : va_S A s.heap s.heap [] := va_S.rf
  have hl := lv_entry ([.ref p1, .int p2]) (n := 2) (Nat.le_of_ble_eq_true rfl)
  rw [lg_entry_eq]
  generalize (lg_sl ([.ref p1, .int p2]) ++ List.replicate (2 - (lg_sl ([.ref p1, .int p2])).length) Slot.unset).toArray = ls at hl ⊢
  have hl : lv_has ls 2 [(0, .ref p1), (1, .int p2)] := hl
  refine lv_iload_n hx hb dX10_at_0 rfl (lv_at hl 1 rfl) ?_
  refine lv_if_lt (tgt := 10) hx hb dX10_at_1 (by decide) (fun hc_1 => ?_) (fun hc_1 => ?_)
  · refine lv_iconst (v := 0) hx hb dX10_at_10 (by decide) ?_
    refine lv_goto (tgt := 17) hx hb dX10_at_11 (by decide) ?_
    exact W.iret (v := 0) hx hb hr (fun t ht hW => ⟨⟨0, ws, rfl, hT, by rw [ht]; exact hP, by rw [hAe]; exact hD⟩, hS.F ht⟩) hS.2.2 dX10_at_17
  · refine lv_iload_n hx hb dX10_at_4 rfl (lv_at hl 1 rfl) ?_
    refine lv_aload_n hx hb dX10_at_5 rfl (lv_at hl 0 rfl) ?_
    refine ty_alen0 (E := []) (ws := ws) hx hb hK hP hT h_p1 dX10_at_6 ?_
    refine lv_icmp_lt (tgt := 14) hx hb dX10_at_7 (by decide) (fun hc_2 => ?_) (fun hc_2 => ?_)
    · refine lv_aload_n hx hb dX10_at_14 rfl (lv_at hl 0 rfl) ?_
      refine lv_iload_n hx hb dX10_at_15 rfl (lv_at hl 1 rfl) ?_
      refine ty_iald (E := []) (ws := ws) hx hb hK hP hT h_p1 (cm_vin2 (ty_lt hT.1 h_p1) hc_1 hc_2) dX10_at_16 (fun x_3 => ?_)
      exact W.iret (v := x_3) hx hb hr (fun t ht hW => ⟨⟨x_3, ws, rfl, hT, by rw [ht]; exact hP, by rw [hAe]; exact hD⟩, hS.F ht⟩) hS.2.2 dX10_at_17
    · refine lv_iconst (v := 0) hx hb dX10_at_10 (by decide) ?_
      refine lv_goto (tgt := 17) hx hb dX10_at_11 (by decide) ?_
      exact W.iret (v := 0) hx hb hr (fun t ht hW => ⟨⟨0, ws, rfl, hT, by rw [ht]; exact hP, by rw [hAe]; exact hD⟩, hS.F ht⟩) hS.2.2 dX10_at_17
theorem dX10_put_0 : decode cX10_put 0 = .ok (.iload_n 1, 1) := by decide +kernel
theorem dX10_put_1 : decode cX10_put 1 = .ok (.ifCond .lt 13, 3) := by decide +kernel
theorem dX10_put_4 : decode cX10_put 4 = .ok (.iload_n 1, 1) := by decide +kernel
theorem dX10_put_5 : decode cX10_put 5 = .ok (.aload_n 0, 1) := by decide +kernel
theorem dX10_put_6 : decode cX10_put 6 = .ok (.arraylength, 1) := by decide +kernel
theorem dX10_put_7 : decode cX10_put 7 = .ok (.if_icmp .ge 7, 3) := by decide +kernel
theorem dX10_put_10 : decode cX10_put 10 = .ok (.aload_n 0, 1) := by decide +kernel
theorem dX10_put_11 : decode cX10_put 11 = .ok (.iload_n 1, 1) := by decide +kernel
theorem dX10_put_12 : decode cX10_put 12 = .ok (.iload_n 2, 1) := by decide +kernel
theorem dX10_put_13 : decode cX10_put 13 = .ok (.iastore, 1) := by decide +kernel
theorem dX10_put_14 : decode cX10_put 14 = .ok (.return_, 1) := by decide +kernel
set_option maxRecDepth 100000 in
set_option maxHeartbeats 4000000 in
theorem t_X10_put (l : Launch) (D : va_G) (ct : Nat → ClassId) (S : ty_S) (ws : va_W) (ph : va_W → Prop) (xx : Nat → Nat → Nat → Prop) (p1 : Nat) (np1 : Nat) (p2 : Int32) (p3 : Int32) (sz : Nat) (hT : ty_V ct S ph ws) (h_p1 : S p1 = some (.inr (0, np1))) (hph : ty_C ph xx) (hy1 : ty_y1 xx) : Met l yX10_put (ws_ yX10_put cX10_put 3 none) ({ frames := 0, cells := 0, slots := 0, locals := 0 } : Room) (va_Pc [.ref p1, .int p2, .int p3] (cmP D ct sz ([] ++ ws))) (va_Qv (fun (u9 : va_W) => ty_V ct S ph u9 ∧ ty_fdle ws u9) (cmB D ([] ++ ws) sz (fun (u9 : va_W) => ([] ++ u9))) (va_A ([] ++ ws) sz)) 0 0 (va_A ([] ++ ws) sz) := by
  refine Met.ofW (cc := cX10_put) (maxL := 3) (ret := none) (by decide) rfl ?_
  intro p e s m args below meth c s₁ B hml hv
  obtain ⟨rfl, hsz, hP, hK, hD0, hX⟩ := hv
  have hx := B.exec
  have hb := B.bytes
  have hr := B.returns
  have hts := ws_all (atoms_spec (ws := ws_ yX10_put cX10_put 3 none) B.pre)
  have hown : s.vm.findClass RX10 = some m.cls := findClass_of_methodNamed B.named
  have hlocks := B.notSynchronized
  subst hsz
  have hD := hD0.self (sz := s.heap.size)
  generalize hAe : va_A ([] ++ ws) s.heap.size = A at hD hX ⊢
  have hA : ∀ q : Nat, s.heap.size ≤ q → A q := fun q h => by rw [← hAe]; exact Or.inr h
  have hS : va_S A s.heap s.heap [] := va_S.rf
  have hl := lv_entry ([.ref p1, .int p2, .int p3]) (n := 3) (Nat.le_of_ble_eq_true rfl)
  rw [lg_entry_eq]
  generalize (lg_sl ([.ref p1, .int p2, .int p3]) ++ List.replicate (3 - (lg_sl ([.ref p1, .int p2, .int p3])).length) Slot.unset).toArray = ls at hl ⊢
  have hl : lv_has ls 3 [(0, .ref p1), (1, .int p2), (2, .int p3)] := hl
  refine lv_iload_n hx hb dX10_put_0 rfl (lv_at hl 1 rfl) ?_
  refine lv_if_lt (tgt := 14) hx hb dX10_put_1 (by decide) (fun hc_1 => ?_) (fun hc_1 => ?_)
  · exact W.vret hx hb hr (fun t ht hW => ⟨⟨ws, rfl, ⟨hT, (fun _ _ _ h9 => h9)⟩, by rw [ht]; exact hP, by rw [hAe]; exact hD⟩, hS.F ht⟩) hS.2.2 dX10_put_14
  · refine lv_iload_n hx hb dX10_put_4 rfl (lv_at hl 1 rfl) ?_
    refine lv_aload_n hx hb dX10_put_5 rfl (lv_at hl 0 rfl) ?_
    refine ty_alen0 (E := []) (ws := ws) hx hb hK hP hT h_p1 dX10_put_6 ?_
    refine lv_icmp_ge (tgt := 14) hx hb dX10_put_7 (by decide) (fun hc_2 => ?_) (fun hc_2 => ?_)
    · exact W.vret hx hb hr (fun t ht hW => ⟨⟨ws, rfl, ⟨hT, (fun _ _ _ h9 => h9)⟩, by rw [ht]; exact hP, by rw [hAe]; exact hD⟩, hS.F ht⟩) hS.2.2 dX10_put_14
    · refine lv_aload_n hx hb dX10_put_10 rfl (lv_at hl 0 rfl) ?_
      refine lv_iload_n hx hb dX10_put_11 rfl (lv_at hl 1 rfl) ?_
      refine lv_iload_n hx hb dX10_put_12 rfl (lv_at hl 2 rfl) ?_
      refine ty_iast (E := []) (ws9 := ws) hx hb hK hP hD hS hT h_p1 (cm_vin2 (ty_lt hT.1 h_p1) hc_1 (cm_lt hc_2)) dX10_put_13 hph (fun ws_3 H locs hT hP hD hS hfl_4 => ?_)
      exact W.vret hx hb hr (fun t ht hW => ⟨⟨ws_3, rfl, ⟨hT, hfl_4⟩, by rw [ht]; exact hP, by rw [hAe]; exact hD⟩, hS.F ht⟩) hS.2.2 dX10_put_14
theorem dX10_copyRow_0 : decode cX10_copyRow 0 = .ok (.aload_n 0, 1) := by decide +kernel
theorem dX10_copyRow_1 : decode cX10_copyRow 1 = .ok (.iconst 0, 1) := by decide +kernel
theorem dX10_copyRow_2 : decode cX10_copyRow 2 = .ok (.aload_n 1, 1) := by decide +kernel
theorem dX10_copyRow_3 : decode cX10_copyRow 3 = .ok (.iconst 0, 1) := by decide +kernel
theorem dX10_copyRow_4 : decode cX10_copyRow 4 = .ok (.aload_n 0, 1) := by decide +kernel
theorem dX10_copyRow_5 : decode cX10_copyRow 5 = .ok (.arraylength, 1) := by decide +kernel
theorem dX10_copyRow_6 : decode cX10_copyRow 6 = .ok (.aload_n 1, 1) := by decide +kernel
theorem dX10_copyRow_7 : decode cX10_copyRow 7 = .ok (.arraylength, 1) := by decide +kernel
theorem dX10_copyRow_8 : decode cX10_copyRow 8 = .ok (.invokestatic 368, 3) := by decide +kernel
theorem dX10_copyRow_11 : decode cX10_copyRow 11 = .ok (.invokestatic 371, 3) := by decide +kernel
theorem dX10_copyRow_14 : decode cX10_copyRow 14 = .ok (.return_, 1) := by decide +kernel
set_option maxRecDepth 100000 in
set_option maxHeartbeats 4000000 in
theorem t_X10_copyRow (l : Launch) (D : va_G) (ct : Nat → ClassId) (S : ty_S) (ws : va_W) (ph : va_W → Prop) (xx : Nat → Nat → Nat → Prop) (p1 : Nat) (np1 : Nat) (p2 : Nat) (np2 : Nat) (sz : Nat) (hT : ty_V ct S ph ws) (h_p1 : S p1 = some (.inr (0, np1))) (h_p2 : S p2 = some (.inr (0, np2))) (hph : ty_C ph xx) (hy1 : ty_y1 xx) : Met l yX10_copyRow (ws_ yX10_copyRow cX10_copyRow 2 none) ({ frames := 1, cells := 0, slots := 0, locals := 80 } : Room) (va_Pc [.ref p1, .ref p2] (cmP D ct sz ([] ++ ws))) (va_Qv (fun (u9 : va_W) => ty_V ct S ph u9) (cmB D ([] ++ ws) sz (fun (u9 : va_W) => ([] ++ u9))) (va_A ([] ++ ws) sz)) 0 0 (va_A ([] ++ ws) sz) := by
  refine Met.ofW (cc := cX10_copyRow) (maxL := 2) (ret := none) (by decide) rfl ?_
  intro p e s m args below meth c s₁ B hml hv
  obtain ⟨rfl, hsz, hP, hK, hD0, hX⟩ := hv
  have hx := B.exec
  have hb := B.bytes
  have hr := B.returns
  have hts := ws_all (atoms_spec (ws := ws_ yX10_copyRow cX10_copyRow 2 none) B.pre)
  have hown : s.vm.findClass RX10 = some m.cls := findClass_of_methodNamed B.named
  have hlocks := B.notSynchronized
  subst hsz
  have hD := hD0.self (sz := s.heap.size)
  generalize hAe : va_A ([] ++ ws) s.heap.size = A at hD hX ⊢
  have hA : ∀ q : Nat, s.heap.size ≤ q → A q := fun q h => by rw [← hAe]; exact Or.inr h
  have hS : va_S A s.heap s.heap [] := va_S.rf
  have hl := lv_entry ([.ref p1, .ref p2]) (n := 2) (Nat.le_of_ble_eq_true rfl)
  rw [lg_entry_eq]
  generalize (lg_sl ([.ref p1, .ref p2]) ++ List.replicate (2 - (lg_sl ([.ref p1, .ref p2])).length) Slot.unset).toArray = ls at hl ⊢
  have hl : lv_has ls 2 [(0, .ref p1), (1, .ref p2)] := hl
  refine lv_aload_n hx hb dX10_copyRow_0 rfl (lv_at hl 0 rfl) ?_
  refine lv_iconst (v := 0) hx hb dX10_copyRow_1 (by decide) ?_
  refine lv_aload_n hx hb dX10_copyRow_2 rfl (lv_at hl 1 rfl) ?_
  refine lv_iconst (v := 0) hx hb dX10_copyRow_3 (by decide) ?_
  refine lv_aload_n hx hb dX10_copyRow_4 rfl (lv_at hl 0 rfl) ?_
  refine ty_alen0 (E := []) (ws := ws) hx hb hK hP hT h_p1 dX10_copyRow_5 ?_
  refine lv_aload_n hx hb dX10_copyRow_6 rfl (lv_at hl 1 rfl) ?_
  refine ty_alen0 (E := []) (ws := ws) hx hb hK hP hT h_p2 dX10_copyRow_7 ?_
  refine va_mmin hx hb (hml.trans hl.1.symm) hown (hts _ kl_RX10_368) (hts _ jm_min_s) (hts _ ki_RJ9) (hts _ jm_min_c) (Nat.le_of_ble_eq_true rfl) (Nat.le_of_ble_eq_true rfl) (Nat.le_of_ble_eq_true rfl) (Nat.le_of_ble_eq_true rfl) dX10_copyRow_8 ?_
  refine ty_copyi (E := []) (ws := ws) hx hb (hml.trans hl.1.symm) hown (hts _ kl_RX10_371) (hts _ kna_java_lang_System_arraycopy) (hts _ ks_java_lang_System_arraycopy) (hts _ ki_RJ10) hK hP hD hS hT h_p1 h_p2 (Nat.le_of_ble_eq_true rfl) (Nat.le_of_ble_eq_true rfl) dX10_copyRow_11 hph (fun ws_1 H locs hT hP hD hS => ?_)
  exact W.vret hx hb hr (fun t ht hW => ⟨⟨ws_1, rfl, hT, by rw [ht]; exact hP, by rw [hAe]; exact hD⟩, hS.F ht⟩) hS.2.2 dX10_copyRow_14
theorem dX10_clearRow_0 : decode cX10_clearRow 0 = .ok (.iconst 0, 1) := by decide +kernel
theorem dX10_clearRow_1 : decode cX10_clearRow 1 = .ok (.istore_n 1, 1) := by decide +kernel
theorem dX10_clearRow_2 : decode cX10_clearRow 2 = .ok (.iload_n 1, 1) := by decide +kernel
theorem dX10_clearRow_3 : decode cX10_clearRow 3 = .ok (.aload_n 0, 1) := by decide +kernel
theorem dX10_clearRow_4 : decode cX10_clearRow 4 = .ok (.arraylength, 1) := by decide +kernel
theorem dX10_clearRow_5 : decode cX10_clearRow 5 = .ok (.if_icmp .ge 13, 3) := by decide +kernel
theorem dX10_clearRow_8 : decode cX10_clearRow 8 = .ok (.aload_n 0, 1) := by decide +kernel
theorem dX10_clearRow_9 : decode cX10_clearRow 9 = .ok (.iload_n 1, 1) := by decide +kernel
theorem dX10_clearRow_10 : decode cX10_clearRow 10 = .ok (.iconst 0, 1) := by decide +kernel
theorem dX10_clearRow_11 : decode cX10_clearRow 11 = .ok (.iastore, 1) := by decide +kernel
theorem dX10_clearRow_12 : decode cX10_clearRow 12 = .ok (.iinc 1 1, 3) := by decide +kernel
theorem dX10_clearRow_15 : decode cX10_clearRow 15 = .ok (.goto (-13), 3) := by decide +kernel
theorem dX10_clearRow_18 : decode cX10_clearRow 18 = .ok (.return_, 1) := by decide +kernel
set_option maxRecDepth 100000 in
set_option maxHeartbeats 4000000 in
theorem t_X10_clearRow (l : Launch) (D : va_G) (ct : Nat → ClassId) (S : ty_S) (ws : va_W) (ph : va_W → Prop) (xx : Nat → Nat → Nat → Prop) (p1 : Nat) (np1 : Nat) (sz : Nat) (hT : ty_V ct S ph ws) (h_p1 : S p1 = some (.inr (0, np1))) (hph : ty_C ph xx) (hy1 : ty_y1 xx) : Met l yX10_clearRow (ws_ yX10_clearRow cX10_clearRow 2 none) ({ frames := 0, cells := 0, slots := 0, locals := 0 } : Room) (va_Pc [.ref p1] (cmP D ct sz ([] ++ ws))) (va_Qv (fun (u9 : va_W) => ty_V ct S ph u9) (cmB D ([] ++ ws) sz (fun (u9 : va_W) => ([] ++ u9))) (va_A ([] ++ ws) sz)) 0 0 (va_A ([] ++ ws) sz) := by
  refine Met.ofW (cc := cX10_clearRow) (maxL := 2) (ret := none) (by decide) rfl ?_
  intro p e s m args below meth c s₁ B hml hv
  obtain ⟨rfl, hsz, hP, hK, hD0, hX⟩ := hv
  have hx := B.exec
  have hb := B.bytes
  have hr := B.returns
  have hts := ws_all (atoms_spec (ws := ws_ yX10_clearRow cX10_clearRow 2 none) B.pre)
  have hown : s.vm.findClass RX10 = some m.cls := findClass_of_methodNamed B.named
  have hlocks := B.notSynchronized
  subst hsz
  have hD := hD0.self (sz := s.heap.size)
  generalize hAe : va_A ([] ++ ws) s.heap.size = A at hD hX ⊢
  have hA : ∀ q : Nat, s.heap.size ≤ q → A q := fun q h => by rw [← hAe]; exact Or.inr h
  have hS : va_S A s.heap s.heap [] := va_S.rf
  have hl := lv_entry ([.ref p1]) (n := 2) (Nat.le_of_ble_eq_true rfl)
  rw [lg_entry_eq]
  generalize (lg_sl ([.ref p1]) ++ List.replicate (2 - (lg_sl ([.ref p1])).length) Slot.unset).toArray = ls at hl ⊢
  have hl : lv_has ls 2 [(0, .ref p1)] := hl
  refine lv_iconst (v := 0) hx hb dX10_clearRow_0 (by decide) ?_
  refine lv_istore_n (lv' := [(1, .int 0), (0, .ref p1)]) hx hb dX10_clearRow_1 rfl hl (by decide) rfl (fun ls hl => ?_)
  refine ty_loop (I := fun μ H locs ls => ∃ (ws : va_W) (y_1 : Int32), μ = (2147483648 - y_1.toInt).toNat ∧ ty_V ct S ph ws ∧ va_P D vwCl ([] ++ ws) H ∧ va_D A ([] ++ ws) ∧ va_S A s.heap H locs ∧ lv_has ls 2 [(0, .ref p1), (1, .int y_1)] ∧ 0 ≤ y_1.toInt) ⟨_, ws, (0 : Int32), rfl, hT, hP, hD, hS, (lv_sub hl [1, 0] rfl), (by decide)⟩ (fun μ H locs ls hI ih_2 => ?_)
  obtain ⟨ws, y_1, rfl, hT, hP, hD, hS, hl, hex_2⟩ := hI
  refine lv_iload_n hx hb dX10_clearRow_2 rfl (lv_at hl 1 rfl) ?_
  refine lv_aload_n hx hb dX10_clearRow_3 rfl (lv_at hl 0 rfl) ?_
  refine ty_alen0 (E := []) (ws := ws) hx hb hK hP hT h_p1 dX10_clearRow_4 ?_
  refine lv_icmp_ge (tgt := 18) hx hb dX10_clearRow_5 (by decide) (fun hc_2 => ?_) (fun hc_2 => ?_)
  · exact W.vret hx hb hr (fun t ht hW => ⟨⟨ws, rfl, hT, by rw [ht]; exact hP, by rw [hAe]; exact hD⟩, hS.F ht⟩) hS.2.2 dX10_clearRow_18
  · refine lv_aload_n hx hb dX10_clearRow_8 rfl (lv_at hl 0 rfl) ?_
    refine lv_iload_n hx hb dX10_clearRow_9 rfl (lv_at hl 1 rfl) ?_
    refine lv_iconst (v := 0) hx hb dX10_clearRow_10 (by decide) ?_
    refine ty_iast (E := []) (ws9 := ws) hx hb hK hP hD hS hT h_p1 (cm_vin2 (ty_lt hT.1 h_p1) (ty_nneg hex_2) (cm_lt hc_2)) dX10_clearRow_11 hph (fun ws_3 H locs hT hP hD hS hfl_4 => ?_)
    refine lv_iinc (v := (y_1 + Int32.ofInt 1)) (lv' := [(1, .int (y_1 + Int32.ofInt 1)), (0, .ref p1)]) hx hb dX10_clearRow_12 hl (k := 1) rfl rfl (by decide) rfl (fun ls hl => ?_)
    refine lv_goto (tgt := 2) hx hb dX10_clearRow_15 (by decide) ?_
    exact ih_2 _ _ _ _ (ty_inc (cm_lt hc_2)) ⟨ws_3, (y_1 + Int32.ofInt 1), rfl, hT, hP, hD, hS, (lv_sub hl [1, 0] rfl), (ty_nn hex_2 (cm_lt hc_2))⟩
theorem dX10_quotient_0 : decode cX10_quotient 0 = .ok (.lload_n 2, 1) := by decide +kernel
theorem dX10_quotient_1 : decode cX10_quotient 1 = .ok (.lconst 0, 1) := by decide +kernel
theorem dX10_quotient_2 : decode cX10_quotient 2 = .ok (.lcmp, 1) := by decide +kernel
theorem dX10_quotient_3 : decode cX10_quotient 3 = .ok (.ifCond .ne 7, 3) := by decide +kernel
theorem dX10_quotient_6 : decode cX10_quotient 6 = .ok (.lconst 0, 1) := by decide +kernel
theorem dX10_quotient_7 : decode cX10_quotient 7 = .ok (.goto 6, 3) := by decide +kernel
theorem dX10_quotient_10 : decode cX10_quotient 10 = .ok (.lload_n 0, 1) := by decide +kernel
theorem dX10_quotient_11 : decode cX10_quotient 11 = .ok (.lload_n 2, 1) := by decide +kernel
theorem dX10_quotient_12 : decode cX10_quotient 12 = .ok (.ldiv, 1) := by decide +kernel
theorem dX10_quotient_13 : decode cX10_quotient 13 = .ok (.lreturn, 1) := by decide +kernel
set_option maxRecDepth 100000 in
set_option maxHeartbeats 4000000 in
theorem t_X10_quotient (l : Launch) (D : va_G) (ct : Nat → ClassId) (S : ty_S) (ws : va_W) (ph : va_W → Prop) (xx : Nat → Nat → Nat → Prop) (p1 : Int64) (p2 : Int64) (sz : Nat) (hT : ty_V ct S ph ws) (hph : ty_C ph xx) (hy1 : ty_y1 xx) : Met l yX10_quotient (ws_ yX10_quotient cX10_quotient 4 (some .long)) ({ frames := 0, cells := 0, slots := 0, locals := 0 } : Room) (va_Pc [.long p1, .long p2] (cmP D ct sz ([] ++ ws))) (va_Ql (fun (r : Int64) (u9 : va_W) => ty_V ct S ph u9) (cmB D ([] ++ ws) sz (fun (u9 : va_W) => ([] ++ u9))) (va_A ([] ++ ws) sz)) 0 0 (va_A ([] ++ ws) sz) := by
  refine Met.ofW (cc := cX10_quotient) (maxL := 4) (ret := (some .long)) (by decide) rfl ?_
  intro p e s m args below meth c s₁ B hml hv
  obtain ⟨rfl, hsz, hP, hK, hD0, hX⟩ := hv
  have hx := B.exec
  have hb := B.bytes
  have hr := B.returns
  have hts := ws_all (atoms_spec (ws := ws_ yX10_quotient cX10_quotient 4 (some .long)) B.pre)
  have hown : s.vm.findClass RX10 = some m.cls := findClass_of_methodNamed B.named
  have hlocks := B.notSynchronized
  subst hsz
  have hD := hD0.self (sz := s.heap.size)
  generalize hAe : va_A ([] ++ ws) s.heap.size = A at hD hX ⊢
  have hA : ∀ q : Nat, s.heap.size ≤ q → A q := fun q h => by rw [← hAe]; exact Or.inr h
  have hS : va_S A s.heap s.heap [] := va_S.rf
  have hl := lv_entry ([.long p1, .long p2]) (n := 4) (Nat.le_of_ble_eq_true rfl)
  rw [lg_entry_eq]
  generalize (lg_sl ([.long p1, .long p2]) ++ List.replicate (4 - (lg_sl ([.long p1, .long p2])).length) Slot.unset).toArray = ls at hl ⊢
  have hl : lv_has ls 4 [(0, .long p1), (2, .long p2)] := hl
  refine lv_lload_n hx hb dX10_quotient_0 rfl (lv_at hl 1 rfl) ?_
  refine lv_lconst (v := 0) hx hb dX10_quotient_1 (by decide) ?_
  refine W.lcmp hx hb dX10_quotient_2 ?_
  refine lv_if_ne (tgt := 10) hx hb dX10_quotient_3 (by decide) (fun hc_1 => ?_) (fun hc_1 => ?_)
  · refine lv_lload_n hx hb dX10_quotient_10 rfl (lv_at hl 0 rfl) ?_
    refine lv_lload_n hx hb dX10_quotient_11 rfl (lv_at hl 1 rfl) ?_
    refine lv_ldiv hx hb dX10_quotient_12 (fun h9 => hc_1 (by rw [h9]; exact cm_lceq 0)) ?_
    refine lv_topl (fun x_2 _ => ?_)
    exact W.lret (v := x_2) hx hb hr (fun t ht hW => ⟨⟨x_2, ws, rfl, hT, by rw [ht]; exact hP, by rw [hAe]; exact hD⟩, hS.F ht⟩) hS.2.2 dX10_quotient_13
  · refine lv_lconst (v := 0) hx hb dX10_quotient_6 (by decide) ?_
    refine lv_goto (tgt := 13) hx hb dX10_quotient_7 (by decide) ?_
    exact W.lret (v := 0) hx hb hr (fun t ht hW => ⟨⟨0, ws, rfl, hT, by rw [ht]; exact hP, by rw [hAe]; exact hD⟩, hS.F ht⟩) hS.2.2 dX10_quotient_13
theorem dX10_remainder_0 : decode cX10_remainder 0 = .ok (.lload_n 2, 1) := by decide +kernel
theorem dX10_remainder_1 : decode cX10_remainder 1 = .ok (.lconst 0, 1) := by decide +kernel
theorem dX10_remainder_2 : decode cX10_remainder 2 = .ok (.lcmp, 1) := by decide +kernel
theorem dX10_remainder_3 : decode cX10_remainder 3 = .ok (.ifCond .ne 7, 3) := by decide +kernel
theorem dX10_remainder_6 : decode cX10_remainder 6 = .ok (.lconst 0, 1) := by decide +kernel
theorem dX10_remainder_7 : decode cX10_remainder 7 = .ok (.goto 6, 3) := by decide +kernel
theorem dX10_remainder_10 : decode cX10_remainder 10 = .ok (.lload_n 0, 1) := by decide +kernel
theorem dX10_remainder_11 : decode cX10_remainder 11 = .ok (.lload_n 2, 1) := by decide +kernel
theorem dX10_remainder_12 : decode cX10_remainder 12 = .ok (.lrem, 1) := by decide +kernel
theorem dX10_remainder_13 : decode cX10_remainder 13 = .ok (.lreturn, 1) := by decide +kernel
set_option maxRecDepth 100000 in
set_option maxHeartbeats 4000000 in
theorem t_X10_remainder (l : Launch) (D : va_G) (ct : Nat → ClassId) (S : ty_S) (ws : va_W) (ph : va_W → Prop) (xx : Nat → Nat → Nat → Prop) (p1 : Int64) (p2 : Int64) (sz : Nat) (hT : ty_V ct S ph ws) (hph : ty_C ph xx) (hy1 : ty_y1 xx) : Met l yX10_remainder (ws_ yX10_remainder cX10_remainder 4 (some .long)) ({ frames := 0, cells := 0, slots := 0, locals := 0 } : Room) (va_Pc [.long p1, .long p2] (cmP D ct sz ([] ++ ws))) (va_Ql (fun (r : Int64) (u9 : va_W) => ty_V ct S ph u9) (cmB D ([] ++ ws) sz (fun (u9 : va_W) => ([] ++ u9))) (va_A ([] ++ ws) sz)) 0 0 (va_A ([] ++ ws) sz) := by
  refine Met.ofW (cc := cX10_remainder) (maxL := 4) (ret := (some .long)) (by decide) rfl ?_
  intro p e s m args below meth c s₁ B hml hv
  obtain ⟨rfl, hsz, hP, hK, hD0, hX⟩ := hv
  have hx := B.exec
  have hb := B.bytes
  have hr := B.returns
  have hts := ws_all (atoms_spec (ws := ws_ yX10_remainder cX10_remainder 4 (some .long)) B.pre)
  have hown : s.vm.findClass RX10 = some m.cls := findClass_of_methodNamed B.named
  have hlocks := B.notSynchronized
  subst hsz
  have hD := hD0.self (sz := s.heap.size)
  generalize hAe : va_A ([] ++ ws) s.heap.size = A at hD hX ⊢
  have hA : ∀ q : Nat, s.heap.size ≤ q → A q := fun q h => by rw [← hAe]; exact Or.inr h
  have hS : va_S A s.heap s.heap [] := va_S.rf
  have hl := lv_entry ([.long p1, .long p2]) (n := 4) (Nat.le_of_ble_eq_true rfl)
  rw [lg_entry_eq]
  generalize (lg_sl ([.long p1, .long p2]) ++ List.replicate (4 - (lg_sl ([.long p1, .long p2])).length) Slot.unset).toArray = ls at hl ⊢
  have hl : lv_has ls 4 [(0, .long p1), (2, .long p2)] := hl
  refine lv_lload_n hx hb dX10_remainder_0 rfl (lv_at hl 1 rfl) ?_
  refine lv_lconst (v := 0) hx hb dX10_remainder_1 (by decide) ?_
  refine W.lcmp hx hb dX10_remainder_2 ?_
  refine lv_if_ne (tgt := 10) hx hb dX10_remainder_3 (by decide) (fun hc_1 => ?_) (fun hc_1 => ?_)
  · refine lv_lload_n hx hb dX10_remainder_10 rfl (lv_at hl 0 rfl) ?_
    refine lv_lload_n hx hb dX10_remainder_11 rfl (lv_at hl 1 rfl) ?_
    refine lv_lrem hx hb dX10_remainder_12 (fun h9 => hc_1 (by rw [h9]; exact cm_lceq 0)) ?_
    refine lv_topl (fun x_2 _ => ?_)
    exact W.lret (v := x_2) hx hb hr (fun t ht hW => ⟨⟨x_2, ws, rfl, hT, by rw [ht]; exact hP, by rw [hAe]; exact hD⟩, hS.F ht⟩) hS.2.2 dX10_remainder_13
  · refine lv_lconst (v := 0) hx hb dX10_remainder_6 (by decide) ?_
    refine lv_goto (tgt := 13) hx hb dX10_remainder_7 (by decide) ?_
    exact W.lret (v := 0) hx hb hr (fun t ht hW => ⟨⟨0, ws, rfl, hT, by rw [ht]; exact hP, by rw [hAe]; exact hD⟩, hS.F ht⟩) hS.2.2 dX10_remainder_13
theorem dX10_nameCode_0 : decode cX10_nameCode 0 = .ok (.lconst 0, 1) := by decide +kernel
theorem dX10_nameCode_1 : decode cX10_nameCode 1 = .ok (.lstore_n 3, 1) := by decide +kernel
theorem dX10_nameCode_2 : decode cX10_nameCode 2 = .ok (.iload_n 1, 1) := by decide +kernel
theorem dX10_nameCode_3 : decode cX10_nameCode 3 = .ok (.istore 5, 2) := by decide +kernel
theorem dX10_nameCode_5 : decode cX10_nameCode 5 = .ok (.iload 5, 2) := by decide +kernel
theorem dX10_nameCode_7 : decode cX10_nameCode 7 = .ok (.iload_n 2, 1) := by decide +kernel
theorem dX10_nameCode_8 : decode cX10_nameCode 8 = .ok (.if_icmp .ge 23, 3) := by decide +kernel
theorem dX10_nameCode_11 : decode cX10_nameCode 11 = .ok (.lload_n 3, 1) := by decide +kernel
theorem dX10_nameCode_12 : decode cX10_nameCode 12 = .ok (.ldc2_w 377, 3) := by decide +kernel
theorem dX10_nameCode_15 : decode cX10_nameCode 15 = .ok (.lmul, 1) := by decide +kernel
theorem dX10_nameCode_16 : decode cX10_nameCode 16 = .ok (.aload_n 0, 1) := by decide +kernel
theorem dX10_nameCode_17 : decode cX10_nameCode 17 = .ok (.iload 5, 2) := by decide +kernel
theorem dX10_nameCode_19 : decode cX10_nameCode 19 = .ok (.invokestatic 216, 3) := by decide +kernel
theorem dX10_nameCode_22 : decode cX10_nameCode 22 = .ok (.i2l, 1) := by decide +kernel
theorem dX10_nameCode_23 : decode cX10_nameCode 23 = .ok (.ladd, 1) := by decide +kernel
theorem dX10_nameCode_24 : decode cX10_nameCode 24 = .ok (.lstore_n 3, 1) := by decide +kernel
theorem dX10_nameCode_25 : decode cX10_nameCode 25 = .ok (.iinc 5 1, 3) := by decide +kernel
theorem dX10_nameCode_28 : decode cX10_nameCode 28 = .ok (.goto (-23), 3) := by decide +kernel
theorem dX10_nameCode_31 : decode cX10_nameCode 31 = .ok (.lload_n 3, 1) := by decide +kernel
theorem dX10_nameCode_32 : decode cX10_nameCode 32 = .ok (.lreturn, 1) := by decide +kernel
set_option maxRecDepth 100000 in
set_option maxHeartbeats 4000000 in
theorem t_X10_nameCode (l : Launch) (D : va_G) (ct : Nat → ClassId) (S : ty_S) (ws : va_W) (ph : va_W → Prop) (xx : Nat → Nat → Nat → Prop) (p1 : Nat) (np1 : Nat) (p2 : Int32) (p3 : Int32) (sz : Nat) (hT : ty_V ct S ph ws) (h_p1 : S p1 = some (.inr (0, np1))) (hph : ty_C ph xx) (hy1 : ty_y1 xx) : Met l yX10_nameCode (ws_ yX10_nameCode cX10_nameCode 6 (some .long)) ({ frames := 1, cells := 0, slots := 0, locals := 21 } : Room) (va_Pc [.ref p1, .int p2, .int p3] (cmP D ct sz ([] ++ ws))) (va_Ql (fun (r : Int64) (u9 : va_W) => ty_V ct S ph u9) (cmB D ([] ++ ws) sz (fun (u9 : va_W) => ([] ++ u9))) (va_A ([] ++ ws) sz)) 0 0 (va_A ([] ++ ws) sz) := by
  refine Met.ofW (cc := cX10_nameCode) (maxL := 6) (ret := (some .long)) (by decide) rfl ?_
  intro p e s m args below meth c s₁ B hml hv
  obtain ⟨rfl, hsz, hP, hK, hD0, hX⟩ := hv
  have hx := B.exec
  have hb := B.bytes
  have hr := B.returns
  have hts := ws_all (atoms_spec (ws := ws_ yX10_nameCode cX10_nameCode 6 (some .long)) B.pre)
  have hown : s.vm.findClass RX10 = some m.cls := findClass_of_methodNamed B.named
  have hlocks := B.notSynchronized
  subst hsz
  have hD := hD0.self (sz := s.heap.size)
  generalize hAe : va_A ([] ++ ws) s.heap.size = A at hD hX ⊢
  have hA : ∀ q : Nat, s.heap.size ≤ q → A q := fun q h => by rw [← hAe]; exact Or.inr h
  have hS : va_S A s.heap s.heap [] := va_S.rf
  have hl := lv_entry ([.ref p1, .int p2, .int p3]) (n := 6) (Nat.le_of_ble_eq_true rfl)
  rw [lg_entry_eq]
  generalize (lg_sl ([.ref p1, .int p2, .int p3]) ++ List.replicate (6 - (lg_sl ([.ref p1, .int p2, .int p3])).length) Slot.unset).toArray = ls at hl ⊢
  have hl : lv_has ls 6 [(0, .ref p1), (1, .int p2), (2, .int p3)] := hl
  refine lv_lconst (v := 0) hx hb dX10_nameCode_0 (by decide) ?_
  refine lv_lstore_n (lv' := [(3, .long 0), (0, .ref p1), (1, .int p2), (2, .int p3)]) hx hb dX10_nameCode_1 rfl hl (by decide) rfl (fun ls hl => ?_)
  refine lv_iload_n hx hb dX10_nameCode_2 rfl (lv_at hl 2 rfl) ?_
  refine lv_istore (lv' := [(5, .int p2), (3, .long 0), (0, .ref p1), (1, .int p2), (2, .int p3)]) hx hb dX10_nameCode_3 hl (by decide) rfl (fun ls hl => ?_)
  refine ty_loop (I := fun μ H locs ls => ∃ (ws : va_W) (y_1 : Int64) (y_2 : Int32), μ = (2147483648 - y_2.toInt).toNat ∧ ty_V ct S ph ws ∧ va_P D vwCl ([] ++ ws) H ∧ va_D A ([] ++ ws) ∧ va_S A s.heap H locs ∧ lv_has ls 6 [(0, .ref p1), (1, .int p2), (2, .int p3), (3, .long y_1), (5, .int y_2)]) ⟨_, ws, (0 : Int64), p2, rfl, hT, hP, hD, hS, (lv_sub hl [2, 3, 4, 1, 0] rfl)⟩ (fun μ H locs ls hI ih_5 => ?_)
  obtain ⟨ws, y_1, y_2, rfl, hT, hP, hD, hS, hl⟩ := hI
  refine lv_iload hx hb dX10_nameCode_5 (lv_at hl 4 rfl) ?_
  refine lv_iload_n hx hb dX10_nameCode_7 rfl (lv_at hl 2 rfl) ?_
  refine lv_icmp_ge (tgt := 31) hx hb dX10_nameCode_8 (by decide) (fun hc_3 => ?_) (fun hc_3 => ?_)
  · refine lv_lload_n hx hb dX10_nameCode_31 rfl (lv_at hl 3 rfl) ?_
    exact W.lret (v := y_1) hx hb hr (fun t ht hW => ⟨⟨y_1, ws, rfl, hT, by rw [ht]; exact hP, by rw [hAe]; exact hD⟩, hS.F ht⟩) hS.2.2 dX10_nameCode_32
  · refine lv_lload_n hx hb dX10_nameCode_11 rfl (lv_at hl 3 rfl) ?_
    refine lv_ldc2 hx hb hown (hts _ kl_RX10_377) dX10_nameCode_12 ?_
    refine lv_lmul hx hb dX10_nameCode_15 ?_
    refine lv_topl (fun x_4 _ => ?_)
    refine lv_aload_n hx hb dX10_nameCode_16 rfl (lv_at hl 0 rfl) ?_
    refine lv_iload hx hb dX10_nameCode_17 (lv_at hl 4 rfl) ?_
    refine ty_ki (wr := []) (wc := ([] ++ ws)) (va_runS (As := [.ref p1, .int y_2]) (rest := [.long x_4]) ⟨hx, hb, hml, hown, hts⟩ (t_X10_at l D ct S ws ph xx p1 np1 y_2 _ hT h_p1 hph hy1) (cm_S 2 hts kc_X10_at ki_RX10 kl_RX10_216 ks_X10_at kd_X10_at ⟨Nat.le_of_ble_eq_true rfl, Nat.le_of_ble_eq_true rfl⟩) (ty_preS (wr := []) (wc := ([] ++ ws)) hP hK hD hS hA hX) rfl rfl hl.1 rfl (lv_room (Nat.le_of_ble_eq_true rfl)) dX10_nameCode_19 ⟨Nat.le_of_ble_eq_true rfl, Nat.le_of_ble_eq_true rfl⟩) hP hD hS hA (fun r_5 u H locs hw_6 hP hD hS => ?_)
    obtain ⟨ws_7, rfl⟩ : ∃ z, z = u := ⟨_, rfl⟩
    have hT := hw_6
    have hP : va_P D vwCl ([] ++ ws_7) H := hP
    have hD : va_D A ([] ++ ws_7) := hD
    refine lv_i2l hx hb dX10_nameCode_22 rfl ?_
    refine lv_topl (fun x_8 _ => ?_)
    refine lv_ladd hx hb dX10_nameCode_23 ?_
    refine lv_topl (fun x_9 _ => ?_)
    refine lv_lstore_n (lv' := [(3, .long x_9), (0, .ref p1), (1, .int p2), (2, .int p3), (5, .int y_2)]) hx hb dX10_nameCode_24 rfl hl (by decide) rfl (fun ls hl => ?_)
    refine lv_iinc (v := (y_2 + Int32.ofInt 1)) (lv' := [(5, .int (y_2 + Int32.ofInt 1)), (3, .long x_9), (0, .ref p1), (1, .int p2), (2, .int p3)]) hx hb dX10_nameCode_25 hl (k := 4) rfl rfl (by decide) rfl (fun ls hl => ?_)
    refine lv_goto (tgt := 5) hx hb dX10_nameCode_28 (by decide) ?_
    exact ih_5 _ _ _ _ (ty_inc (cm_lt hc_3)) ⟨ws_7, x_9, (y_2 + Int32.ofInt 1), rfl, hT, hP, hD, hS, (lv_sub hl [2, 3, 4, 1, 0] rfl)⟩
theorem dJ6_compare_7cf53_0 : decode cJ6_compare_7cf53 0 = .ok (.iload_n 0, 1) := by decide +kernel
theorem dJ6_compare_7cf53_1 : decode cJ6_compare_7cf53 1 = .ok (.iload_n 1, 1) := by decide +kernel
theorem dJ6_compare_7cf53_2 : decode cJ6_compare_7cf53 2 = .ok (.if_icmp .ge 7, 3) := by decide +kernel
theorem dJ6_compare_7cf53_5 : decode cJ6_compare_7cf53 5 = .ok (.iconst (-1), 1) := by decide +kernel
theorem dJ6_compare_7cf53_6 : decode cJ6_compare_7cf53 6 = .ok (.goto 13, 3) := by decide +kernel
theorem dJ6_compare_7cf53_9 : decode cJ6_compare_7cf53 9 = .ok (.iload_n 0, 1) := by decide +kernel
theorem dJ6_compare_7cf53_10 : decode cJ6_compare_7cf53 10 = .ok (.iload_n 1, 1) := by decide +kernel
theorem dJ6_compare_7cf53_11 : decode cJ6_compare_7cf53 11 = .ok (.if_icmp .ne 7, 3) := by decide +kernel
theorem dJ6_compare_7cf53_14 : decode cJ6_compare_7cf53 14 = .ok (.iconst 0, 1) := by decide +kernel
theorem dJ6_compare_7cf53_15 : decode cJ6_compare_7cf53 15 = .ok (.goto 4, 3) := by decide +kernel
theorem dJ6_compare_7cf53_18 : decode cJ6_compare_7cf53 18 = .ok (.iconst 1, 1) := by decide +kernel
theorem dJ6_compare_7cf53_19 : decode cJ6_compare_7cf53 19 = .ok (.ireturn, 1) := by decide +kernel
set_option maxRecDepth 100000 in
set_option maxHeartbeats 4000000 in
theorem t_J6_compare_7cf53 (l : Launch) (D : va_G) (ct : Nat → ClassId) (S : ty_S) (ws : va_W) (ph : va_W → Prop) (xx : Nat → Nat → Nat → Prop) (p1 : Int32) (p2 : Int32) (sz : Nat) (hT : ty_V ct S ph ws) (hph : ty_C ph xx) (hy1 : ty_y1 xx) : Met l yJ6_compare_7cf53 (ws_ yJ6_compare_7cf53 cJ6_compare_7cf53 2 (some .int)) ({ frames := 0, cells := 0, slots := 0, locals := 0 } : Room) (va_Pc [.int p1, .int p2] (cmP D ct sz ([] ++ ws))) (va_Qi (fun (r : Int32) (u9 : va_W) => ty_V ct S ph u9) (cmB D ([] ++ ws) sz (fun (u9 : va_W) => ([] ++ u9))) (va_A ([] ++ ws) sz)) 0 0 (va_A ([] ++ ws) sz) := by
  refine Met.ofW (cc := cJ6_compare_7cf53) (maxL := 2) (ret := (some .int)) (by decide) rfl ?_
  intro p e s m args below meth c s₁ B hml hv
  obtain ⟨rfl, hsz, hP, hK, hD0, hX⟩ := hv
  have hx := B.exec
  have hb := B.bytes
  have hr := B.returns
  have hts := ws_all (atoms_spec (ws := ws_ yJ6_compare_7cf53 cJ6_compare_7cf53 2 (some .int)) B.pre)
  have hown : s.vm.findClass RJ6 = some m.cls := findClass_of_methodNamed B.named
  have hlocks := B.notSynchronized
  subst hsz
  have hD := hD0.self (sz := s.heap.size)
  generalize hAe : va_A ([] ++ ws) s.heap.size = A at hD hX ⊢
  have hA : ∀ q : Nat, s.heap.size ≤ q → A q := fun q h => by rw [← hAe]; exact Or.inr h
  have hS : va_S A s.heap s.heap [] := va_S.rf
  have hl := lv_entry ([.int p1, .int p2]) (n := 2) (Nat.le_of_ble_eq_true rfl)
  rw [lg_entry_eq]
  generalize (lg_sl ([.int p1, .int p2]) ++ List.replicate (2 - (lg_sl ([.int p1, .int p2])).length) Slot.unset).toArray = ls at hl ⊢
  have hl : lv_has ls 2 [(0, .int p1), (1, .int p2)] := hl
  refine lv_iload_n hx hb dJ6_compare_7cf53_0 rfl (lv_at hl 0 rfl) ?_
  refine lv_iload_n hx hb dJ6_compare_7cf53_1 rfl (lv_at hl 1 rfl) ?_
  refine lv_icmp_ge (tgt := 9) hx hb dJ6_compare_7cf53_2 (by decide) (fun hc_1 => ?_) (fun hc_1 => ?_)
  · refine lv_iload_n hx hb dJ6_compare_7cf53_9 rfl (lv_at hl 0 rfl) ?_
    refine lv_iload_n hx hb dJ6_compare_7cf53_10 rfl (lv_at hl 1 rfl) ?_
    refine lv_icmp_ne (tgt := 18) hx hb dJ6_compare_7cf53_11 (by decide) (fun hc_2 => ?_) (fun hc_2 => ?_)
    · refine lv_iconst (v := 1) hx hb dJ6_compare_7cf53_18 (by decide) ?_
      exact W.iret (v := 1) hx hb hr (fun t ht hW => ⟨⟨1, ws, rfl, hT, by rw [ht]; exact hP, by rw [hAe]; exact hD⟩, hS.F ht⟩) hS.2.2 dJ6_compare_7cf53_19
    · refine lv_iconst (v := 0) hx hb dJ6_compare_7cf53_14 (by decide) ?_
      refine lv_goto (tgt := 19) hx hb dJ6_compare_7cf53_15 (by decide) ?_
      exact W.iret (v := 0) hx hb hr (fun t ht hW => ⟨⟨0, ws, rfl, hT, by rw [ht]; exact hP, by rw [hAe]; exact hD⟩, hS.F ht⟩) hS.2.2 dJ6_compare_7cf53_19
  · refine lv_iconst (v := (-1)) hx hb dJ6_compare_7cf53_5 (by decide) ?_
    refine lv_goto (tgt := 19) hx hb dJ6_compare_7cf53_6 (by decide) ?_
    exact W.iret (v := (-1)) hx hb hr (fun t ht hW => ⟨⟨(-1), ws, rfl, hT, by rw [ht]; exact hP, by rw [hAe]; exact hD⟩, hS.F ht⟩) hS.2.2 dJ6_compare_7cf53_19
theorem dJ6_bitCount_0f7a4_0 : decode cJ6_bitCount_0f7a4 0 = .ok (.iload_n 0, 1) := by decide +kernel
theorem dJ6_bitCount_0f7a4_1 : decode cJ6_bitCount_0f7a4 1 = .ok (.iload_n 0, 1) := by decide +kernel
theorem dJ6_bitCount_0f7a4_2 : decode cJ6_bitCount_0f7a4 2 = .ok (.iconst 1, 1) := by decide +kernel
theorem dJ6_bitCount_0f7a4_3 : decode cJ6_bitCount_0f7a4 3 = .ok (.iushr, 1) := by decide +kernel
theorem dJ6_bitCount_0f7a4_4 : decode cJ6_bitCount_0f7a4 4 = .ok (.ldc_w 265, 3) := by decide +kernel
theorem dJ6_bitCount_0f7a4_7 : decode cJ6_bitCount_0f7a4 7 = .ok (.iand, 1) := by decide +kernel
theorem dJ6_bitCount_0f7a4_8 : decode cJ6_bitCount_0f7a4 8 = .ok (.isub, 1) := by decide +kernel
theorem dJ6_bitCount_0f7a4_9 : decode cJ6_bitCount_0f7a4 9 = .ok (.istore_n 0, 1) := by decide +kernel
theorem dJ6_bitCount_0f7a4_10 : decode cJ6_bitCount_0f7a4 10 = .ok (.iload_n 0, 1) := by decide +kernel
theorem dJ6_bitCount_0f7a4_11 : decode cJ6_bitCount_0f7a4 11 = .ok (.ldc_w 266, 3) := by decide +kernel
theorem dJ6_bitCount_0f7a4_14 : decode cJ6_bitCount_0f7a4 14 = .ok (.iand, 1) := by decide +kernel
theorem dJ6_bitCount_0f7a4_15 : decode cJ6_bitCount_0f7a4 15 = .ok (.iload_n 0, 1) := by decide +kernel
theorem dJ6_bitCount_0f7a4_16 : decode cJ6_bitCount_0f7a4 16 = .ok (.iconst 2, 1) := by decide +kernel
theorem dJ6_bitCount_0f7a4_17 : decode cJ6_bitCount_0f7a4 17 = .ok (.iushr, 1) := by decide +kernel
theorem dJ6_bitCount_0f7a4_18 : decode cJ6_bitCount_0f7a4 18 = .ok (.ldc_w 266, 3) := by decide +kernel
theorem dJ6_bitCount_0f7a4_21 : decode cJ6_bitCount_0f7a4 21 = .ok (.iand, 1) := by decide +kernel
theorem dJ6_bitCount_0f7a4_22 : decode cJ6_bitCount_0f7a4 22 = .ok (.iadd, 1) := by decide +kernel
theorem dJ6_bitCount_0f7a4_23 : decode cJ6_bitCount_0f7a4 23 = .ok (.istore_n 0, 1) := by decide +kernel
theorem dJ6_bitCount_0f7a4_24 : decode cJ6_bitCount_0f7a4 24 = .ok (.iload_n 0, 1) := by decide +kernel
theorem dJ6_bitCount_0f7a4_25 : decode cJ6_bitCount_0f7a4 25 = .ok (.iload_n 0, 1) := by decide +kernel
theorem dJ6_bitCount_0f7a4_26 : decode cJ6_bitCount_0f7a4 26 = .ok (.iconst 4, 1) := by decide +kernel
theorem dJ6_bitCount_0f7a4_27 : decode cJ6_bitCount_0f7a4 27 = .ok (.iushr, 1) := by decide +kernel
theorem dJ6_bitCount_0f7a4_28 : decode cJ6_bitCount_0f7a4 28 = .ok (.iadd, 1) := by decide +kernel
theorem dJ6_bitCount_0f7a4_29 : decode cJ6_bitCount_0f7a4 29 = .ok (.ldc_w 267, 3) := by decide +kernel
theorem dJ6_bitCount_0f7a4_32 : decode cJ6_bitCount_0f7a4 32 = .ok (.iand, 1) := by decide +kernel
theorem dJ6_bitCount_0f7a4_33 : decode cJ6_bitCount_0f7a4 33 = .ok (.istore_n 0, 1) := by decide +kernel
theorem dJ6_bitCount_0f7a4_34 : decode cJ6_bitCount_0f7a4 34 = .ok (.iload_n 0, 1) := by decide +kernel
theorem dJ6_bitCount_0f7a4_35 : decode cJ6_bitCount_0f7a4 35 = .ok (.iload_n 0, 1) := by decide +kernel
theorem dJ6_bitCount_0f7a4_36 : decode cJ6_bitCount_0f7a4 36 = .ok (.bipush 8, 2) := by decide +kernel
theorem dJ6_bitCount_0f7a4_38 : decode cJ6_bitCount_0f7a4 38 = .ok (.iushr, 1) := by decide +kernel
theorem dJ6_bitCount_0f7a4_39 : decode cJ6_bitCount_0f7a4 39 = .ok (.iadd, 1) := by decide +kernel
theorem dJ6_bitCount_0f7a4_40 : decode cJ6_bitCount_0f7a4 40 = .ok (.istore_n 0, 1) := by decide +kernel
theorem dJ6_bitCount_0f7a4_41 : decode cJ6_bitCount_0f7a4 41 = .ok (.iload_n 0, 1) := by decide +kernel
theorem dJ6_bitCount_0f7a4_42 : decode cJ6_bitCount_0f7a4 42 = .ok (.iload_n 0, 1) := by decide +kernel
theorem dJ6_bitCount_0f7a4_43 : decode cJ6_bitCount_0f7a4 43 = .ok (.bipush 16, 2) := by decide +kernel
theorem dJ6_bitCount_0f7a4_45 : decode cJ6_bitCount_0f7a4 45 = .ok (.iushr, 1) := by decide +kernel
theorem dJ6_bitCount_0f7a4_46 : decode cJ6_bitCount_0f7a4 46 = .ok (.iadd, 1) := by decide +kernel
theorem dJ6_bitCount_0f7a4_47 : decode cJ6_bitCount_0f7a4 47 = .ok (.istore_n 0, 1) := by decide +kernel
theorem dJ6_bitCount_0f7a4_48 : decode cJ6_bitCount_0f7a4 48 = .ok (.iload_n 0, 1) := by decide +kernel
theorem dJ6_bitCount_0f7a4_49 : decode cJ6_bitCount_0f7a4 49 = .ok (.bipush 63, 2) := by decide +kernel
theorem dJ6_bitCount_0f7a4_51 : decode cJ6_bitCount_0f7a4 51 = .ok (.iand, 1) := by decide +kernel
theorem dJ6_bitCount_0f7a4_52 : decode cJ6_bitCount_0f7a4 52 = .ok (.ireturn, 1) := by decide +kernel
set_option maxRecDepth 100000 in
set_option maxHeartbeats 4000000 in
theorem t_J6_bitCount_0f7a4 (l : Launch) (D : va_G) (ct : Nat → ClassId) (S : ty_S) (ws : va_W) (ph : va_W → Prop) (xx : Nat → Nat → Nat → Prop) (p1 : Int32) (sz : Nat) (hT : ty_V ct S ph ws) (hph : ty_C ph xx) (hy1 : ty_y1 xx) : Met l yJ6_bitCount_0f7a4 (ws_ yJ6_bitCount_0f7a4 cJ6_bitCount_0f7a4 1 (some .int)) ({ frames := 0, cells := 0, slots := 0, locals := 0 } : Room) (va_Pc [.int p1] (cmP D ct sz ([] ++ ws))) (va_Qi (fun (r : Int32) (u9 : va_W) => ty_V ct S ph u9) (cmB D ([] ++ ws) sz (fun (u9 : va_W) => ([] ++ u9))) (va_A ([] ++ ws) sz)) 0 0 (va_A ([] ++ ws) sz) := by
  refine Met.ofW (cc := cJ6_bitCount_0f7a4) (maxL := 1) (ret := (some .int)) (by decide) rfl ?_
  intro p e s m args below meth c s₁ B hml hv
  obtain ⟨rfl, hsz, hP, hK, hD0, hX⟩ := hv
  have hx := B.exec
  have hb := B.bytes
  have hr := B.returns
  have hts := ws_all (atoms_spec (ws := ws_ yJ6_bitCount_0f7a4 cJ6_bitCount_0f7a4 1 (some .int)) B.pre)
  have hown : s.vm.findClass RJ6 = some m.cls := findClass_of_methodNamed B.named
  have hlocks := B.notSynchronized
  subst hsz
  have hD := hD0.self (sz := s.heap.size)
  generalize hAe : va_A ([] ++ ws) s.heap.size = A at hD hX ⊢
  have hA : ∀ q : Nat, s.heap.size ≤ q → A q := fun q h => by rw [← hAe]; exact Or.inr h
  have hS : va_S A s.heap s.heap [] := va_S.rf
  have hl := lv_entry ([.int p1]) (n := 1) (Nat.le_of_ble_eq_true rfl)
  rw [lg_entry_eq]
  generalize (lg_sl ([.int p1]) ++ List.replicate (1 - (lg_sl ([.int p1])).length) Slot.unset).toArray = ls at hl ⊢
  have hl : lv_has ls 1 [(0, .int p1)] := hl
  refine lv_iload_n hx hb dJ6_bitCount_0f7a4_0 rfl (lv_at hl 0 rfl) ?_
  refine lv_iload_n hx hb dJ6_bitCount_0f7a4_1 rfl (lv_at hl 0 rfl) ?_
  refine lv_iconst (v := 1) hx hb dJ6_bitCount_0f7a4_2 (by decide) ?_
  refine lv_iushr hx hb dJ6_bitCount_0f7a4_3 rfl ?_
  refine lv_topi (fun x_1 _ => ?_)
  refine lv_ldcw hx hb hown (hts _ kl_RJ6_265) dJ6_bitCount_0f7a4_4 ?_
  refine lv_iand hx hb dJ6_bitCount_0f7a4_7 ?_
  refine lv_topi (fun x_2 _ => ?_)
  refine lv_topi (fun x_3 _ => ?_)
  refine lv_isub hx hb dJ6_bitCount_0f7a4_8 ?_
  refine lv_topi (fun x_4 _ => ?_)
  refine lv_istore_n (lv' := [(0, .int x_4)]) hx hb dJ6_bitCount_0f7a4_9 rfl hl (by decide) rfl (fun ls hl => ?_)
  refine lv_iload_n hx hb dJ6_bitCount_0f7a4_10 rfl (lv_at hl 0 rfl) ?_
  refine lv_ldcw hx hb hown (hts _ kl_RJ6_266) dJ6_bitCount_0f7a4_11 ?_
  refine lv_iand hx hb dJ6_bitCount_0f7a4_14 ?_
  refine lv_topi (fun x_5 _ => ?_)
  refine lv_topi (fun x_6 _ => ?_)
  refine lv_iload_n hx hb dJ6_bitCount_0f7a4_15 rfl (lv_at hl 0 rfl) ?_
  refine lv_iconst (v := 2) hx hb dJ6_bitCount_0f7a4_16 (by decide) ?_
  refine lv_iushr hx hb dJ6_bitCount_0f7a4_17 rfl ?_
  refine lv_topi (fun x_7 _ => ?_)
  refine lv_ldcw hx hb hown (hts _ kl_RJ6_266) dJ6_bitCount_0f7a4_18 ?_
  refine lv_iand hx hb dJ6_bitCount_0f7a4_21 ?_
  refine lv_topi (fun x_8 _ => ?_)
  refine lv_topi (fun x_9 _ => ?_)
  refine lv_iadd hx hb dJ6_bitCount_0f7a4_22 ?_
  refine lv_topi (fun x_10 _ => ?_)
  refine lv_istore_n (lv' := [(0, .int x_10)]) hx hb dJ6_bitCount_0f7a4_23 rfl hl (by decide) rfl (fun ls hl => ?_)
  refine lv_iload_n hx hb dJ6_bitCount_0f7a4_24 rfl (lv_at hl 0 rfl) ?_
  refine lv_iload_n hx hb dJ6_bitCount_0f7a4_25 rfl (lv_at hl 0 rfl) ?_
  refine lv_iconst (v := 4) hx hb dJ6_bitCount_0f7a4_26 (by decide) ?_
  refine lv_iushr hx hb dJ6_bitCount_0f7a4_27 rfl ?_
  refine lv_topi (fun x_11 _ => ?_)
  refine lv_iadd hx hb dJ6_bitCount_0f7a4_28 ?_
  refine lv_topi (fun x_12 _ => ?_)
  refine lv_ldcw hx hb hown (hts _ kl_RJ6_267) dJ6_bitCount_0f7a4_29 ?_
  refine lv_iand hx hb dJ6_bitCount_0f7a4_32 ?_
  refine lv_topi (fun x_13 _ => ?_)
  refine lv_topi (fun x_14 _ => ?_)
  refine lv_istore_n (lv' := [(0, .int x_14)]) hx hb dJ6_bitCount_0f7a4_33 rfl hl (by decide) rfl (fun ls hl => ?_)
  refine lv_iload_n hx hb dJ6_bitCount_0f7a4_34 rfl (lv_at hl 0 rfl) ?_
  refine lv_iload_n hx hb dJ6_bitCount_0f7a4_35 rfl (lv_at hl 0 rfl) ?_
  refine lv_bipush (v := 8) hx hb dJ6_bitCount_0f7a4_36 (by decide) ?_
  refine lv_iushr hx hb dJ6_bitCount_0f7a4_38 rfl ?_
  refine lv_topi (fun x_15 _ => ?_)
  refine lv_iadd hx hb dJ6_bitCount_0f7a4_39 ?_
  refine lv_topi (fun x_16 _ => ?_)
  refine lv_istore_n (lv' := [(0, .int x_16)]) hx hb dJ6_bitCount_0f7a4_40 rfl hl (by decide) rfl (fun ls hl => ?_)
  refine lv_iload_n hx hb dJ6_bitCount_0f7a4_41 rfl (lv_at hl 0 rfl) ?_
  refine lv_iload_n hx hb dJ6_bitCount_0f7a4_42 rfl (lv_at hl 0 rfl) ?_
  refine lv_bipush (v := 16) hx hb dJ6_bitCount_0f7a4_43 (by decide) ?_
  refine lv_iushr hx hb dJ6_bitCount_0f7a4_45 rfl ?_
  refine lv_topi (fun x_17 _ => ?_)
  refine lv_iadd hx hb dJ6_bitCount_0f7a4_46 ?_
  refine lv_topi (fun x_18 _ => ?_)
  refine lv_istore_n (lv' := [(0, .int x_18)]) hx hb dJ6_bitCount_0f7a4_47 rfl hl (by decide) rfl (fun ls hl => ?_)
  refine lv_iload_n hx hb dJ6_bitCount_0f7a4_48 rfl (lv_at hl 0 rfl) ?_
  refine lv_bipush (v := 63) hx hb dJ6_bitCount_0f7a4_49 (by decide) ?_
  refine lv_iand hx hb dJ6_bitCount_0f7a4_51 ?_
  refine lv_topi (fun x_19 _ => ?_)
  refine lv_topi (fun x_20 _ => ?_)
  exact W.iret (v := x_20) hx hb hr (fun t ht hW => ⟨⟨x_20, ws, rfl, hT, by rw [ht]; exact hP, by rw [hAe]; exact hD⟩, hS.F ht⟩) hS.2.2 dJ6_bitCount_0f7a4_52
theorem dX0_renew_0 : decode cX0_renew 0 = .ok (.aload_n 0, 1) := by decide +kernel
theorem dX0_renew_1 : decode cX0_renew 1 = .ok (.iload_n 1, 1) := by decide +kernel
theorem dX0_renew_2 : decode cX0_renew 2 = .ok (.putfield 42, 3) := by decide +kernel
theorem dX0_renew_5 : decode cX0_renew 5 = .ok (.aload_n 0, 1) := by decide +kernel
theorem dX0_renew_6 : decode cX0_renew 6 = .ok (.iconst 0, 1) := by decide +kernel
theorem dX0_renew_7 : decode cX0_renew 7 = .ok (.putfield 45, 3) := by decide +kernel
theorem dX0_renew_10 : decode cX0_renew 10 = .ok (.aload_n 0, 1) := by decide +kernel
theorem dX0_renew_11 : decode cX0_renew 11 = .ok (.aload_n 0, 1) := by decide +kernel
theorem dX0_renew_12 : decode cX0_renew 12 = .ok (.getfield 48, 3) := by decide +kernel
theorem dX0_renew_15 : decode cX0_renew 15 = .ok (.putfield 51, 3) := by decide +kernel
theorem dX0_renew_18 : decode cX0_renew 18 = .ok (.aload_n 0, 1) := by decide +kernel
theorem dX0_renew_19 : decode cX0_renew 19 = .ok (.iconst 0, 1) := by decide +kernel
theorem dX0_renew_20 : decode cX0_renew 20 = .ok (.putfield 54, 3) := by decide +kernel
theorem dX0_renew_23 : decode cX0_renew 23 = .ok (.aload_n 0, 1) := by decide +kernel
theorem dX0_renew_24 : decode cX0_renew 24 = .ok (.iconst 0, 1) := by decide +kernel
theorem dX0_renew_25 : decode cX0_renew 25 = .ok (.putfield 57, 3) := by decide +kernel
theorem dX0_renew_28 : decode cX0_renew 28 = .ok (.aload_n 0, 1) := by decide +kernel
theorem dX0_renew_29 : decode cX0_renew 29 = .ok (.iload_n 2, 1) := by decide +kernel
theorem dX0_renew_30 : decode cX0_renew 30 = .ok (.putfield 60, 3) := by decide +kernel
theorem dX0_renew_33 : decode cX0_renew 33 = .ok (.aload_n 0, 1) := by decide +kernel
theorem dX0_renew_34 : decode cX0_renew 34 = .ok (.iconst 0, 1) := by decide +kernel
theorem dX0_renew_35 : decode cX0_renew 35 = .ok (.putfield 63, 3) := by decide +kernel
theorem dX0_renew_38 : decode cX0_renew 38 = .ok (.aload_n 0, 1) := by decide +kernel
theorem dX0_renew_39 : decode cX0_renew 39 = .ok (.iconst 0, 1) := by decide +kernel
theorem dX0_renew_40 : decode cX0_renew 40 = .ok (.putfield 66, 3) := by decide +kernel
theorem dX0_renew_43 : decode cX0_renew 43 = .ok (.aload_n 0, 1) := by decide +kernel
theorem dX0_renew_44 : decode cX0_renew 44 = .ok (.iconst 0, 1) := by decide +kernel
theorem dX0_renew_45 : decode cX0_renew 45 = .ok (.putfield 69, 3) := by decide +kernel
theorem dX0_renew_48 : decode cX0_renew 48 = .ok (.aload_n 0, 1) := by decide +kernel
theorem dX0_renew_49 : decode cX0_renew 49 = .ok (.getfield 18, 3) := by decide +kernel
theorem dX0_renew_52 : decode cX0_renew 52 = .ok (.invokevirtual 72, 3) := by decide +kernel
theorem dX0_renew_55 : decode cX0_renew 55 = .ok (.return_, 1) := by decide +kernel
set_option maxRecDepth 100000 in
set_option maxHeartbeats 4000000 in
theorem t_X0_renew (l : Launch) (D : va_G) (ct : Nat → ClassId) (S : ty_S) (ws : va_W) (ph : va_W → Prop) (xx : Nat → Nat → Nat → Prop) (h0 : Nat) (p1 : Int32) (p2 : Int32) (sz : Nat) (hT : ty_V ct S ph ws) (h_h0 : S h0 = some (.inl 0)) (hph : ty_C ph xx) (hy1 : ty_y1 xx) : Met l yX0_renew (ws_ yX0_renew cX0_renew 3 none) ({ frames := 1, cells := 0, slots := 0, locals := 20 } : Room) (va_Pc [.ref h0, .int p1, .int p2] (cmP D ct sz ([] ++ ws))) (va_Qv (fun (u9 : va_W) => ty_V ct S ph u9) (cmB D ([] ++ ws) sz (fun (u9 : va_W) => ([] ++ u9))) (va_A ([] ++ ws) sz)) 0 0 (va_A ([] ++ ws) sz) := by
  refine Met.ofW (cc := cX0_renew) (maxL := 3) (ret := none) (by decide) rfl ?_
  intro p e s m args below meth c s₁ B hml hv
  obtain ⟨rfl, hsz, hP, hK, hD0, hX⟩ := hv
  have hx := B.exec
  have hb := B.bytes
  have hr := B.returns
  have hts := ws_all (atoms_spec (ws := ws_ yX0_renew cX0_renew 3 none) B.pre)
  have hown : s.vm.findClass RX0 = some m.cls := findClass_of_methodNamed B.named
  have hlocks := B.notSynchronized
  subst hsz
  have hD := hD0.self (sz := s.heap.size)
  generalize hAe : va_A ([] ++ ws) s.heap.size = A at hD hX ⊢
  have hA : ∀ q : Nat, s.heap.size ≤ q → A q := fun q h => by rw [← hAe]; exact Or.inr h
  have hS : va_S A s.heap s.heap [] := va_S.rf
  have hl := lv_entry ([.ref h0, .int p1, .int p2]) (n := 3) (Nat.le_of_ble_eq_true rfl)
  rw [lg_entry_eq]
  generalize (lg_sl ([.ref h0, .int p1, .int p2]) ++ List.replicate (3 - (lg_sl ([.ref h0, .int p1, .int p2])).length) Slot.unset).toArray = ls at hl ⊢
  have hl : lv_has ls 3 [(0, .ref h0), (1, .int p1), (2, .int p2)] := hl
  refine lv_aload_n hx hb dX0_renew_0 rfl (lv_at hl 0 rfl) ?_
  refine lv_iload_n hx hb dX0_renew_1 rfl (lv_at hl 1 rfl) ?_
  refine ty_put (v := .int p1) (ty := .int) (E := []) (ws := ws) (D := D) (ci := 0) (C := RX0) (T := TX0) (N := 16) hx hb hts in_X0 tyX0 tyX0_ok nmX0 hown hK hP hD hS hT h_h0 rfl 6 (by decide) (hts _ kl_RX0_42) (fun _ h9 => h9) rfl (by decide +kernel) rfl rfl rfl ⟨_, rfl⟩ dX0_renew_2 hph (hy1 0 6 h0 rfl) (fun ws_1 H locs hT hP hD hS => ?_)
  refine lv_aload_n hx hb dX0_renew_5 rfl (lv_at hl 0 rfl) ?_
  refine lv_iconst (v := 0) hx hb dX0_renew_6 (by decide) ?_
  refine ty_put (v := .int 0) (ty := .int) (E := []) (ws := ws_1) (D := D) (ci := 0) (C := RX0) (T := TX0) (N := 16) hx hb hts in_X0 tyX0 tyX0_ok nmX0 hown hK hP hD hS hT h_h0 rfl 7 (by decide) (hts _ kl_RX0_45) (fun _ h9 => h9) rfl (by decide +kernel) rfl rfl rfl ⟨_, rfl⟩ dX0_renew_7 hph (hy1 0 7 h0 rfl) (fun ws_2 H locs hT hP hD hS => ?_)
  refine lv_aload_n hx hb dX0_renew_10 rfl (lv_at hl 0 rfl) ?_
  refine lv_aload_n hx hb dX0_renew_11 rfl (lv_at hl 0 rfl) ?_
  refine ty_get (E := []) (ws := ws_2) (D := D) (ci := 0) (C := RX0) (T := TX0) (N := 16) hx hb hts in_X0 hown hK hP hT h_h0 rfl 2 (by decide) (hts _ kl_RX0_48) (fun _ h9 => h9) rfl dX0_renew_12 (fun _ hv_3 hf_4 => ?_)
  obtain ⟨x_5, rfl⟩ := hv_3
  refine ty_put (v := .int x_5) (ty := .int) (E := []) (ws := ws_2) (D := D) (ci := 0) (C := RX0) (T := TX0) (N := 16) hx hb hts in_X0 tyX0 tyX0_ok nmX0 hown hK hP hD hS hT h_h0 rfl 8 (by decide) (hts _ kl_RX0_51) (fun _ h9 => h9) rfl (by decide +kernel) rfl rfl rfl ⟨_, rfl⟩ dX0_renew_15 hph (hy1 0 8 h0 rfl) (fun ws_6 H locs hT hP hD hS => ?_)
  refine lv_aload_n hx hb dX0_renew_18 rfl (lv_at hl 0 rfl) ?_
  refine lv_iconst (v := 0) hx hb dX0_renew_19 (by decide) ?_
  refine ty_put (v := .int 0) (ty := .int) (E := []) (ws := ws_6) (D := D) (ci := 0) (C := RX0) (T := TX0) (N := 16) hx hb hts in_X0 tyX0 tyX0_ok nmX0 hown hK hP hD hS hT h_h0 rfl 9 (by decide) (hts _ kl_RX0_54) (fun _ h9 => h9) rfl (by decide +kernel) rfl rfl rfl ⟨_, rfl⟩ dX0_renew_20 hph (hy1 0 9 h0 rfl) (fun ws_7 H locs hT hP hD hS => ?_)
  refine lv_aload_n hx hb dX0_renew_23 rfl (lv_at hl 0 rfl) ?_
  refine lv_iconst (v := 0) hx hb dX0_renew_24 (by decide) ?_
  refine ty_put (v := .int 0) (ty := .int) (E := []) (ws := ws_7) (D := D) (ci := 0) (C := RX0) (T := TX0) (N := 16) hx hb hts in_X0 tyX0 tyX0_ok nmX0 hown hK hP hD hS hT h_h0 rfl 10 (by decide) (hts _ kl_RX0_57) (fun _ h9 => h9) rfl (by decide +kernel) rfl rfl rfl ⟨_, rfl⟩ dX0_renew_25 hph (hy1 0 10 h0 rfl) (fun ws_8 H locs hT hP hD hS => ?_)
  refine lv_aload_n hx hb dX0_renew_28 rfl (lv_at hl 0 rfl) ?_
  refine lv_iload_n hx hb dX0_renew_29 rfl (lv_at hl 2 rfl) ?_
  refine ty_put (v := .int p2) (ty := .int) (E := []) (ws := ws_8) (D := D) (ci := 0) (C := RX0) (T := TX0) (N := 16) hx hb hts in_X0 tyX0 tyX0_ok nmX0 hown hK hP hD hS hT h_h0 rfl 11 (by decide) (hts _ kl_RX0_60) (fun _ h9 => h9) rfl (by decide +kernel) rfl rfl rfl ⟨_, rfl⟩ dX0_renew_30 hph (hy1 0 11 h0 rfl) (fun ws_9 H locs hT hP hD hS => ?_)
  refine lv_aload_n hx hb dX0_renew_33 rfl (lv_at hl 0 rfl) ?_
  refine lv_iconst (v := 0) hx hb dX0_renew_34 (by decide) ?_
  refine ty_put (v := .int 0) (ty := .int) (E := []) (ws := ws_9) (D := D) (ci := 0) (C := RX0) (T := TX0) (N := 16) hx hb hts in_X0 tyX0 tyX0_ok nmX0 hown hK hP hD hS hT h_h0 rfl 12 (by decide) (hts _ kl_RX0_63) (fun _ h9 => h9) rfl (by decide +kernel) rfl rfl rfl ⟨_, rfl⟩ dX0_renew_35 hph (hy1 0 12 h0 rfl) (fun ws_10 H locs hT hP hD hS => ?_)
  refine lv_aload_n hx hb dX0_renew_38 rfl (lv_at hl 0 rfl) ?_
  refine lv_iconst (v := 0) hx hb dX0_renew_39 (by decide) ?_
  refine ty_put (v := .int 0) (ty := .int) (E := []) (ws := ws_10) (D := D) (ci := 0) (C := RX0) (T := TX0) (N := 16) hx hb hts in_X0 tyX0 tyX0_ok nmX0 hown hK hP hD hS hT h_h0 rfl 13 (by decide) (hts _ kl_RX0_66) (fun _ h9 => h9) rfl (by decide +kernel) rfl rfl rfl ⟨_, rfl⟩ dX0_renew_40 hph (hy1 0 13 h0 rfl) (fun ws_11 H locs hT hP hD hS => ?_)
  refine lv_aload_n hx hb dX0_renew_43 rfl (lv_at hl 0 rfl) ?_
  refine lv_iconst (v := 0) hx hb dX0_renew_44 (by decide) ?_
  refine ty_put (v := .int 0) (ty := .int) (E := []) (ws := ws_11) (D := D) (ci := 0) (C := RX0) (T := TX0) (N := 16) hx hb hts in_X0 tyX0 tyX0_ok nmX0 hown hK hP hD hS hT h_h0 rfl 14 (by decide) (hts _ kl_RX0_69) (fun _ h9 => h9) rfl (by decide +kernel) rfl rfl rfl ⟨_, rfl⟩ dX0_renew_45 hph (hy1 0 14 h0 rfl) (fun ws_12 H locs hT hP hD hS => ?_)
  refine lv_aload_n hx hb dX0_renew_48 rfl (lv_at hl 0 rfl) ?_
  refine ty_get (E := []) (ws := ws_12) (D := D) (ci := 0) (C := RX0) (T := TX0) (N := 16) hx hb hts in_X0 hown hK hP hT h_h0 rfl 15 (by decide) (hts _ kl_RX0_18) (fun _ h9 => h9) rfl dX0_renew_49 (fun _ hv_13 hf_14 => ?_)
  obtain ⟨a_15, rfl, ha_16⟩ := hv_13
  refine ty_kv (wr := []) (wc := ([] ++ ws_12)) (va_runVN (As := []) (rest := []) ⟨hx, hb, hml, hown, hts⟩ (t_X3_clear l D ct S ws_12 ph xx a_15 _ hT ha_16 hph hy1) (cm_VN 0 hts kc_X3_clear ki_RX3 kl_RX0_72 kv_X3_clear kx_X3_clear kd_X3_clear ⟨Nat.le_of_ble_eq_true rfl, Nat.le_of_ble_eq_true rfl⟩) (ty_preV (wr := []) (E := []) (ws := ws_12) (ci := 3) hP hK hD hS hA hX hT rfl ha_16) rfl rfl hl.1 rfl (lv_room (Nat.le_of_ble_eq_true rfl)) dX0_renew_52 ⟨Nat.le_of_ble_eq_true rfl, Nat.le_of_ble_eq_true rfl⟩) hP hD hS hA (fun u H locs hw_18 hP hD hS => ?_)
  obtain ⟨ws_19, rfl⟩ : ∃ z, z = u := ⟨_, rfl⟩
  have hT := hw_18
  have hP : va_P D vwCl ([] ++ ws_19) H := hP
  have hD : va_D A ([] ++ ws_19) := hD
  exact W.vret hx hb hr (fun t ht hW => ⟨⟨ws_19, rfl, hT, by rw [ht]; exact hP, by rw [hAe]; exact hD⟩, hS.F ht⟩) hS.2.2 dX0_renew_55
theorem dX0_restVoltageAt_0 : decode cX0_restVoltageAt 0 = .ok (.iload_n 1, 1) := by decide +kernel
theorem dX0_restVoltageAt_1 : decode cX0_restVoltageAt 1 = .ok (.i2l, 1) := by decide +kernel
theorem dX0_restVoltageAt_2 : decode cX0_restVoltageAt 2 = .ok (.aload_n 0, 1) := by decide +kernel
theorem dX0_restVoltageAt_3 : decode cX0_restVoltageAt 3 = .ok (.getfield 31, 3) := by decide +kernel
theorem dX0_restVoltageAt_6 : decode cX0_restVoltageAt 6 = .ok (.iconst 1, 1) := by decide +kernel
theorem dX0_restVoltageAt_7 : decode cX0_restVoltageAt 7 = .ok (.isub, 1) := by decide +kernel
theorem dX0_restVoltageAt_8 : decode cX0_restVoltageAt 8 = .ok (.i2l, 1) := by decide +kernel
theorem dX0_restVoltageAt_9 : decode cX0_restVoltageAt 9 = .ok (.lmul, 1) := by decide +kernel
theorem dX0_restVoltageAt_10 : decode cX0_restVoltageAt 10 = .ok (.lstore_n 2, 1) := by decide +kernel
theorem dX0_restVoltageAt_11 : decode cX0_restVoltageAt 11 = .ok (.lload_n 2, 1) := by decide +kernel
theorem dX0_restVoltageAt_12 : decode cX0_restVoltageAt 12 = .ok (.aload_n 0, 1) := by decide +kernel
theorem dX0_restVoltageAt_13 : decode cX0_restVoltageAt 13 = .ok (.getfield 51, 3) := by decide +kernel
theorem dX0_restVoltageAt_16 : decode cX0_restVoltageAt 16 = .ok (.i2l, 1) := by decide +kernel
theorem dX0_restVoltageAt_17 : decode cX0_restVoltageAt 17 = .ok (.invokestatic 75, 3) := by decide +kernel
theorem dX0_restVoltageAt_20 : decode cX0_restVoltageAt 20 = .ok (.aload_n 0, 1) := by decide +kernel
theorem dX0_restVoltageAt_21 : decode cX0_restVoltageAt 21 = .ok (.getfield 31, 3) := by decide +kernel
theorem dX0_restVoltageAt_24 : decode cX0_restVoltageAt 24 = .ok (.iconst 2, 1) := by decide +kernel
theorem dX0_restVoltageAt_25 : decode cX0_restVoltageAt 25 = .ok (.isub, 1) := by decide +kernel
theorem dX0_restVoltageAt_26 : decode cX0_restVoltageAt 26 = .ok (.i2l, 1) := by decide +kernel
theorem dX0_restVoltageAt_27 : decode cX0_restVoltageAt 27 = .ok (.invokestatic 79, 3) := by decide +kernel
theorem dX0_restVoltageAt_30 : decode cX0_restVoltageAt 30 = .ok (.l2i, 1) := by decide +kernel
theorem dX0_restVoltageAt_31 : decode cX0_restVoltageAt 31 = .ok (.istore 4, 2) := by decide +kernel
theorem dX0_restVoltageAt_33 : decode cX0_restVoltageAt 33 = .ok (.aload_n 0, 1) := by decide +kernel
theorem dX0_restVoltageAt_34 : decode cX0_restVoltageAt 34 = .ok (.getfield 9, 3) := by decide +kernel
theorem dX0_restVoltageAt_37 : decode cX0_restVoltageAt 37 = .ok (.iload 4, 2) := by decide +kernel
theorem dX0_restVoltageAt_39 : decode cX0_restVoltageAt 39 = .ok (.iconst 1, 1) := by decide +kernel
theorem dX0_restVoltageAt_40 : decode cX0_restVoltageAt 40 = .ok (.iadd, 1) := by decide +kernel
theorem dX0_restVoltageAt_41 : decode cX0_restVoltageAt 41 = .ok (.invokestatic 27, 3) := by decide +kernel
theorem dX0_restVoltageAt_44 : decode cX0_restVoltageAt 44 = .ok (.aload_n 0, 1) := by decide +kernel
theorem dX0_restVoltageAt_45 : decode cX0_restVoltageAt 45 = .ok (.getfield 9, 3) := by decide +kernel
theorem dX0_restVoltageAt_48 : decode cX0_restVoltageAt 48 = .ok (.iload 4, 2) := by decide +kernel
theorem dX0_restVoltageAt_50 : decode cX0_restVoltageAt 50 = .ok (.invokestatic 27, 3) := by decide +kernel
theorem dX0_restVoltageAt_53 : decode cX0_restVoltageAt 53 = .ok (.isub, 1) := by decide +kernel
theorem dX0_restVoltageAt_54 : decode cX0_restVoltageAt 54 = .ok (.i2l, 1) := by decide +kernel
theorem dX0_restVoltageAt_55 : decode cX0_restVoltageAt 55 = .ok (.lstore 5, 2) := by decide +kernel
theorem dX0_restVoltageAt_57 : decode cX0_restVoltageAt 57 = .ok (.aload_n 0, 1) := by decide +kernel
theorem dX0_restVoltageAt_58 : decode cX0_restVoltageAt 58 = .ok (.getfield 9, 3) := by decide +kernel
theorem dX0_restVoltageAt_61 : decode cX0_restVoltageAt 61 = .ok (.iload 4, 2) := by decide +kernel
theorem dX0_restVoltageAt_63 : decode cX0_restVoltageAt 63 = .ok (.invokestatic 27, 3) := by decide +kernel
theorem dX0_restVoltageAt_66 : decode cX0_restVoltageAt 66 = .ok (.i2l, 1) := by decide +kernel
theorem dX0_restVoltageAt_67 : decode cX0_restVoltageAt 67 = .ok (.lload 5, 2) := by decide +kernel
theorem dX0_restVoltageAt_69 : decode cX0_restVoltageAt 69 = .ok (.lload_n 2, 1) := by decide +kernel
theorem dX0_restVoltageAt_70 : decode cX0_restVoltageAt 70 = .ok (.iload 4, 2) := by decide +kernel
theorem dX0_restVoltageAt_72 : decode cX0_restVoltageAt 72 = .ok (.i2l, 1) := by decide +kernel
theorem dX0_restVoltageAt_73 : decode cX0_restVoltageAt 73 = .ok (.aload_n 0, 1) := by decide +kernel
theorem dX0_restVoltageAt_74 : decode cX0_restVoltageAt 74 = .ok (.getfield 51, 3) := by decide +kernel
theorem dX0_restVoltageAt_77 : decode cX0_restVoltageAt 77 = .ok (.i2l, 1) := by decide +kernel
theorem dX0_restVoltageAt_78 : decode cX0_restVoltageAt 78 = .ok (.lmul, 1) := by decide +kernel
theorem dX0_restVoltageAt_79 : decode cX0_restVoltageAt 79 = .ok (.lsub, 1) := by decide +kernel
theorem dX0_restVoltageAt_80 : decode cX0_restVoltageAt 80 = .ok (.lmul, 1) := by decide +kernel
theorem dX0_restVoltageAt_81 : decode cX0_restVoltageAt 81 = .ok (.aload_n 0, 1) := by decide +kernel
theorem dX0_restVoltageAt_82 : decode cX0_restVoltageAt 82 = .ok (.getfield 51, 3) := by decide +kernel
theorem dX0_restVoltageAt_85 : decode cX0_restVoltageAt 85 = .ok (.i2l, 1) := by decide +kernel
theorem dX0_restVoltageAt_86 : decode cX0_restVoltageAt 86 = .ok (.invokestatic 75, 3) := by decide +kernel
theorem dX0_restVoltageAt_89 : decode cX0_restVoltageAt 89 = .ok (.ladd, 1) := by decide +kernel
theorem dX0_restVoltageAt_90 : decode cX0_restVoltageAt 90 = .ok (.l2i, 1) := by decide +kernel
theorem dX0_restVoltageAt_91 : decode cX0_restVoltageAt 91 = .ok (.ireturn, 1) := by decide +kernel
set_option maxRecDepth 100000 in
set_option maxHeartbeats 4000000 in
theorem t_X0_restVoltageAt (l : Launch) (D : va_G) (ct : Nat → ClassId) (S : ty_S) (ws : va_W) (ph : va_W → Prop) (xx : Nat → Nat → Nat → Prop) (h0 : Nat) (p1 : Int32) (sz : Nat) (hT : ty_V ct S ph ws) (h_h0 : S h0 = some (.inl 0)) (hph : ty_C ph xx) (hy1 : ty_y1 xx) : Met l yX0_restVoltageAt (ws_ yX0_restVoltageAt cX0_restVoltageAt 7 (some .int)) ({ frames := 1, cells := 0, slots := 0, locals := 23 } : Room) (va_Pc [.ref h0, .int p1] (cmP D ct sz ([] ++ ws))) (va_Qi (fun (r : Int32) (u9 : va_W) => ty_V ct S ph u9) (cmB D ([] ++ ws) sz (fun (u9 : va_W) => ([] ++ u9))) (va_A ([] ++ ws) sz)) 0 0 (va_A ([] ++ ws) sz) := by
  refine Met.ofW (cc := cX0_restVoltageAt) (maxL := 7) (ret := (some .int)) (by decide) rfl ?_
  intro p e s m args below meth c s₁ B hml hv
  obtain ⟨rfl, hsz, hP, hK, hD0, hX⟩ := hv
  have hx := B.exec
  have hb := B.bytes
  have hr := B.returns
  have hts := ws_all (atoms_spec (ws := ws_ yX0_restVoltageAt cX0_restVoltageAt 7 (some .int)) B.pre)
  have hown : s.vm.findClass RX0 = some m.cls := findClass_of_methodNamed B.named
  have hlocks := B.notSynchronized
  subst hsz
  have hD := hD0.self (sz := s.heap.size)
  generalize hAe : va_A ([] ++ ws) s.heap.size = A at hD hX ⊢
  have hA : ∀ q : Nat, s.heap.size ≤ q → A q := fun q h => by rw [← hAe]; exact Or.inr h
  have hS : va_S A s.heap s.heap [] := va_S.rf
  have hl := lv_entry ([.ref h0, .int p1]) (n := 7) (Nat.le_of_ble_eq_true rfl)
  rw [lg_entry_eq]
  generalize (lg_sl ([.ref h0, .int p1]) ++ List.replicate (7 - (lg_sl ([.ref h0, .int p1])).length) Slot.unset).toArray = ls at hl ⊢
  have hl : lv_has ls 7 [(0, .ref h0), (1, .int p1)] := hl
  refine lv_iload_n hx hb dX0_restVoltageAt_0 rfl (lv_at hl 1 rfl) ?_
  refine lv_i2l hx hb dX0_restVoltageAt_1 rfl ?_
  refine lv_topl (fun x_1 _ => ?_)
  refine lv_aload_n hx hb dX0_restVoltageAt_2 rfl (lv_at hl 0 rfl) ?_
  refine ty_get (E := []) (ws := ws) (D := D) (ci := 0) (C := RX0) (T := TX0) (N := 16) hx hb hts in_X0 hown hK hP hT h_h0 rfl 1 (by decide) (hts _ kl_RX0_31) (fun _ h9 => h9) rfl dX0_restVoltageAt_3 (fun _ hv_2 hf_3 => ?_)
  obtain ⟨x_4, rfl⟩ := hv_2
  refine lv_iconst (v := 1) hx hb dX0_restVoltageAt_6 (by decide) ?_
  refine lv_isub hx hb dX0_restVoltageAt_7 ?_
  refine lv_topi (fun x_5 _ => ?_)
  refine lv_i2l hx hb dX0_restVoltageAt_8 rfl ?_
  refine lv_topl (fun x_6 _ => ?_)
  refine lv_lmul hx hb dX0_restVoltageAt_9 ?_
  refine lv_topl (fun x_7 _ => ?_)
  refine lv_lstore_n (lv' := [(2, .long x_7), (0, .ref h0), (1, .int p1)]) hx hb dX0_restVoltageAt_10 rfl hl (by decide) rfl (fun ls hl => ?_)
  refine lv_lload_n hx hb dX0_restVoltageAt_11 rfl (lv_at hl 0 rfl) ?_
  refine lv_aload_n hx hb dX0_restVoltageAt_12 rfl (lv_at hl 1 rfl) ?_
  refine ty_get (E := []) (ws := ws) (D := D) (ci := 0) (C := RX0) (T := TX0) (N := 16) hx hb hts in_X0 hown hK hP hT h_h0 rfl 8 (by decide) (hts _ kl_RX0_51) (fun _ h9 => h9) rfl dX0_restVoltageAt_13 (fun _ hv_8 hf_9 => ?_)
  obtain ⟨x_10, rfl⟩ := hv_8
  refine lv_i2l hx hb dX0_restVoltageAt_16 rfl ?_
  refine lv_topl (fun x_11 _ => ?_)
  refine ty_kl (wr := []) (wc := ([] ++ ws)) (va_runSN (As := [.long x_7, .long x_11]) (rest := []) ⟨hx, hb, hml, hown, hts⟩ (t_X10_quotient l D ct S ws ph xx x_7 x_11 _ hT hph hy1) (cm_SN 2 hts kc_X10_quotient ki_RX10 kl_RX0_75 ks_X10_quotient kd_X10_quotient ⟨Nat.le_of_ble_eq_true rfl, Nat.le_of_ble_eq_true rfl⟩) (ty_preS (wr := []) (wc := ([] ++ ws)) hP hK hD hS hA hX) rfl rfl hl.1 rfl (lv_room (Nat.le_of_ble_eq_true rfl)) dX0_restVoltageAt_17 ⟨Nat.le_of_ble_eq_true rfl, Nat.le_of_ble_eq_true rfl⟩) hP hD hS hA (fun r_12 u H locs hw_13 hP hD hS => ?_)
  obtain ⟨ws_14, rfl⟩ : ∃ z, z = u := ⟨_, rfl⟩
  have hT := hw_13
  have hP : va_P D vwCl ([] ++ ws_14) H := hP
  have hD : va_D A ([] ++ ws_14) := hD
  refine lv_aload_n hx hb dX0_restVoltageAt_20 rfl (lv_at hl 1 rfl) ?_
  refine ty_get (E := []) (ws := ws_14) (D := D) (ci := 0) (C := RX0) (T := TX0) (N := 16) hx hb hts in_X0 hown hK hP hT h_h0 rfl 1 (by decide) (hts _ kl_RX0_31) (fun _ h9 => h9) rfl dX0_restVoltageAt_21 (fun _ hv_15 hf_16 => ?_)
  obtain ⟨x_17, rfl⟩ := hv_15
  refine lv_iconst (v := 2) hx hb dX0_restVoltageAt_24 (by decide) ?_
  refine lv_isub hx hb dX0_restVoltageAt_25 ?_
  refine lv_topi (fun x_18 _ => ?_)
  refine lv_i2l hx hb dX0_restVoltageAt_26 rfl ?_
  refine lv_topl (fun x_19 _ => ?_)
  refine va_mmin_long hx hb (hml.trans hl.1.symm) hown (hts _ kl_RX0_79) (hts _ jm_min_long_s) (hts _ ki_RJ9) (hts _ jm_min_long_c) (Nat.le_of_ble_eq_true rfl) (Nat.le_of_ble_eq_true rfl) (Nat.le_of_ble_eq_true rfl) (Nat.le_of_ble_eq_true rfl) dX0_restVoltageAt_27 ?_
  refine lv_topl (fun x_20 _ => ?_)
  refine lv_l2i hx hb dX0_restVoltageAt_30 rfl ?_
  refine lv_topi (fun x_21 _ => ?_)
  refine lv_istore (lv' := [(4, .int x_21), (2, .long x_7), (0, .ref h0), (1, .int p1)]) hx hb dX0_restVoltageAt_31 hl (by decide) rfl (fun ls hl => ?_)
  refine lv_aload_n hx hb dX0_restVoltageAt_33 rfl (lv_at hl 2 rfl) ?_
  refine ty_get (E := []) (ws := ws_14) (D := D) (ci := 0) (C := RX0) (T := TX0) (N := 16) hx hb hts in_X0 hown hK hP hT h_h0 rfl 0 (by decide) (hts _ kl_RX0_9) (fun _ h9 => h9) rfl dX0_restVoltageAt_34 (fun _ hv_22 hf_23 => ?_)
  obtain ⟨a_24, n_25, rfl, ha_26⟩ := hv_22
  refine lv_iload hx hb dX0_restVoltageAt_37 (lv_at hl 0 rfl) ?_
  refine lv_iconst (v := 1) hx hb dX0_restVoltageAt_39 (by decide) ?_
  refine lv_iadd hx hb dX0_restVoltageAt_40 ?_
  refine lv_topi (fun x_27 _ => ?_)
  refine ty_ki (wr := []) (wc := ([] ++ ws_14)) (va_runSN (As := [.ref a_24, .int x_27]) (rest := []) ⟨hx, hb, hml, hown, hts⟩ (t_X10_at l D ct S ws_14 ph xx a_24 n_25 x_27 _ hT ha_26 hph hy1) (cm_SN 2 hts kc_X10_at ki_RX10 kl_RX0_27 ks_X10_at kd_X10_at ⟨Nat.le_of_ble_eq_true rfl, Nat.le_of_ble_eq_true rfl⟩) (ty_preS (wr := []) (wc := ([] ++ ws_14)) hP hK hD hS hA hX) rfl rfl hl.1 rfl (lv_room (Nat.le_of_ble_eq_true rfl)) dX0_restVoltageAt_41 ⟨Nat.le_of_ble_eq_true rfl, Nat.le_of_ble_eq_true rfl⟩) hP hD hS hA (fun r_28 u H locs hw_29 hP hD hS => ?_)
  obtain ⟨ws_30, rfl⟩ : ∃ z, z = u := ⟨_, rfl⟩
  have hT := hw_29
  have hP : va_P D vwCl ([] ++ ws_30) H := hP
  have hD : va_D A ([] ++ ws_30) := hD
  refine lv_aload_n hx hb dX0_restVoltageAt_44 rfl (lv_at hl 2 rfl) ?_
  refine ty_get (E := []) (ws := ws_30) (D := D) (ci := 0) (C := RX0) (T := TX0) (N := 16) hx hb hts in_X0 hown hK hP hT h_h0 rfl 0 (by decide) (hts _ kl_RX0_9) (fun _ h9 => h9) rfl dX0_restVoltageAt_45 (fun _ hv_31 hf_32 => ?_)
  obtain ⟨a_33, n_34, rfl, ha_35⟩ := hv_31
  refine lv_iload hx hb dX0_restVoltageAt_48 (lv_at hl 0 rfl) ?_
  refine ty_ki (wr := []) (wc := ([] ++ ws_30)) (va_runSN (As := [.ref a_33, .int x_21]) (rest := [.int r_28]) ⟨hx, hb, hml, hown, hts⟩ (t_X10_at l D ct S ws_30 ph xx a_33 n_34 x_21 _ hT ha_35 hph hy1) (cm_SN 2 hts kc_X10_at ki_RX10 kl_RX0_27 ks_X10_at kd_X10_at ⟨Nat.le_of_ble_eq_true rfl, Nat.le_of_ble_eq_true rfl⟩) (ty_preS (wr := []) (wc := ([] ++ ws_30)) hP hK hD hS hA hX) rfl rfl hl.1 rfl (lv_room (Nat.le_of_ble_eq_true rfl)) dX0_restVoltageAt_50 ⟨Nat.le_of_ble_eq_true rfl, Nat.le_of_ble_eq_true rfl⟩) hP hD hS hA (fun r_36 u H locs hw_37 hP hD hS => ?_)
  obtain ⟨ws_38, rfl⟩ : ∃ z, z = u := ⟨_, rfl⟩
  have hT := hw_37
  have hP : va_P D vwCl ([] ++ ws_38) H := hP
  have hD : va_D A ([] ++ ws_38) := hD
  refine lv_isub hx hb dX0_restVoltageAt_53 ?_
  refine lv_topi (fun x_39 _ => ?_)
  refine lv_i2l hx hb dX0_restVoltageAt_54 rfl ?_
  refine lv_topl (fun x_40 _ => ?_)
  refine lv_lstore (lv' := [(5, .long x_40), (4, .int x_21), (2, .long x_7), (0, .ref h0), (1, .int p1)]) hx hb dX0_restVoltageAt_55 hl (by decide) rfl (fun ls hl => ?_)
  refine lv_aload_n hx hb dX0_restVoltageAt_57 rfl (lv_at hl 3 rfl) ?_
  refine ty_get (E := []) (ws := ws_38) (D := D) (ci := 0) (C := RX0) (T := TX0) (N := 16) hx hb hts in_X0 hown hK hP hT h_h0 rfl 0 (by decide) (hts _ kl_RX0_9) (fun _ h9 => h9) rfl dX0_restVoltageAt_58 (fun _ hv_41 hf_42 => ?_)
  obtain ⟨a_43, n_44, rfl, ha_45⟩ := hv_41
  refine lv_iload hx hb dX0_restVoltageAt_61 (lv_at hl 1 rfl) ?_
  refine ty_ki (wr := []) (wc := ([] ++ ws_38)) (va_runSN (As := [.ref a_43, .int x_21]) (rest := []) ⟨hx, hb, hml, hown, hts⟩ (t_X10_at l D ct S ws_38 ph xx a_43 n_44 x_21 _ hT ha_45 hph hy1) (cm_SN 2 hts kc_X10_at ki_RX10 kl_RX0_27 ks_X10_at kd_X10_at ⟨Nat.le_of_ble_eq_true rfl, Nat.le_of_ble_eq_true rfl⟩) (ty_preS (wr := []) (wc := ([] ++ ws_38)) hP hK hD hS hA hX) rfl rfl hl.1 rfl (lv_room (Nat.le_of_ble_eq_true rfl)) dX0_restVoltageAt_63 ⟨Nat.le_of_ble_eq_true rfl, Nat.le_of_ble_eq_true rfl⟩) hP hD hS hA (fun r_46 u H locs hw_47 hP hD hS => ?_)
  obtain ⟨ws_48, rfl⟩ : ∃ z, z = u := ⟨_, rfl⟩
  have hT := hw_47
  have hP : va_P D vwCl ([] ++ ws_48) H := hP
  have hD : va_D A ([] ++ ws_48) := hD
  refine lv_i2l hx hb dX0_restVoltageAt_66 rfl ?_
  refine lv_topl (fun x_49 _ => ?_)
  refine lv_lload hx hb dX0_restVoltageAt_67 (lv_at hl 0 rfl) ?_
  refine lv_lload_n hx hb dX0_restVoltageAt_69 rfl (lv_at hl 2 rfl) ?_
  refine lv_iload hx hb dX0_restVoltageAt_70 (lv_at hl 1 rfl) ?_
  refine lv_i2l hx hb dX0_restVoltageAt_72 rfl ?_
  refine lv_topl (fun x_50 _ => ?_)
  refine lv_aload_n hx hb dX0_restVoltageAt_73 rfl (lv_at hl 3 rfl) ?_
  refine ty_get (E := []) (ws := ws_48) (D := D) (ci := 0) (C := RX0) (T := TX0) (N := 16) hx hb hts in_X0 hown hK hP hT h_h0 rfl 8 (by decide) (hts _ kl_RX0_51) (fun _ h9 => h9) rfl dX0_restVoltageAt_74 (fun _ hv_51 hf_52 => ?_)
  obtain ⟨x_53, rfl⟩ := hv_51
  refine lv_i2l hx hb dX0_restVoltageAt_77 rfl ?_
  refine lv_topl (fun x_54 _ => ?_)
  refine lv_lmul hx hb dX0_restVoltageAt_78 ?_
  refine lv_topl (fun x_55 _ => ?_)
  refine lv_lsub hx hb dX0_restVoltageAt_79 ?_
  refine lv_topl (fun x_56 _ => ?_)
  refine lv_lmul hx hb dX0_restVoltageAt_80 ?_
  refine lv_topl (fun x_57 _ => ?_)
  refine lv_aload_n hx hb dX0_restVoltageAt_81 rfl (lv_at hl 3 rfl) ?_
  refine ty_get (E := []) (ws := ws_48) (D := D) (ci := 0) (C := RX0) (T := TX0) (N := 16) hx hb hts in_X0 hown hK hP hT h_h0 rfl 8 (by decide) (hts _ kl_RX0_51) (fun _ h9 => h9) rfl dX0_restVoltageAt_82 (fun _ hv_58 hf_59 => ?_)
  obtain ⟨x_60, rfl⟩ := hv_58
  refine lv_i2l hx hb dX0_restVoltageAt_85 rfl ?_
  refine lv_topl (fun x_61 _ => ?_)
  refine ty_kl (wr := []) (wc := ([] ++ ws_48)) (va_runSN (As := [.long x_57, .long x_61]) (rest := [.long x_49]) ⟨hx, hb, hml, hown, hts⟩ (t_X10_quotient l D ct S ws_48 ph xx x_57 x_61 _ hT hph hy1) (cm_SN 2 hts kc_X10_quotient ki_RX10 kl_RX0_75 ks_X10_quotient kd_X10_quotient ⟨Nat.le_of_ble_eq_true rfl, Nat.le_of_ble_eq_true rfl⟩) (ty_preS (wr := []) (wc := ([] ++ ws_48)) hP hK hD hS hA hX) rfl rfl hl.1 rfl (lv_room (Nat.le_of_ble_eq_true rfl)) dX0_restVoltageAt_86 ⟨Nat.le_of_ble_eq_true rfl, Nat.le_of_ble_eq_true rfl⟩) hP hD hS hA (fun r_62 u H locs hw_63 hP hD hS => ?_)
  obtain ⟨ws_64, rfl⟩ : ∃ z, z = u := ⟨_, rfl⟩
  have hT := hw_63
  have hP : va_P D vwCl ([] ++ ws_64) H := hP
  have hD : va_D A ([] ++ ws_64) := hD
  refine lv_ladd hx hb dX0_restVoltageAt_89 ?_
  refine lv_topl (fun x_65 _ => ?_)
  refine lv_l2i hx hb dX0_restVoltageAt_90 rfl ?_
  refine lv_topi (fun x_66 _ => ?_)
  exact W.iret (v := x_66) hx hb hr (fun t ht hW => ⟨⟨x_66, ws_64, rfl, hT, by rw [ht]; exact hP, by rw [hAe]; exact hD⟩, hS.F ht⟩) hS.2.2 dX0_restVoltageAt_91
theorem dX0_smallestChargeFor_0 : decode cX0_smallestChargeFor 0 = .ok (.aload_n 0, 1) := by decide +kernel
theorem dX0_smallestChargeFor_1 : decode cX0_smallestChargeFor 1 = .ok (.aload_n 0, 1) := by decide +kernel
theorem dX0_smallestChargeFor_2 : decode cX0_smallestChargeFor 2 = .ok (.getfield 51, 3) := by decide +kernel
theorem dX0_smallestChargeFor_5 : decode cX0_smallestChargeFor 5 = .ok (.invokevirtual 84, 3) := by decide +kernel
theorem dX0_smallestChargeFor_8 : decode cX0_smallestChargeFor 8 = .ok (.iload_n 1, 1) := by decide +kernel
theorem dX0_smallestChargeFor_9 : decode cX0_smallestChargeFor 9 = .ok (.if_icmp .ge 5, 3) := by decide +kernel
theorem dX0_smallestChargeFor_12 : decode cX0_smallestChargeFor 12 = .ok (.iconst (-1), 1) := by decide +kernel
theorem dX0_smallestChargeFor_13 : decode cX0_smallestChargeFor 13 = .ok (.ireturn, 1) := by decide +kernel
theorem dX0_smallestChargeFor_14 : decode cX0_smallestChargeFor 14 = .ok (.iconst 0, 1) := by decide +kernel
theorem dX0_smallestChargeFor_15 : decode cX0_smallestChargeFor 15 = .ok (.istore_n 2, 1) := by decide +kernel
theorem dX0_smallestChargeFor_16 : decode cX0_smallestChargeFor 16 = .ok (.aload_n 0, 1) := by decide +kernel
theorem dX0_smallestChargeFor_17 : decode cX0_smallestChargeFor 17 = .ok (.getfield 51, 3) := by decide +kernel
theorem dX0_smallestChargeFor_20 : decode cX0_smallestChargeFor 20 = .ok (.istore_n 3, 1) := by decide +kernel
theorem dX0_smallestChargeFor_21 : decode cX0_smallestChargeFor 21 = .ok (.iconst 0, 1) := by decide +kernel
theorem dX0_smallestChargeFor_22 : decode cX0_smallestChargeFor 22 = .ok (.istore 4, 2) := by decide +kernel
theorem dX0_smallestChargeFor_24 : decode cX0_smallestChargeFor 24 = .ok (.iload 4, 2) := by decide +kernel
theorem dX0_smallestChargeFor_26 : decode cX0_smallestChargeFor 26 = .ok (.bipush 32, 2) := by decide +kernel
theorem dX0_smallestChargeFor_28 : decode cX0_smallestChargeFor 28 = .ok (.if_icmp .ge 42, 3) := by decide +kernel
theorem dX0_smallestChargeFor_31 : decode cX0_smallestChargeFor 31 = .ok (.iload_n 2, 1) := by decide +kernel
theorem dX0_smallestChargeFor_32 : decode cX0_smallestChargeFor 32 = .ok (.iload_n 3, 1) := by decide +kernel
theorem dX0_smallestChargeFor_33 : decode cX0_smallestChargeFor 33 = .ok (.if_icmp .ge 37, 3) := by decide +kernel
theorem dX0_smallestChargeFor_36 : decode cX0_smallestChargeFor 36 = .ok (.iload_n 2, 1) := by decide +kernel
theorem dX0_smallestChargeFor_37 : decode cX0_smallestChargeFor 37 = .ok (.iload_n 3, 1) := by decide +kernel
theorem dX0_smallestChargeFor_38 : decode cX0_smallestChargeFor 38 = .ok (.iadd, 1) := by decide +kernel
theorem dX0_smallestChargeFor_39 : decode cX0_smallestChargeFor 39 = .ok (.iconst 2, 1) := by decide +kernel
theorem dX0_smallestChargeFor_40 : decode cX0_smallestChargeFor 40 = .ok (.idiv, 1) := by decide +kernel
theorem dX0_smallestChargeFor_41 : decode cX0_smallestChargeFor 41 = .ok (.istore 5, 2) := by decide +kernel
theorem dX0_smallestChargeFor_43 : decode cX0_smallestChargeFor 43 = .ok (.aload_n 0, 1) := by decide +kernel
theorem dX0_smallestChargeFor_44 : decode cX0_smallestChargeFor 44 = .ok (.iload 5, 2) := by decide +kernel
theorem dX0_smallestChargeFor_46 : decode cX0_smallestChargeFor 46 = .ok (.invokevirtual 84, 3) := by decide +kernel
theorem dX0_smallestChargeFor_49 : decode cX0_smallestChargeFor 49 = .ok (.iload_n 1, 1) := by decide +kernel
theorem dX0_smallestChargeFor_50 : decode cX0_smallestChargeFor 50 = .ok (.if_icmp .ge 11, 3) := by decide +kernel
theorem dX0_smallestChargeFor_53 : decode cX0_smallestChargeFor 53 = .ok (.iload 5, 2) := by decide +kernel
theorem dX0_smallestChargeFor_55 : decode cX0_smallestChargeFor 55 = .ok (.iconst 1, 1) := by decide +kernel
theorem dX0_smallestChargeFor_56 : decode cX0_smallestChargeFor 56 = .ok (.iadd, 1) := by decide +kernel
theorem dX0_smallestChargeFor_57 : decode cX0_smallestChargeFor 57 = .ok (.istore_n 2, 1) := by decide +kernel
theorem dX0_smallestChargeFor_58 : decode cX0_smallestChargeFor 58 = .ok (.goto 6, 3) := by decide +kernel
theorem dX0_smallestChargeFor_61 : decode cX0_smallestChargeFor 61 = .ok (.iload 5, 2) := by decide +kernel
theorem dX0_smallestChargeFor_63 : decode cX0_smallestChargeFor 63 = .ok (.istore_n 3, 1) := by decide +kernel
theorem dX0_smallestChargeFor_64 : decode cX0_smallestChargeFor 64 = .ok (.iinc 4 1, 3) := by decide +kernel
theorem dX0_smallestChargeFor_67 : decode cX0_smallestChargeFor 67 = .ok (.goto (-43), 3) := by decide +kernel
theorem dX0_smallestChargeFor_70 : decode cX0_smallestChargeFor 70 = .ok (.iload_n 2, 1) := by decide +kernel
