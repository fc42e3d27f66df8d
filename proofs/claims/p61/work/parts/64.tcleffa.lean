theorem dX10_chargeEfficiency_0 : decode cX10_chargeEfficiency 0 = .ok (.aload_n 0, 1) := by decide +kernel
theorem dX10_chargeEfficiency_1 : decode cX10_chargeEfficiency 1 = .ok (.iload_n 1, 1) := by decide +kernel
theorem dX10_chargeEfficiency_2 : decode cX10_chargeEfficiency 2 = .ok (.invokevirtual 172, 3) := by decide +kernel
theorem dX10_chargeEfficiency_5 : decode cX10_chargeEfficiency 5 = .ok (.getfield 134, 3) := by decide +kernel
theorem dX10_chargeEfficiency_8 : decode cX10_chargeEfficiency 8 = .ok (.getfield 240, 3) := by decide +kernel
theorem dX10_chargeEfficiency_11 : decode cX10_chargeEfficiency 11 = .ok (.astore_n 2, 1) := by decide +kernel
theorem dX10_chargeEfficiency_12 : decode cX10_chargeEfficiency 12 = .ok (.aload_n 2, 1) := by decide +kernel
theorem dX10_chargeEfficiency_13 : decode cX10_chargeEfficiency 13 = .ok (.getfield 244, 3) := by decide +kernel
theorem dX10_chargeEfficiency_16 : decode cX10_chargeEfficiency 16 = .ok (.lconst 0, 1) := by decide +kernel
theorem dX10_chargeEfficiency_17 : decode cX10_chargeEfficiency 17 = .ok (.lcmp, 1) := by decide +kernel
theorem dX10_chargeEfficiency_18 : decode cX10_chargeEfficiency 18 = .ok (.ifCond .ne 7, 3) := by decide +kernel
theorem dX10_chargeEfficiency_21 : decode cX10_chargeEfficiency 21 = .ok (.fconst 0, 1) := by decide +kernel
theorem dX10_chargeEfficiency_22 : decode cX10_chargeEfficiency 22 = .ok (.goto 14, 3) := by decide +kernel
theorem dX10_chargeEfficiency_25 : decode cX10_chargeEfficiency 25 = .ok (.aload_n 2, 1) := by decide +kernel
theorem dX10_chargeEfficiency_26 : decode cX10_chargeEfficiency 26 = .ok (.getfield 250, 3) := by decide +kernel
theorem dX10_chargeEfficiency_29 : decode cX10_chargeEfficiency 29 = .ok (.l2f, 1) := by decide +kernel
theorem dX10_chargeEfficiency_30 : decode cX10_chargeEfficiency 30 = .ok (.aload_n 2, 1) := by decide +kernel
theorem dX10_chargeEfficiency_31 : decode cX10_chargeEfficiency 31 = .ok (.getfield 244, 3) := by decide +kernel
theorem dX10_chargeEfficiency_34 : decode cX10_chargeEfficiency 34 = .ok (.l2f, 1) := by decide +kernel
theorem dX10_chargeEfficiency_35 : decode cX10_chargeEfficiency 35 = .ok (.fdiv, 1) := by decide +kernel
theorem dX10_chargeEfficiency_36 : decode cX10_chargeEfficiency 36 = .ok (.freturn, 1) := by decide +kernel
set_option maxRecDepth 100000 in
set_option maxHeartbeats 4000000 in
theorem t_X10_chargeEfficiency (l : Launch) (hfl : l.stackTraces = false) (D : va_G) (ct : Nat → ClassId) (S : ty_S) (ws : va_W) (ph : va_W → Prop) (xx : Nat → Nat → Nat → Prop) (x : Nat) (w : Nat) (sp : Nat) (sv : Nat) (bu : Nat) (ns : Nat) (bl : Int32) (le : Int32) (p1 : Int32) (sz : Nat) (hT : ty_V ct S ph ws) (h_w : S w = some (.inl 9)) (h_sp : S sp = some (.inl 9)) (h_sv : S sv = some (.inr (4, ns))) (hph : ty_C ph xx) (hy1 : ty_y1 xx) : vx_Met l yX10_chargeEfficiency (ws_ yX10_chargeEfficiency cX10_chargeEfficiency 3 (some .float)) ({ frames := 7, cells := 1, slots := 6, locals := 112 } : Room) (va_Pc [.ref x, .int p1] (cmP D ct sz ([(ty_XO x w sp sv bu bl le)] ++ ws))) (va_Qf (fun (r : UInt32) (u9 : va_W) => ty_V ct S ph u9 ∧ vf_n32 r) (cmB D ([(ty_XO x w sp sv bu bl le)] ++ ws) sz (fun (u9 : va_W) => ([(ty_XO x w sp sv bu bl le)] ++ u9))) (va_A ([(ty_XO x w sp sv bu bl le)] ++ ws) sz)) (vx_X (fun (u9 : va_W) => ty_V ct S ph u9) (cmBY D ([(ty_XO x w sp sv bu bl le)] ++ ws) sz ["java/lang/IndexOutOfBoundsException"] (fun (u9 : va_W) => ([(ty_XO x w sp sv bu bl le)] ++ u9))) (va_A ([(ty_XO x w sp sv bu bl le)] ++ ws) sz)) 1 6 (va_A ([(ty_XO x w sp sv bu bl le)] ++ ws) sz) := by
  refine vx_ofW (cc := cX10_chargeEfficiency) (maxL := 3) (ret := (some .float)) (by decide) rfl ?_
  intro p e s m args below meth c s₁ B hml hex hv
  obtain ⟨rfl, hsz, hP, hK, hD0, hX⟩ := hv
  have hx := B.exec
  have hb := B.bytes
  have hr := B.returns
  have hts := ws_all (atoms_spec (ws := ws_ yX10_chargeEfficiency cX10_chargeEfficiency 3 (some .float)) B.pre)
  have hown : s.vm.findClass RX10 = some m.cls := findClass_of_methodNamed B.named
  have hlocks := B.notSynchronized
  subst hsz
  have hD := hD0.self (sz := s.heap.size)
  generalize hAe : va_A ([(ty_XO x w sp sv bu bl le)] ++ ws) s.heap.size = A at hD hX ⊢
  have hA : ∀ q : Nat, s.heap.size ≤ q → A q := fun q h => by rw [← hAe]; exact Or.inr h
  have hS : va_S A s.heap s.heap [] := va_S.rf
  have hl := lv_entry ([.ref x, .int p1]) (n := 3) (Nat.le_of_ble_eq_true rfl)
  rw [lg_entry_eq]
  generalize (lg_sl ([.ref x, .int p1]) ++ List.replicate (3 - (lg_sl ([.ref x, .int p1])).length) Slot.unset).toArray = ls at hl ⊢
  have hl : lv_has ls 3 [(0, .ref x), (1, .int p1)] := hl
  refine lv_aload_n hx hb dX10_chargeEfficiency_0 rfl (lv_at hl 0 rfl) ?_
  refine lv_iload_n hx hb dX10_chargeEfficiency_1 rfl (lv_at hl 1 rfl) ?_
  refine ty_xq (wr := []) (wc := ([(ty_XO x w sp sv bu bl le)] ++ ws)) (vx_runV (As := [.int p1]) (rest := []) ⟨hx, hb, hml, hown, hts⟩ (t_X10_needChannel l hfl D ct S ws ph xx x w sp sv bu ns bl le p1 _ hT h_w h_sp h_sv hph hy1) (cm_V 1 hts kc_X10_needChannel ki_RX10 kl_RX10_172 kv_X10_needChannel kx_X10_needChannel kd_X10_needChannel ⟨Nat.le_of_ble_eq_true rfl, Nat.le_of_ble_eq_true rfl⟩) (ty_preE (wr := []) (wc := ([(ty_XO x w sp sv bu bl le)] ++ ws)) (ci := 10) (q0 := 0) hP hK hD hS hA hX rfl rfl) rfl rfl hl.1 rfl (lv_room (Nat.le_of_ble_eq_true rfl)) dX10_chargeEfficiency_2 ⟨Nat.le_of_ble_eq_true rfl, Nat.le_of_ble_eq_true rfl⟩) hP hD hS hA (fun E ce q9 u H locs hu hE hP hD hS hce hcv hcl => ?_) (fun r_1 u H locs hw_2 hP hD hS => ?_)
  · obtain ⟨ws_3, rfl⟩ : ∃ z, z = u := ⟨_, rfl⟩
    have hT := hu
    have hP : va_P D vwCl ([(ty_XO x w sp sv bu bl le)] ++ ws_3) H := hP
    have hD : va_D A ([(ty_XO x w sp sv bu bl le)] ++ ws_3) := hD
    exact vx_out (fun x hx => (hex x hx).elim) hlocks hce hcv hcl (fun t ht hW => ⟨ws_3, hT, ⟨hE, by rw [ht]; exact hP, by rw [hAe]; exact hD⟩, hS.F ht⟩) hS.2.2 (Nat.le_of_ble_eq_true rfl) (Nat.le_of_ble_eq_true rfl)
  · obtain ⟨ws_4, rfl⟩ : ∃ z, z = u := ⟨_, rfl⟩
    obtain ⟨hT, hq_5⟩ := hw_2
    have hP : va_P D vwCl ([(ty_XO x w sp sv bu bl le)] ++ ws_4) H := hP
    have hD : va_D A ([(ty_XO x w sp sv bu bl le)] ++ ws_4) := hD
    refine W.widen (k := 1) (n := 6) (Nat.le_of_ble_eq_true rfl) (Nat.le_of_ble_eq_true rfl) ?_
    obtain ⟨a_6, rfl, ha_7⟩ := hq_5
    refine W.eq (g2 := F0 m 5 ls (.ref a_6 :: [])) rfl ?_
    refine ty_getN (E := [(ty_XO x w sp sv bu bl le)]) (ws := ws_4) (D := D) (ci := 1) (C := RX1) (T := TX1) (N := 14) hx hb hts in_X1 hown hK hP hT ha_7 rfl 1 (by decide) (hts _ kl_RX10_134) (fun _ h9 => h9) rfl dX10_chargeEfficiency_5 (fun _ hv_8 hf_9 => ?_)
    obtain ⟨a_10, rfl, ha_11⟩ := hv_8
    refine ty_getN (E := [(ty_XO x w sp sv bu bl le)]) (ws := ws_4) (D := D) (ci := 0) (C := RX0) (T := TX0) (N := 16) hx hb hts in_X0 hown hK hP hT ha_11 rfl 15 (by decide) (hts _ kl_RX10_240) (fun _ h9 => h9) rfl dX10_chargeEfficiency_8 (fun _ hv_12 hf_13 => ?_)
    obtain ⟨a_14, rfl, ha_15⟩ := hv_12
    refine lv_astore_n (lv' := [(2, .ref a_14), (0, .ref x), (1, .int p1)]) hx hb dX10_chargeEfficiency_11 rfl hl (by decide) rfl (fun ls hl => ?_)
    refine lv_aload_n hx hb dX10_chargeEfficiency_12 rfl (lv_at hl 0 rfl) ?_
    refine ty_getN (E := [(ty_XO x w sp sv bu bl le)]) (ws := ws_4) (D := D) (ci := 3) (C := RX3) (T := TX3) (N := 4) hx hb hts in_X3 hown hK hP hT ha_15 rfl 0 (by decide) (hts _ kl_RX10_244) (fun _ h9 => h9) rfl dX10_chargeEfficiency_13 (fun _ hv_16 hf_17 => ?_)
    obtain ⟨x_18, rfl⟩ := hv_16
    refine lv_lconst (v := 0) hx hb dX10_chargeEfficiency_16 (by decide) ?_
    refine W.lcmp hx hb dX10_chargeEfficiency_17 ?_
    refine lv_if_ne (tgt := 25) hx hb dX10_chargeEfficiency_18 (by decide) (fun hc_19 => ?_) (fun hc_19 => ?_)
    · refine lv_aload_n hx hb dX10_chargeEfficiency_25 rfl (lv_at hl 0 rfl) ?_
      refine ty_getN (E := [(ty_XO x w sp sv bu bl le)]) (ws := ws_4) (D := D) (ci := 3) (C := RX3) (T := TX3) (N := 4) hx hb hts in_X3 hown hK hP hT ha_15 rfl 1 (by decide) (hts _ kl_RX10_250) (fun _ h9 => h9) rfl dX10_chargeEfficiency_26 (fun _ hv_20 hf_21 => ?_)
      obtain ⟨x_22, rfl⟩ := hv_20
      refine lv_l2f hx hb dX10_chargeEfficiency_29 ?_
      refine lv_aload_n hx hb dX10_chargeEfficiency_30 rfl (lv_at hl 0 rfl) ?_
      refine ty_getDN (v := .long x_18) (E := [(ty_XO x w sp sv bu bl le)]) (ws := ws_4) (D := D) (ci := 3) (C := RX3) (T := TX3) (N := 4) hx hb hts in_X3 hown hK hP hD hT ha_15 rfl 0 (by decide) (hts _ kl_RX10_244) (fun _ h9 => h9) hf_17 dX10_chargeEfficiency_31 ?_
      refine lv_l2f hx hb dX10_chargeEfficiency_34 ?_
      refine lv_fdiv hx hb dX10_chargeEfficiency_35 (fq_quo (fun q => hc_19 (by rw [q]; exact cm_lceq 0))) ?_
      refine vx_ret ?_
      exact W.fret (v := (FP.fdiv (FP.l2f x_22) (FP.l2f x_18))) hx hb hr (fun t ht hW => ⟨⟨(FP.fdiv (FP.l2f x_22) (FP.l2f x_18)), ws_4, rfl, ⟨hT, (fq_quo (fun q => hc_19 (by rw [q]; exact cm_lceq 0)))⟩, by rw [ht]; exact hP, by rw [hAe]; exact hD⟩, hS.F ht⟩) hS.2.2 dX10_chargeEfficiency_36
    · refine lv_fconst0 hx hb dX10_chargeEfficiency_21 ?_
      refine lv_goto (tgt := 36) hx hb dX10_chargeEfficiency_22 (by decide) ?_
      refine vx_ret ?_
      exact W.fret (v := 0) hx hb hr (fun t ht hW => ⟨⟨0, ws_4, rfl, ⟨hT, (by unfold vf_n32; decide)⟩, by rw [ht]; exact hP, by rw [hAe]; exact hD⟩, hS.F ht⟩) hS.2.2 dX10_chargeEfficiency_36
theorem dX10_energyEfficiency_0 : decode cX10_energyEfficiency 0 = .ok (.aload_n 0, 1) := by decide +kernel
theorem dX10_energyEfficiency_1 : decode cX10_energyEfficiency 1 = .ok (.iload_n 1, 1) := by decide +kernel
theorem dX10_energyEfficiency_2 : decode cX10_energyEfficiency 2 = .ok (.invokevirtual 172, 3) := by decide +kernel
theorem dX10_energyEfficiency_5 : decode cX10_energyEfficiency 5 = .ok (.getfield 134, 3) := by decide +kernel
theorem dX10_energyEfficiency_8 : decode cX10_energyEfficiency 8 = .ok (.getfield 240, 3) := by decide +kernel
theorem dX10_energyEfficiency_11 : decode cX10_energyEfficiency 11 = .ok (.astore_n 2, 1) := by decide +kernel
theorem dX10_energyEfficiency_12 : decode cX10_energyEfficiency 12 = .ok (.aload_n 2, 1) := by decide +kernel
theorem dX10_energyEfficiency_13 : decode cX10_energyEfficiency 13 = .ok (.getfield 256, 3) := by decide +kernel
theorem dX10_energyEfficiency_16 : decode cX10_energyEfficiency 16 = .ok (.lconst 0, 1) := by decide +kernel
theorem dX10_energyEfficiency_17 : decode cX10_energyEfficiency 17 = .ok (.lcmp, 1) := by decide +kernel
theorem dX10_energyEfficiency_18 : decode cX10_energyEfficiency 18 = .ok (.ifCond .ne 7, 3) := by decide +kernel
theorem dX10_energyEfficiency_21 : decode cX10_energyEfficiency 21 = .ok (.dconst 0, 1) := by decide +kernel
theorem dX10_energyEfficiency_22 : decode cX10_energyEfficiency 22 = .ok (.goto 14, 3) := by decide +kernel
theorem dX10_energyEfficiency_25 : decode cX10_energyEfficiency 25 = .ok (.aload_n 2, 1) := by decide +kernel
theorem dX10_energyEfficiency_26 : decode cX10_energyEfficiency 26 = .ok (.getfield 259, 3) := by decide +kernel
theorem dX10_energyEfficiency_29 : decode cX10_energyEfficiency 29 = .ok (.l2d, 1) := by decide +kernel
theorem dX10_energyEfficiency_30 : decode cX10_energyEfficiency 30 = .ok (.aload_n 2, 1) := by decide +kernel
theorem dX10_energyEfficiency_31 : decode cX10_energyEfficiency 31 = .ok (.getfield 256, 3) := by decide +kernel
theorem dX10_energyEfficiency_34 : decode cX10_energyEfficiency 34 = .ok (.l2d, 1) := by decide +kernel
theorem dX10_energyEfficiency_35 : decode cX10_energyEfficiency 35 = .ok (.ddiv, 1) := by decide +kernel
theorem dX10_energyEfficiency_36 : decode cX10_energyEfficiency 36 = .ok (.dreturn, 1) := by decide +kernel
set_option maxRecDepth 100000 in
set_option maxHeartbeats 4000000 in
theorem t_X10_energyEfficiency (l : Launch) (hfl : l.stackTraces = false) (D : va_G) (ct : Nat → ClassId) (S : ty_S) (ws : va_W) (ph : va_W → Prop) (xx : Nat → Nat → Nat → Prop) (x : Nat) (w : Nat) (sp : Nat) (sv : Nat) (bu : Nat) (ns : Nat) (bl : Int32) (le : Int32) (p1 : Int32) (sz : Nat) (hT : ty_V ct S ph ws) (h_w : S w = some (.inl 9)) (h_sp : S sp = some (.inl 9)) (h_sv : S sv = some (.inr (4, ns))) (hph : ty_C ph xx) (hy1 : ty_y1 xx) : vx_Met l yX10_energyEfficiency (ws_ yX10_energyEfficiency cX10_energyEfficiency 3 (some .double)) ({ frames := 7, cells := 1, slots := 6, locals := 112 } : Room) (va_Pc [.ref x, .int p1] (cmP D ct sz ([(ty_XO x w sp sv bu bl le)] ++ ws))) (va_Qd (fun (r : UInt64) (u9 : va_W) => ty_V ct S ph u9) (cmB D ([(ty_XO x w sp sv bu bl le)] ++ ws) sz (fun (u9 : va_W) => ([(ty_XO x w sp sv bu bl le)] ++ u9))) (va_A ([(ty_XO x w sp sv bu bl le)] ++ ws) sz)) (vx_X (fun (u9 : va_W) => ty_V ct S ph u9) (cmBY D ([(ty_XO x w sp sv bu bl le)] ++ ws) sz ["java/lang/IndexOutOfBoundsException"] (fun (u9 : va_W) => ([(ty_XO x w sp sv bu bl le)] ++ u9))) (va_A ([(ty_XO x w sp sv bu bl le)] ++ ws) sz)) 1 6 (va_A ([(ty_XO x w sp sv bu bl le)] ++ ws) sz) := by
  refine vx_ofW (cc := cX10_energyEfficiency) (maxL := 3) (ret := (some .double)) (by decide) rfl ?_
  intro p e s m args below meth c s₁ B hml hex hv
  obtain ⟨rfl, hsz, hP, hK, hD0, hX⟩ := hv
  have hx := B.exec
  have hb := B.bytes
  have hr := B.returns
  have hts := ws_all (atoms_spec (ws := ws_ yX10_energyEfficiency cX10_energyEfficiency 3 (some .double)) B.pre)
  have hown : s.vm.findClass RX10 = some m.cls := findClass_of_methodNamed B.named
  have hlocks := B.notSynchronized
  subst hsz
  have hD := hD0.self (sz := s.heap.size)
  generalize hAe : va_A ([(ty_XO x w sp sv bu bl le)] ++ ws) s.heap.size = A at hD hX ⊢
  have hA : ∀ q : Nat, s.heap.size ≤ q → A q := fun q h => by rw [← hAe]; exact Or.inr h
  have hS : va_S A s.heap s.heap [] := va_S.rf
  have hl := lv_entry ([.ref x, .int p1]) (n := 3) (Nat.le_of_ble_eq_true rfl)
  rw [lg_entry_eq]
  generalize (lg_sl ([.ref x, .int p1]) ++ List.replicate (3 - (lg_sl ([.ref x, .int p1])).length) Slot.unset).toArray = ls at hl ⊢
  have hl : lv_has ls 3 [(0, .ref x), (1, .int p1)] := hl
  refine lv_aload_n hx hb dX10_energyEfficiency_0 rfl (lv_at hl 0 rfl) ?_
  refine lv_iload_n hx hb dX10_energyEfficiency_1 rfl (lv_at hl 1 rfl) ?_
  refine ty_xq (wr := []) (wc := ([(ty_XO x w sp sv bu bl le)] ++ ws)) (vx_runV (As := [.int p1]) (rest := []) ⟨hx, hb, hml, hown, hts⟩ (t_X10_needChannel l hfl D ct S ws ph xx x w sp sv bu ns bl le p1 _ hT h_w h_sp h_sv hph hy1) (cm_V 1 hts kc_X10_needChannel ki_RX10 kl_RX10_172 kv_X10_needChannel kx_X10_needChannel kd_X10_needChannel ⟨Nat.le_of_ble_eq_true rfl, Nat.le_of_ble_eq_true rfl⟩) (ty_preE (wr := []) (wc := ([(ty_XO x w sp sv bu bl le)] ++ ws)) (ci := 10) (q0 := 0) hP hK hD hS hA hX rfl rfl) rfl rfl hl.1 rfl (lv_room (Nat.le_of_ble_eq_true rfl)) dX10_energyEfficiency_2 ⟨Nat.le_of_ble_eq_true rfl, Nat.le_of_ble_eq_true rfl⟩) hP hD hS hA (fun E ce q9 u H locs hu hE hP hD hS hce hcv hcl => ?_) (fun r_1 u H locs hw_2 hP hD hS => ?_)
  · obtain ⟨ws_3, rfl⟩ : ∃ z, z = u := ⟨_, rfl⟩
    have hT := hu
    have hP : va_P D vwCl ([(ty_XO x w sp sv bu bl le)] ++ ws_3) H := hP
    have hD : va_D A ([(ty_XO x w sp sv bu bl le)] ++ ws_3) := hD
    exact vx_out (fun x hx => (hex x hx).elim) hlocks hce hcv hcl (fun t ht hW => ⟨ws_3, hT, ⟨hE, by rw [ht]; exact hP, by rw [hAe]; exact hD⟩, hS.F ht⟩) hS.2.2 (Nat.le_of_ble_eq_true rfl) (Nat.le_of_ble_eq_true rfl)
  · obtain ⟨ws_4, rfl⟩ : ∃ z, z = u := ⟨_, rfl⟩
    obtain ⟨hT, hq_5⟩ := hw_2
    have hP : va_P D vwCl ([(ty_XO x w sp sv bu bl le)] ++ ws_4) H := hP
    have hD : va_D A ([(ty_XO x w sp sv bu bl le)] ++ ws_4) := hD
    refine W.widen (k := 1) (n := 6) (Nat.le_of_ble_eq_true rfl) (Nat.le_of_ble_eq_true rfl) ?_
    obtain ⟨a_6, rfl, ha_7⟩ := hq_5
    refine W.eq (g2 := F0 m 5 ls (.ref a_6 :: [])) rfl ?_
    refine ty_getN (E := [(ty_XO x w sp sv bu bl le)]) (ws := ws_4) (D := D) (ci := 1) (C := RX1) (T := TX1) (N := 14) hx hb hts in_X1 hown hK hP hT ha_7 rfl 1 (by decide) (hts _ kl_RX10_134) (fun _ h9 => h9) rfl dX10_energyEfficiency_5 (fun _ hv_8 hf_9 => ?_)
    obtain ⟨a_10, rfl, ha_11⟩ := hv_8
    refine ty_getN (E := [(ty_XO x w sp sv bu bl le)]) (ws := ws_4) (D := D) (ci := 0) (C := RX0) (T := TX0) (N := 16) hx hb hts in_X0 hown hK hP hT ha_11 rfl 15 (by decide) (hts _ kl_RX10_240) (fun _ h9 => h9) rfl dX10_energyEfficiency_8 (fun _ hv_12 hf_13 => ?_)
    obtain ⟨a_14, rfl, ha_15⟩ := hv_12
    refine lv_astore_n (lv' := [(2, .ref a_14), (0, .ref x), (1, .int p1)]) hx hb dX10_energyEfficiency_11 rfl hl (by decide) rfl (fun ls hl => ?_)
    refine lv_aload_n hx hb dX10_energyEfficiency_12 rfl (lv_at hl 0 rfl) ?_
    refine ty_getN (E := [(ty_XO x w sp sv bu bl le)]) (ws := ws_4) (D := D) (ci := 3) (C := RX3) (T := TX3) (N := 4) hx hb hts in_X3 hown hK hP hT ha_15 rfl 2 (by decide) (hts _ kl_RX10_256) (fun _ h9 => h9) rfl dX10_energyEfficiency_13 (fun _ hv_16 hf_17 => ?_)
    obtain ⟨x_18, rfl⟩ := hv_16
    refine lv_lconst (v := 0) hx hb dX10_energyEfficiency_16 (by decide) ?_
    refine W.lcmp hx hb dX10_energyEfficiency_17 ?_
    refine lv_if_ne (tgt := 25) hx hb dX10_energyEfficiency_18 (by decide) (fun hc_19 => ?_) (fun hc_19 => ?_)
    · refine lv_aload_n hx hb dX10_energyEfficiency_25 rfl (lv_at hl 0 rfl) ?_
      refine ty_getN (E := [(ty_XO x w sp sv bu bl le)]) (ws := ws_4) (D := D) (ci := 3) (C := RX3) (T := TX3) (N := 4) hx hb hts in_X3 hown hK hP hT ha_15 rfl 3 (by decide) (hts _ kl_RX10_259) (fun _ h9 => h9) rfl dX10_energyEfficiency_26 (fun _ hv_20 hf_21 => ?_)
      obtain ⟨x_22, rfl⟩ := hv_20
      refine lv_l2d hx hb dX10_energyEfficiency_29 ?_
      refine lv_aload_n hx hb dX10_energyEfficiency_30 rfl (lv_at hl 0 rfl) ?_
      refine ty_getDN (v := .long x_18) (E := [(ty_XO x w sp sv bu bl le)]) (ws := ws_4) (D := D) (ci := 3) (C := RX3) (T := TX3) (N := 4) hx hb hts in_X3 hown hK hP hD hT ha_15 rfl 2 (by decide) (hts _ kl_RX10_256) (fun _ h9 => h9) hf_17 dX10_energyEfficiency_31 ?_
      refine lv_l2d hx hb dX10_energyEfficiency_34 ?_
      refine lv_ddiv hx hb dX10_energyEfficiency_35 (dq_quo (fun q => hc_19 (by rw [q]; exact cm_lceq 0))) ?_
      refine vx_ret ?_
      exact W.dret (v := (FP.ddiv (FP.l2d x_22) (FP.l2d x_18))) hx hb hr (fun t ht hW => ⟨⟨(FP.ddiv (FP.l2d x_22) (FP.l2d x_18)), ws_4, rfl, hT, by rw [ht]; exact hP, by rw [hAe]; exact hD⟩, hS.F ht⟩) hS.2.2 dX10_energyEfficiency_36
    · refine lv_dconst0 hx hb dX10_energyEfficiency_21 ?_
      refine lv_goto (tgt := 36) hx hb dX10_energyEfficiency_22 (by decide) ?_
      refine vx_ret ?_
      exact W.dret (v := 0) hx hb hr (fun t ht hW => ⟨⟨0, ws_4, rfl, hT, by rw [ht]; exact hP, by rw [hAe]; exact hD⟩, hS.F ht⟩) hS.2.2 dX10_energyEfficiency_36
