theorem dX0_moveCharge_0 : decode cX0_moveCharge 0 = .ok (.iload_n 1, 1) := by decide +kernel
theorem dX0_moveCharge_1 : decode cX0_moveCharge 1 = .ok (.ifCond .le 64, 3) := by decide +kernel
theorem dX0_moveCharge_4 : decode cX0_moveCharge 4 = .ok (.aload_n 0, 1) := by decide +kernel
theorem dX0_moveCharge_5 : decode cX0_moveCharge 5 = .ok (.getfield 18, 3) := by decide +kernel
theorem dX0_moveCharge_8 : decode cX0_moveCharge 8 = .ok (.dup, 1) := by decide +kernel
theorem dX0_moveCharge_9 : decode cX0_moveCharge 9 = .ok (.getfield 140, 3) := by decide +kernel
theorem dX0_moveCharge_12 : decode cX0_moveCharge 12 = .ok (.iload_n 1, 1) := by decide +kernel
theorem dX0_moveCharge_13 : decode cX0_moveCharge 13 = .ok (.i2l, 1) := by decide +kernel
theorem dX0_moveCharge_14 : decode cX0_moveCharge 14 = .ok (.ladd, 1) := by decide +kernel
theorem dX0_moveCharge_15 : decode cX0_moveCharge 15 = .ok (.putfield 140, 3) := by decide +kernel
theorem dX0_moveCharge_18 : decode cX0_moveCharge 18 = .ok (.iload_n 1, 1) := by decide +kernel
theorem dX0_moveCharge_19 : decode cX0_moveCharge 19 = .ok (.aload_n 2, 1) := by decide +kernel
theorem dX0_moveCharge_20 : decode cX0_moveCharge 20 = .ok (.getfield 143, 3) := by decide +kernel
theorem dX0_moveCharge_23 : decode cX0_moveCharge 23 = .ok (.imul, 1) := by decide +kernel
theorem dX0_moveCharge_24 : decode cX0_moveCharge 24 = .ok (.aload_n 0, 1) := by decide +kernel
theorem dX0_moveCharge_25 : decode cX0_moveCharge 25 = .ok (.getfield 45, 3) := by decide +kernel
theorem dX0_moveCharge_28 : decode cX0_moveCharge 28 = .ok (.iadd, 1) := by decide +kernel
theorem dX0_moveCharge_29 : decode cX0_moveCharge 29 = .ok (.istore_n 3, 1) := by decide +kernel
theorem dX0_moveCharge_30 : decode cX0_moveCharge 30 = .ok (.aload_n 0, 1) := by decide +kernel
theorem dX0_moveCharge_31 : decode cX0_moveCharge 31 = .ok (.aload_n 0, 1) := by decide +kernel
theorem dX0_moveCharge_32 : decode cX0_moveCharge 32 = .ok (.getfield 42, 3) := by decide +kernel
theorem dX0_moveCharge_35 : decode cX0_moveCharge 35 = .ok (.iload_n 3, 1) := by decide +kernel
theorem dX0_moveCharge_36 : decode cX0_moveCharge 36 = .ok (.sipush 1000, 3) := by decide +kernel
theorem dX0_moveCharge_39 : decode cX0_moveCharge 39 = .ok (.idiv, 1) := by decide +kernel
theorem dX0_moveCharge_40 : decode cX0_moveCharge 40 = .ok (.iadd, 1) := by decide +kernel
theorem dX0_moveCharge_41 : decode cX0_moveCharge 41 = .ok (.iconst 2, 1) := by decide +kernel
theorem dX0_moveCharge_42 : decode cX0_moveCharge 42 = .ok (.aload_n 0, 1) := by decide +kernel
theorem dX0_moveCharge_43 : decode cX0_moveCharge 43 = .ok (.getfield 48, 3) := by decide +kernel
theorem dX0_moveCharge_46 : decode cX0_moveCharge 46 = .ok (.imul, 1) := by decide +kernel
theorem dX0_moveCharge_47 : decode cX0_moveCharge 47 = .ok (.invokestatic 146, 3) := by decide +kernel
theorem dX0_moveCharge_50 : decode cX0_moveCharge 50 = .ok (.putfield 42, 3) := by decide +kernel
theorem dX0_moveCharge_53 : decode cX0_moveCharge 53 = .ok (.aload_n 0, 1) := by decide +kernel
theorem dX0_moveCharge_54 : decode cX0_moveCharge 54 = .ok (.iload_n 3, 1) := by decide +kernel
theorem dX0_moveCharge_55 : decode cX0_moveCharge 55 = .ok (.sipush 1000, 3) := by decide +kernel
theorem dX0_moveCharge_58 : decode cX0_moveCharge 58 = .ok (.irem, 1) := by decide +kernel
theorem dX0_moveCharge_59 : decode cX0_moveCharge 59 = .ok (.putfield 45, 3) := by decide +kernel
theorem dX0_moveCharge_62 : decode cX0_moveCharge 62 = .ok (.goto 27, 3) := by decide +kernel
theorem dX0_moveCharge_65 : decode cX0_moveCharge 65 = .ok (.aload_n 0, 1) := by decide +kernel
theorem dX0_moveCharge_66 : decode cX0_moveCharge 66 = .ok (.dup, 1) := by decide +kernel
theorem dX0_moveCharge_67 : decode cX0_moveCharge 67 = .ok (.getfield 42, 3) := by decide +kernel
theorem dX0_moveCharge_70 : decode cX0_moveCharge 70 = .ok (.iload_n 1, 1) := by decide +kernel
theorem dX0_moveCharge_71 : decode cX0_moveCharge 71 = .ok (.iadd, 1) := by decide +kernel
theorem dX0_moveCharge_72 : decode cX0_moveCharge 72 = .ok (.putfield 42, 3) := by decide +kernel
theorem dX0_moveCharge_75 : decode cX0_moveCharge 75 = .ok (.aload_n 0, 1) := by decide +kernel
theorem dX0_moveCharge_76 : decode cX0_moveCharge 76 = .ok (.getfield 18, 3) := by decide +kernel
theorem dX0_moveCharge_79 : decode cX0_moveCharge 79 = .ok (.dup, 1) := by decide +kernel
theorem dX0_moveCharge_80 : decode cX0_moveCharge 80 = .ok (.getfield 148, 3) := by decide +kernel
theorem dX0_moveCharge_83 : decode cX0_moveCharge 83 = .ok (.iload_n 1, 1) := by decide +kernel
theorem dX0_moveCharge_84 : decode cX0_moveCharge 84 = .ok (.i2l, 1) := by decide +kernel
theorem dX0_moveCharge_85 : decode cX0_moveCharge 85 = .ok (.lsub, 1) := by decide +kernel
theorem dX0_moveCharge_86 : decode cX0_moveCharge 86 = .ok (.putfield 148, 3) := by decide +kernel
theorem dX0_moveCharge_89 : decode cX0_moveCharge 89 = .ok (.return_, 1) := by decide +kernel
set_option maxRecDepth 100000 in
set_option maxHeartbeats 4000000 in
theorem t_X0_moveCharge (l : Launch) (D : va_G) (ct : Nat → ClassId) (S : ty_S) (ws : va_W) (ph : va_W → Prop) (xx : Nat → Nat → Nat → Prop) (h0 : Nat) (p1 : Int32) (p2 : Nat) (sz : Nat) (hT : ty_V ct S ph ws) (h_h0 : S h0 = some (.inl 0)) (h_p2 : S p2 = some (.inl 7)) (hph : ty_C ph xx) (hy1 : ty_y1 xx) : Met l yX0_moveCharge (ws_ yX0_moveCharge cX0_moveCharge 4 none) ({ frames := 1, cells := 0, slots := 0, locals := 14 } : Room) (va_Pc [.ref h0, .int p1, .ref p2] (cmP D ct sz ([] ++ ws))) (va_Qv (fun (u9 : va_W) => ty_V ct S ph u9) (cmB D ([] ++ ws) sz (fun (u9 : va_W) => ([] ++ u9))) (va_A ([] ++ ws) sz)) 0 0 (va_A ([] ++ ws) sz) := by
  refine Met.ofW (cc := cX0_moveCharge) (maxL := 4) (ret := none) (by decide) rfl ?_
  intro p e s m args below meth c s₁ B hml hv
  obtain ⟨rfl, hsz, hP, hK, hD0, hX⟩ := hv
  have hx := B.exec
  have hb := B.bytes
  have hr := B.returns
  have hts := ws_all (atoms_spec (ws := ws_ yX0_moveCharge cX0_moveCharge 4 none) B.pre)
  have hown : s.vm.findClass RX0 = some m.cls := findClass_of_methodNamed B.named
  have hlocks := B.notSynchronized
  subst hsz
  have hD := hD0.self (sz := s.heap.size)
  generalize hAe : va_A ([] ++ ws) s.heap.size = A at hD hX ⊢
  have hA : ∀ q : Nat, s.heap.size ≤ q → A q := fun q h => by rw [← hAe]; exact Or.inr h
  have hS : va_S A s.heap s.heap [] := va_S.rf
  have hl := lv_entry ([.ref h0, .int p1, .ref p2]) (n := 4) (Nat.le_of_ble_eq_true rfl)
  rw [lg_entry_eq]
  generalize (lg_sl ([.ref h0, .int p1, .ref p2]) ++ List.replicate (4 - (lg_sl ([.ref h0, .int p1, .ref p2])).length) Slot.unset).toArray = ls at hl ⊢
  have hl : lv_has ls 4 [(0, .ref h0), (1, .int p1), (2, .ref p2)] := hl
  refine lv_iload_n hx hb dX0_moveCharge_0 rfl (lv_at hl 1 rfl) ?_
  refine lv_if_le (tgt := 65) hx hb dX0_moveCharge_1 (by decide) (fun hc_1 => ?_) (fun hc_1 => ?_)
  · refine lv_aload_n hx hb dX0_moveCharge_65 rfl (lv_at hl 0 rfl) ?_
    refine lv_dup hx hb dX0_moveCharge_66 rfl ?_
    refine ty_get (E := []) (ws := ws) (D := D) (ci := 0) (C := RX0) (T := TX0) (N := 16) hx hb hts in_X0 hown hK hP hT h_h0 rfl 6 (by decide) (hts _ kl_RX0_42) (fun _ h9 => h9) rfl dX0_moveCharge_67 (fun _ hv_2 hf_3 => ?_)
    obtain ⟨x_4, rfl⟩ := hv_2
    refine lv_iload_n hx hb dX0_moveCharge_70 rfl (lv_at hl 1 rfl) ?_
    refine lv_iadd hx hb dX0_moveCharge_71 ?_
    refine lv_topi (fun x_5 _ => ?_)
    refine ty_put (v := .int x_5) (ty := .int) (E := []) (ws := ws) (D := D) (ci := 0) (C := RX0) (T := TX0) (N := 16) hx hb hts in_X0 tyX0 tyX0_ok nmX0 hown hK hP hD hS hT h_h0 rfl 6 (by decide) (hts _ kl_RX0_42) (fun _ h9 => h9) rfl (by decide +kernel) rfl rfl rfl ⟨_, rfl⟩ dX0_moveCharge_72 hph (hy1 0 6 h0 rfl) (fun ws_6 H locs hT hP hD hS => ?_)
    refine lv_aload_n hx hb dX0_moveCharge_75 rfl (lv_at hl 0 rfl) ?_
    refine ty_get (E := []) (ws := ws_6) (D := D) (ci := 0) (C := RX0) (T := TX0) (N := 16) hx hb hts in_X0 hown hK hP hT h_h0 rfl 15 (by decide) (hts _ kl_RX0_18) (fun _ h9 => h9) rfl dX0_moveCharge_76 (fun _ hv_7 hf_8 => ?_)
    obtain ⟨a_9, rfl, ha_10⟩ := hv_7
    refine lv_dup hx hb dX0_moveCharge_79 rfl ?_
    refine ty_getN (E := []) (ws := ws_6) (D := D) (ci := 3) (C := RX3) (T := TX3) (N := 4) hx hb hts in_X3 hown hK hP hT ha_10 rfl 1 (by decide) (hts _ kl_RX0_148) (fun _ h9 => h9) rfl dX0_moveCharge_80 (fun _ hv_11 hf_12 => ?_)
    obtain ⟨x_13, rfl⟩ := hv_11
    refine lv_iload_n hx hb dX0_moveCharge_83 rfl (lv_at hl 1 rfl) ?_
    refine lv_i2l hx hb dX0_moveCharge_84 rfl ?_
    refine lv_topl (fun x_14 _ => ?_)
    refine lv_lsub hx hb dX0_moveCharge_85 ?_
    refine lv_topl (fun x_15 _ => ?_)
    refine ty_putN (v := .long x_15) (ty := .long) (E := []) (ws := ws_6) (D := D) (ci := 3) (C := RX3) (T := TX3) (N := 4) hx hb hts in_X3 tyX3 tyX3_ok nmX3 hown hK hP hD hS hT ha_10 rfl 1 (by decide) (hts _ kl_RX0_148) (fun _ h9 => h9) rfl (by decide +kernel) rfl rfl rfl ⟨_, rfl⟩ dX0_moveCharge_86 hph (hy1 3 1 a_9 rfl) (fun ws_16 H locs hT hP hD hS => ?_)
    exact W.vret hx hb hr (fun t ht hW => ⟨⟨ws_16, rfl, hT, by rw [ht]; exact hP, by rw [hAe]; exact hD⟩, hS.F ht⟩) hS.2.2 dX0_moveCharge_89
  · refine lv_aload_n hx hb dX0_moveCharge_4 rfl (lv_at hl 0 rfl) ?_
    refine ty_get (E := []) (ws := ws) (D := D) (ci := 0) (C := RX0) (T := TX0) (N := 16) hx hb hts in_X0 hown hK hP hT h_h0 rfl 15 (by decide) (hts _ kl_RX0_18) (fun _ h9 => h9) rfl dX0_moveCharge_5 (fun _ hv_17 hf_18 => ?_)
    obtain ⟨a_19, rfl, ha_20⟩ := hv_17
    refine lv_dup hx hb dX0_moveCharge_8 rfl ?_
    refine ty_getN (E := []) (ws := ws) (D := D) (ci := 3) (C := RX3) (T := TX3) (N := 4) hx hb hts in_X3 hown hK hP hT ha_20 rfl 0 (by decide) (hts _ kl_RX0_140) (fun _ h9 => h9) rfl dX0_moveCharge_9 (fun _ hv_21 hf_22 => ?_)
    obtain ⟨x_23, rfl⟩ := hv_21
    refine lv_iload_n hx hb dX0_moveCharge_12 rfl (lv_at hl 1 rfl) ?_
    refine lv_i2l hx hb dX0_moveCharge_13 rfl ?_
    refine lv_topl (fun x_24 _ => ?_)
    refine lv_ladd hx hb dX0_moveCharge_14 ?_
    refine lv_topl (fun x_25 _ => ?_)
    refine ty_putN (v := .long x_25) (ty := .long) (E := []) (ws := ws) (D := D) (ci := 3) (C := RX3) (T := TX3) (N := 4) hx hb hts in_X3 tyX3 tyX3_ok nmX3 hown hK hP hD hS hT ha_20 rfl 0 (by decide) (hts _ kl_RX0_140) (fun _ h9 => h9) rfl (by decide +kernel) rfl rfl rfl ⟨_, rfl⟩ dX0_moveCharge_15 hph (hy1 3 0 a_19 rfl) (fun ws_26 H locs hT hP hD hS => ?_)
    refine lv_iload_n hx hb dX0_moveCharge_18 rfl (lv_at hl 1 rfl) ?_
    refine lv_aload_n hx hb dX0_moveCharge_19 rfl (lv_at hl 2 rfl) ?_
    refine ty_getN (E := []) (ws := ws_26) (D := D) (ci := 7) (C := RX7) (T := TX7) (N := 12) hx hb hts in_X7 hown hK hP hT h_p2 rfl 0 (by decide) (hts _ kl_RX0_143) (fun _ h9 => h9) rfl dX0_moveCharge_20 (fun _ hv_27 hf_28 => ?_)
    obtain ⟨x_29, rfl⟩ := hv_27
    refine lv_imul hx hb dX0_moveCharge_23 ?_
    refine lv_topi (fun x_30 _ => ?_)
    refine lv_aload_n hx hb dX0_moveCharge_24 rfl (lv_at hl 0 rfl) ?_
    refine ty_get (E := []) (ws := ws_26) (D := D) (ci := 0) (C := RX0) (T := TX0) (N := 16) hx hb hts in_X0 hown hK hP hT h_h0 rfl 7 (by decide) (hts _ kl_RX0_45) (fun _ h9 => h9) rfl dX0_moveCharge_25 (fun _ hv_31 hf_32 => ?_)
    obtain ⟨x_33, rfl⟩ := hv_31
    refine lv_iadd hx hb dX0_moveCharge_28 ?_
    refine lv_topi (fun x_34 _ => ?_)
    refine lv_istore_n (lv' := [(3, .int x_34), (0, .ref h0), (1, .int p1), (2, .ref p2)]) hx hb dX0_moveCharge_29 rfl hl (by decide) rfl (fun ls hl => ?_)
    refine lv_aload_n hx hb dX0_moveCharge_30 rfl (lv_at hl 1 rfl) ?_
    refine lv_aload_n hx hb dX0_moveCharge_31 rfl (lv_at hl 1 rfl) ?_
    refine ty_get (E := []) (ws := ws_26) (D := D) (ci := 0) (C := RX0) (T := TX0) (N := 16) hx hb hts in_X0 hown hK hP hT h_h0 rfl 6 (by decide) (hts _ kl_RX0_42) (fun _ h9 => h9) rfl dX0_moveCharge_32 (fun _ hv_35 hf_36 => ?_)
    obtain ⟨x_37, rfl⟩ := hv_35
    refine lv_iload_n hx hb dX0_moveCharge_35 rfl (lv_at hl 0 rfl) ?_
    refine lv_sipush (v := 1000) hx hb dX0_moveCharge_36 (by decide) ?_
    refine lv_idiv hx hb dX0_moveCharge_39 (by decide) ?_
    refine lv_topi (fun x_38 _ => ?_)
    refine lv_iadd hx hb dX0_moveCharge_40 ?_
    refine lv_topi (fun x_39 _ => ?_)
    refine lv_iconst (v := 2) hx hb dX0_moveCharge_41 (by decide) ?_
    refine lv_aload_n hx hb dX0_moveCharge_42 rfl (lv_at hl 1 rfl) ?_
    refine ty_get (E := []) (ws := ws_26) (D := D) (ci := 0) (C := RX0) (T := TX0) (N := 16) hx hb hts in_X0 hown hK hP hT h_h0 rfl 2 (by decide) (hts _ kl_RX0_48) (fun _ h9 => h9) rfl dX0_moveCharge_43 (fun _ hv_40 hf_41 => ?_)
    obtain ⟨x_42, rfl⟩ := hv_40
    refine lv_imul hx hb dX0_moveCharge_46 ?_
    refine lv_topi (fun x_43 _ => ?_)
    refine va_mmin hx hb (hml.trans hl.1.symm) hown (hts _ kl_RX0_146) (hts _ jm_min_s) (hts _ ki_RJ9) (hts _ jm_min_c) (Nat.le_of_ble_eq_true rfl) (Nat.le_of_ble_eq_true rfl) (Nat.le_of_ble_eq_true rfl) (Nat.le_of_ble_eq_true rfl) dX0_moveCharge_47 ?_
    refine lv_topi (fun x_44 _ => ?_)
    refine ty_put (v := .int x_44) (ty := .int) (E := []) (ws := ws_26) (D := D) (ci := 0) (C := RX0) (T := TX0) (N := 16) hx hb hts in_X0 tyX0 tyX0_ok nmX0 hown hK hP hD hS hT h_h0 rfl 6 (by decide) (hts _ kl_RX0_42) (fun _ h9 => h9) rfl (by decide +kernel) rfl rfl rfl ⟨_, rfl⟩ dX0_moveCharge_50 hph (hy1 0 6 h0 rfl) (fun ws_45 H locs hT hP hD hS => ?_)
    refine lv_aload_n hx hb dX0_moveCharge_53 rfl (lv_at hl 1 rfl) ?_
    refine lv_iload_n hx hb dX0_moveCharge_54 rfl (lv_at hl 0 rfl) ?_
    refine lv_sipush (v := 1000) hx hb dX0_moveCharge_55 (by decide) ?_
    refine lv_irem hx hb dX0_moveCharge_58 (by decide) ?_
    refine lv_topi (fun x_46 _ => ?_)
    refine ty_put (v := .int x_46) (ty := .int) (E := []) (ws := ws_45) (D := D) (ci := 0) (C := RX0) (T := TX0) (N := 16) hx hb hts in_X0 tyX0 tyX0_ok nmX0 hown hK hP hD hS hT h_h0 rfl 7 (by decide) (hts _ kl_RX0_45) (fun _ h9 => h9) rfl (by decide +kernel) rfl rfl rfl ⟨_, rfl⟩ dX0_moveCharge_59 hph (hy1 0 7 h0 rfl) (fun ws_47 H locs hT hP hD hS => ?_)
    refine lv_goto (tgt := 89) hx hb dX0_moveCharge_62 (by decide) ?_
    exact W.vret hx hb hr (fun t ht hW => ⟨⟨ws_47, rfl, hT, by rw [ht]; exact hP, by rw [hAe]; exact hD⟩, hS.F ht⟩) hS.2.2 dX0_moveCharge_89
theorem dX1_isFree_0 : decode cX1_isFree 0 = .ok (.aload_n 0, 1) := by decide +kernel
theorem dX1_isFree_1 : decode cX1_isFree 1 = .ok (.getfield 43, 3) := by decide +kernel
theorem dX1_isFree_4 : decode cX1_isFree 4 = .ok (.ifCond .eq 11, 3) := by decide +kernel
theorem dX1_isFree_7 : decode cX1_isFree 7 = .ok (.aload_n 0, 1) := by decide +kernel
theorem dX1_isFree_8 : decode cX1_isFree 8 = .ok (.getfield 43, 3) := by decide +kernel
theorem dX1_isFree_11 : decode cX1_isFree 11 = .ok (.iconst 3, 1) := by decide +kernel
theorem dX1_isFree_12 : decode cX1_isFree 12 = .ok (.if_icmp .ne 7, 3) := by decide +kernel
theorem dX1_isFree_15 : decode cX1_isFree 15 = .ok (.iconst 1, 1) := by decide +kernel
theorem dX1_isFree_16 : decode cX1_isFree 16 = .ok (.goto 4, 3) := by decide +kernel
theorem dX1_isFree_19 : decode cX1_isFree 19 = .ok (.iconst 0, 1) := by decide +kernel
theorem dX1_isFree_20 : decode cX1_isFree 20 = .ok (.ireturn, 1) := by decide +kernel
set_option maxRecDepth 100000 in
set_option maxHeartbeats 4000000 in
theorem t_X1_isFree (l : Launch) (D : va_G) (ct : Nat → ClassId) (S : ty_S) (ws : va_W) (ph : va_W → Prop) (xx : Nat → Nat → Nat → Prop) (h0 : Nat) (sz : Nat) (hT : ty_V ct S ph ws) (h_h0 : S h0 = some (.inl 1)) (hph : ty_C ph xx) (hy1 : ty_y1 xx) : Met l yX1_isFree (ws_ yX1_isFree cX1_isFree 1 (some .boolean)) ({ frames := 0, cells := 0, slots := 0, locals := 0 } : Room) (va_Pc [.ref h0] (cmP D ct sz ([] ++ ws))) (va_Qi (fun (r : Int32) (u9 : va_W) => ty_V ct S ph u9) (cmB D ([] ++ ws) sz (fun (u9 : va_W) => ([] ++ u9))) (va_A ([] ++ ws) sz)) 0 0 (va_A ([] ++ ws) sz) := by
  refine Met.ofW (cc := cX1_isFree) (maxL := 1) (ret := (some .boolean)) (by decide) rfl ?_
  intro p e s m args below meth c s₁ B hml hv
  obtain ⟨rfl, hsz, hP, hK, hD0, hX⟩ := hv
  have hx := B.exec
  have hb := B.bytes
  have hr := B.returns
  have hts := ws_all (atoms_spec (ws := ws_ yX1_isFree cX1_isFree 1 (some .boolean)) B.pre)
  have hown : s.vm.findClass RX1 = some m.cls := findClass_of_methodNamed B.named
  have hlocks := B.notSynchronized
  subst hsz
  have hD := hD0.self (sz := s.heap.size)
  generalize hAe : va_A ([] ++ ws) s.heap.size = A at hD hX ⊢
  have hA : ∀ q : Nat, s.heap.size ≤ q → A q := fun q h => by rw [← hAe]; exact Or.inr h
  have hS : va_S A s.heap s.heap [] := va_S.rf
  have hl := lv_entry ([.ref h0]) (n := 1) (Nat.le_of_ble_eq_true rfl)
  rw [lg_entry_eq]
  generalize (lg_sl ([.ref h0]) ++ List.replicate (1 - (lg_sl ([.ref h0])).length) Slot.unset).toArray = ls at hl ⊢
  have hl : lv_has ls 1 [(0, .ref h0)] := hl
  refine lv_aload_n hx hb dX1_isFree_0 rfl (lv_at hl 0 rfl) ?_
  refine ty_get (E := []) (ws := ws) (D := D) (ci := 1) (C := RX1) (T := TX1) (N := 14) hx hb hts in_X1 hown hK hP hT h_h0 rfl 3 (by decide) (hts _ kl_RX1_43) (fun _ h9 => h9) rfl dX1_isFree_1 (fun _ hv_1 hf_2 => ?_)
  obtain ⟨x_3, rfl⟩ := hv_1
  refine lv_if_eq (tgt := 15) hx hb dX1_isFree_4 (by decide) (fun hc_4 => ?_) (fun hc_4 => ?_)
  · refine lv_iconst (v := 1) hx hb dX1_isFree_15 (by decide) ?_
    refine lv_goto (tgt := 20) hx hb dX1_isFree_16 (by decide) ?_
    exact W.zret (v := 1) hx hb hr (by decide) (fun t ht hW => ⟨⟨1, ws, rfl, hT, by rw [ht]; exact hP, by rw [hAe]; exact hD⟩, hS.F ht⟩) hS.2.2 dX1_isFree_20
  · refine lv_aload_n hx hb dX1_isFree_7 rfl (lv_at hl 0 rfl) ?_
    refine ty_get (E := []) (ws := ws) (D := D) (ci := 1) (C := RX1) (T := TX1) (N := 14) hx hb hts in_X1 hown hK hP hT h_h0 rfl 3 (by decide) (hts _ kl_RX1_43) (fun _ h9 => h9) rfl dX1_isFree_8 (fun _ hv_5 hf_6 => ?_)
    obtain ⟨x_7, rfl⟩ := hv_5
    refine lv_iconst (v := 3) hx hb dX1_isFree_11 (by decide) ?_
    refine lv_icmp_ne (tgt := 19) hx hb dX1_isFree_12 (by decide) (fun hc_8 => ?_) (fun hc_8 => ?_)
    · refine lv_iconst (v := 0) hx hb dX1_isFree_19 (by decide) ?_
      exact W.zret (v := 0) hx hb hr (by decide) (fun t ht hW => ⟨⟨0, ws, rfl, hT, by rw [ht]; exact hP, by rw [hAe]; exact hD⟩, hS.F ht⟩) hS.2.2 dX1_isFree_20
    · refine lv_iconst (v := 1) hx hb dX1_isFree_15 (by decide) ?_
      refine lv_goto (tgt := 20) hx hb dX1_isFree_16 (by decide) ?_
      exact W.zret (v := 1) hx hb hr (by decide) (fun t ht hW => ⟨⟨1, ws, rfl, hT, by rw [ht]; exact hP, by rw [hAe]; exact hD⟩, hS.F ht⟩) hS.2.2 dX1_isFree_20
theorem dX1_number_0 : decode cX1_number 0 = .ok (.aload_n 0, 1) := by decide +kernel
theorem dX1_number_1 : decode cX1_number 1 = .ok (.getfield 43, 3) := by decide +kernel
theorem dX1_number_4 : decode cX1_number 4 = .ok (.iconst 1, 1) := by decide +kernel
theorem dX1_number_5 : decode cX1_number 5 = .ok (.if_icmp .eq 19, 3) := by decide +kernel
theorem dX1_number_8 : decode cX1_number 8 = .ok (.aload_n 0, 1) := by decide +kernel
theorem dX1_number_9 : decode cX1_number 9 = .ok (.getfield 43, 3) := by decide +kernel
theorem dX1_number_12 : decode cX1_number 12 = .ok (.iconst 2, 1) := by decide +kernel
theorem dX1_number_13 : decode cX1_number 13 = .ok (.if_icmp .eq 11, 3) := by decide +kernel
theorem dX1_number_16 : decode cX1_number 16 = .ok (.aload_n 0, 1) := by decide +kernel
theorem dX1_number_17 : decode cX1_number 17 = .ok (.getfield 43, 3) := by decide +kernel
theorem dX1_number_20 : decode cX1_number 20 = .ok (.iconst 4, 1) := by decide +kernel
theorem dX1_number_21 : decode cX1_number 21 = .ok (.if_icmp .ne 7, 3) := by decide +kernel
theorem dX1_number_24 : decode cX1_number 24 = .ok (.iconst 1, 1) := by decide +kernel
theorem dX1_number_25 : decode cX1_number 25 = .ok (.goto 4, 3) := by decide +kernel
theorem dX1_number_28 : decode cX1_number 28 = .ok (.iconst 0, 1) := by decide +kernel
theorem dX1_number_29 : decode cX1_number 29 = .ok (.istore_n 2, 1) := by decide +kernel
theorem dX1_number_30 : decode cX1_number 30 = .ok (.iload_n 1, 1) := by decide +kernel
theorem dX1_number_31 : decode cX1_number 31 = .ok (.tableswitch 137 0 9 #[53, 58, 63, 76, 89, 97, 105, 113, 121, 129], 53) := by decide +kernel
theorem dX1_number_84 : decode cX1_number 84 = .ok (.aload_n 0, 1) := by decide +kernel
theorem dX1_number_85 : decode cX1_number 85 = .ok (.getfield 43, 3) := by decide +kernel
theorem dX1_number_88 : decode cX1_number 88 = .ok (.ireturn, 1) := by decide +kernel
theorem dX1_number_89 : decode cX1_number 89 = .ok (.aload_n 0, 1) := by decide +kernel
theorem dX1_number_90 : decode cX1_number 90 = .ok (.getfield 46, 3) := by decide +kernel
theorem dX1_number_93 : decode cX1_number 93 = .ok (.ireturn, 1) := by decide +kernel
theorem dX1_number_94 : decode cX1_number 94 = .ok (.iload_n 2, 1) := by decide +kernel
theorem dX1_number_95 : decode cX1_number 95 = .ok (.ifCond .eq 10, 3) := by decide +kernel
theorem dX1_number_98 : decode cX1_number 98 = .ok (.aload_n 0, 1) := by decide +kernel
theorem dX1_number_99 : decode cX1_number 99 = .ok (.getfield 49, 3) := by decide +kernel
theorem dX1_number_102 : decode cX1_number 102 = .ok (.goto 4, 3) := by decide +kernel
theorem dX1_number_105 : decode cX1_number 105 = .ok (.iconst (-1), 1) := by decide +kernel
theorem dX1_number_106 : decode cX1_number 106 = .ok (.ireturn, 1) := by decide +kernel
theorem dX1_number_107 : decode cX1_number 107 = .ok (.iload_n 2, 1) := by decide +kernel
theorem dX1_number_108 : decode cX1_number 108 = .ok (.ifCond .eq 10, 3) := by decide +kernel
theorem dX1_number_111 : decode cX1_number 111 = .ok (.aload_n 0, 1) := by decide +kernel
theorem dX1_number_112 : decode cX1_number 112 = .ok (.getfield 52, 3) := by decide +kernel
theorem dX1_number_115 : decode cX1_number 115 = .ok (.goto 4, 3) := by decide +kernel
theorem dX1_number_118 : decode cX1_number 118 = .ok (.iconst 0, 1) := by decide +kernel
theorem dX1_number_119 : decode cX1_number 119 = .ok (.ireturn, 1) := by decide +kernel
theorem dX1_number_120 : decode cX1_number 120 = .ok (.aload_n 0, 1) := by decide +kernel
theorem dX1_number_121 : decode cX1_number 121 = .ok (.getfield 18, 3) := by decide +kernel
theorem dX1_number_124 : decode cX1_number 124 = .ok (.getfield 76, 3) := by decide +kernel
theorem dX1_number_127 : decode cX1_number 127 = .ok (.ireturn, 1) := by decide +kernel
theorem dX1_number_128 : decode cX1_number 128 = .ok (.aload_n 0, 1) := by decide +kernel
theorem dX1_number_129 : decode cX1_number 129 = .ok (.getfield 18, 3) := by decide +kernel
theorem dX1_number_132 : decode cX1_number 132 = .ok (.getfield 79, 3) := by decide +kernel
theorem dX1_number_135 : decode cX1_number 135 = .ok (.ireturn, 1) := by decide +kernel
theorem dX1_number_136 : decode cX1_number 136 = .ok (.aload_n 0, 1) := by decide +kernel
theorem dX1_number_137 : decode cX1_number 137 = .ok (.getfield 18, 3) := by decide +kernel
theorem dX1_number_140 : decode cX1_number 140 = .ok (.getfield 82, 3) := by decide +kernel
theorem dX1_number_143 : decode cX1_number 143 = .ok (.ireturn, 1) := by decide +kernel
theorem dX1_number_144 : decode cX1_number 144 = .ok (.aload_n 0, 1) := by decide +kernel
theorem dX1_number_145 : decode cX1_number 145 = .ok (.getfield 18, 3) := by decide +kernel
theorem dX1_number_148 : decode cX1_number 148 = .ok (.getfield 85, 3) := by decide +kernel
theorem dX1_number_151 : decode cX1_number 151 = .ok (.ireturn, 1) := by decide +kernel
theorem dX1_number_152 : decode cX1_number 152 = .ok (.aload_n 0, 1) := by decide +kernel
theorem dX1_number_153 : decode cX1_number 153 = .ok (.getfield 18, 3) := by decide +kernel
theorem dX1_number_156 : decode cX1_number 156 = .ok (.getfield 88, 3) := by decide +kernel
theorem dX1_number_159 : decode cX1_number 159 = .ok (.ireturn, 1) := by decide +kernel
theorem dX1_number_160 : decode cX1_number 160 = .ok (.aload_n 0, 1) := by decide +kernel
theorem dX1_number_161 : decode cX1_number 161 = .ok (.getfield 18, 3) := by decide +kernel
theorem dX1_number_164 : decode cX1_number 164 = .ok (.getfield 91, 3) := by decide +kernel
theorem dX1_number_167 : decode cX1_number 167 = .ok (.ireturn, 1) := by decide +kernel
theorem dX1_number_168 : decode cX1_number 168 = .ok (.aload_n 0, 1) := by decide +kernel
theorem dX1_number_169 : decode cX1_number 169 = .ok (.getfield 25, 3) := by decide +kernel
theorem dX1_number_172 : decode cX1_number 172 = .ok (.getfield 94, 3) := by decide +kernel
theorem dX1_number_175 : decode cX1_number 175 = .ok (.ireturn, 1) := by decide +kernel
set_option maxRecDepth 100000 in
set_option maxHeartbeats 4000000 in
theorem t_X1_number (l : Launch) (D : va_G) (ct : Nat → ClassId) (S : ty_S) (ws : va_W) (ph : va_W → Prop) (xx : Nat → Nat → Nat → Prop) (h0 : Nat) (p1 : Int32) (sz : Nat) (hT : ty_V ct S ph ws) (h_h0 : S h0 = some (.inl 1)) (hph : ty_C ph xx) (hy1 : ty_y1 xx) : Met l yX1_number (ws_ yX1_number cX1_number 3 (some .int)) ({ frames := 0, cells := 0, slots := 0, locals := 0 } : Room) (va_Pc [.ref h0, .int p1] (cmP D ct sz ([] ++ ws))) (va_Qi (fun (r : Int32) (u9 : va_W) => ty_V ct S ph u9) (cmB D ([] ++ ws) sz (fun (u9 : va_W) => ([] ++ u9))) (va_A ([] ++ ws) sz)) 0 0 (va_A ([] ++ ws) sz) := by
  refine Met.ofW (cc := cX1_number) (maxL := 3) (ret := (some .int)) (by decide) rfl ?_
  intro p e s m args below meth c s₁ B hml hv
  obtain ⟨rfl, hsz, hP, hK, hD0, hX⟩ := hv
  have hx := B.exec
  have hb := B.bytes
  have hr := B.returns
  have hts := ws_all (atoms_spec (ws := ws_ yX1_number cX1_number 3 (some .int)) B.pre)
  have hown : s.vm.findClass RX1 = some m.cls := findClass_of_methodNamed B.named
  have hlocks := B.notSynchronized
  subst hsz
  have hD := hD0.self (sz := s.heap.size)
  generalize hAe : va_A ([] ++ ws) s.heap.size = A at hD hX ⊢
  have hA : ∀ q : Nat, s.heap.size ≤ q → A q := fun q h => by rw [← hAe]; exact Or.inr h
  have hS : va_S A s.heap s.heap [] := va_S.rf
  have hl := lv_entry ([.ref h0, .int p1]) (n := 3) (Nat.le_of_ble_eq_true rfl)
  rw [lg_entry_eq]
  generalize (lg_sl ([.ref h0, .int p1]) ++ List.replicate (3 - (lg_sl ([.ref h0, .int p1])).length) Slot.unset).toArray = ls at hl ⊢
  have hl : lv_has ls 3 [(0, .ref h0), (1, .int p1)] := hl
  refine lv_aload_n hx hb dX1_number_0 rfl (lv_at hl 0 rfl) ?_
  refine ty_get (E := []) (ws := ws) (D := D) (ci := 1) (C := RX1) (T := TX1) (N := 14) hx hb hts in_X1 hown hK hP hT h_h0 rfl 3 (by decide) (hts _ kl_RX1_43) (fun _ h9 => h9) rfl dX1_number_1 (fun _ hv_1 hf_2 => ?_)
  obtain ⟨x_3, rfl⟩ := hv_1
  refine lv_iconst (v := 1) hx hb dX1_number_4 (by decide) ?_
  refine lv_icmp_eq (tgt := 24) hx hb dX1_number_5 (by decide) (fun hc_4 => ?_) (fun hc_4 => ?_)
  · refine lv_iconst (v := 1) hx hb dX1_number_24 (by decide) ?_
    refine lv_goto (tgt := 29) hx hb dX1_number_25 (by decide) ?_
    refine lv_istore_n (lv' := [(2, .int 1), (0, .ref h0), (1, .int p1)]) hx hb dX1_number_29 rfl hl (by decide) rfl (fun ls hl => ?_)
    refine lv_iload_n hx hb dX1_number_30 rfl (lv_at hl 2 rfl) ?_
    by_cases hk_5 : p1 = 0
    · refine cm_cst hk_5 (lv_tableIn (off := 53) (tgt := 84) hx hb dX1_number_31 (by decide) (by decide) (by decide) (by decide) ?_)
      refine lv_aload_n hx hb dX1_number_84 rfl (lv_at hl 1 rfl) ?_
      refine ty_get (E := []) (ws := ws) (D := D) (ci := 1) (C := RX1) (T := TX1) (N := 14) hx hb hts in_X1 hown hK hP hT h_h0 rfl 3 (by decide) (hts _ kl_RX1_43) (fun _ h9 => h9) rfl dX1_number_85 (fun _ hv_6 hf_7 => ?_)
      obtain ⟨x_8, rfl⟩ := hv_6
      exact W.iret (v := x_8) hx hb hr (fun t ht hW => ⟨⟨x_8, ws, rfl, hT, by rw [ht]; exact hP, by rw [hAe]; exact hD⟩, hS.F ht⟩) hS.2.2 dX1_number_88
    by_cases hk_9 : p1 = 1
    · refine cm_cst hk_9 (lv_tableIn (off := 58) (tgt := 89) hx hb dX1_number_31 (by decide) (by decide) (by decide) (by decide) ?_)
      refine lv_aload_n hx hb dX1_number_89 rfl (lv_at hl 1 rfl) ?_
      refine ty_get (E := []) (ws := ws) (D := D) (ci := 1) (C := RX1) (T := TX1) (N := 14) hx hb hts in_X1 hown hK hP hT h_h0 rfl 4 (by decide) (hts _ kl_RX1_46) (fun _ h9 => h9) rfl dX1_number_90 (fun _ hv_10 hf_11 => ?_)
      obtain ⟨x_12, rfl⟩ := hv_10
      exact W.iret (v := x_12) hx hb hr (fun t ht hW => ⟨⟨x_12, ws, rfl, hT, by rw [ht]; exact hP, by rw [hAe]; exact hD⟩, hS.F ht⟩) hS.2.2 dX1_number_93
    by_cases hk_13 : p1 = 2
    · refine cm_cst hk_13 (lv_tableIn (off := 63) (tgt := 94) hx hb dX1_number_31 (by decide) (by decide) (by decide) (by decide) ?_)
      refine lv_iload_n hx hb dX1_number_94 rfl (lv_at hl 0 rfl) ?_
      refine lv_if_eq (tgt := 105) hx hb dX1_number_95 (by decide) (fun hc => absurd hc (by decide)) (fun _ => ?_)
      refine lv_aload_n hx hb dX1_number_98 rfl (lv_at hl 1 rfl) ?_
      refine ty_get (E := []) (ws := ws) (D := D) (ci := 1) (C := RX1) (T := TX1) (N := 14) hx hb hts in_X1 hown hK hP hT h_h0 rfl 5 (by decide) (hts _ kl_RX1_49) (fun _ h9 => h9) rfl dX1_number_99 (fun _ hv_14 hf_15 => ?_)
      obtain ⟨x_16, rfl⟩ := hv_14
      refine lv_goto (tgt := 106) hx hb dX1_number_102 (by decide) ?_
      exact W.iret (v := x_16) hx hb hr (fun t ht hW => ⟨⟨x_16, ws, rfl, hT, by rw [ht]; exact hP, by rw [hAe]; exact hD⟩, hS.F ht⟩) hS.2.2 dX1_number_106
    by_cases hk_17 : p1 = 3
    · refine cm_cst hk_17 (lv_tableIn (off := 76) (tgt := 107) hx hb dX1_number_31 (by decide) (by decide) (by decide) (by decide) ?_)
      refine lv_iload_n hx hb dX1_number_107 rfl (lv_at hl 0 rfl) ?_
      refine lv_if_eq (tgt := 118) hx hb dX1_number_108 (by decide) (fun hc => absurd hc (by decide)) (fun _ => ?_)
      refine lv_aload_n hx hb dX1_number_111 rfl (lv_at hl 1 rfl) ?_
      refine ty_get (E := []) (ws := ws) (D := D) (ci := 1) (C := RX1) (T := TX1) (N := 14) hx hb hts in_X1 hown hK hP hT h_h0 rfl 6 (by decide) (hts _ kl_RX1_52) (fun _ h9 => h9) rfl dX1_number_112 (fun _ hv_18 hf_19 => ?_)
      obtain ⟨x_20, rfl⟩ := hv_18
      refine lv_goto (tgt := 119) hx hb dX1_number_115 (by decide) ?_
      exact W.iret (v := x_20) hx hb hr (fun t ht hW => ⟨⟨x_20, ws, rfl, hT, by rw [ht]; exact hP, by rw [hAe]; exact hD⟩, hS.F ht⟩) hS.2.2 dX1_number_119
    by_cases hk_21 : p1 = 4
    · refine cm_cst hk_21 (lv_tableIn (off := 89) (tgt := 120) hx hb dX1_number_31 (by decide) (by decide) (by decide) (by decide) ?_)
      refine lv_aload_n hx hb dX1_number_120 rfl (lv_at hl 1 rfl) ?_
      refine ty_get (E := []) (ws := ws) (D := D) (ci := 1) (C := RX1) (T := TX1) (N := 14) hx hb hts in_X1 hown hK hP hT h_h0 rfl 1 (by decide) (hts _ kl_RX1_18) (fun _ h9 => h9) rfl dX1_number_121 (fun _ hv_22 hf_23 => ?_)
      obtain ⟨a_24, rfl, ha_25⟩ := hv_22
      refine ty_getN (E := []) (ws := ws) (D := D) (ci := 0) (C := RX0) (T := TX0) (N := 16) hx hb hts in_X0 hown hK hP hT ha_25 rfl 13 (by decide) (hts _ kl_RX1_76) (fun _ h9 => h9) rfl dX1_number_124 (fun _ hv_26 hf_27 => ?_)
      obtain ⟨x_28, rfl⟩ := hv_26
      exact W.iret (v := x_28) hx hb hr (fun t ht hW => ⟨⟨x_28, ws, rfl, hT, by rw [ht]; exact hP, by rw [hAe]; exact hD⟩, hS.F ht⟩) hS.2.2 dX1_number_127
    by_cases hk_29 : p1 = 5
    · refine cm_cst hk_29 (lv_tableIn (off := 97) (tgt := 128) hx hb dX1_number_31 (by decide) (by decide) (by decide) (by decide) ?_)
      refine lv_aload_n hx hb dX1_number_128 rfl (lv_at hl 1 rfl) ?_
      refine ty_get (E := []) (ws := ws) (D := D) (ci := 1) (C := RX1) (T := TX1) (N := 14) hx hb hts in_X1 hown hK hP hT h_h0 rfl 1 (by decide) (hts _ kl_RX1_18) (fun _ h9 => h9) rfl dX1_number_129 (fun _ hv_30 hf_31 => ?_)
      obtain ⟨a_32, rfl, ha_33⟩ := hv_30
      refine ty_getN (E := []) (ws := ws) (D := D) (ci := 0) (C := RX0) (T := TX0) (N := 16) hx hb hts in_X0 hown hK hP hT ha_33 rfl 14 (by decide) (hts _ kl_RX1_79) (fun _ h9 => h9) rfl dX1_number_132 (fun _ hv_34 hf_35 => ?_)
      obtain ⟨x_36, rfl⟩ := hv_34
      exact W.iret (v := x_36) hx hb hr (fun t ht hW => ⟨⟨x_36, ws, rfl, hT, by rw [ht]; exact hP, by rw [hAe]; exact hD⟩, hS.F ht⟩) hS.2.2 dX1_number_135
    by_cases hk_37 : p1 = 6
    · refine cm_cst hk_37 (lv_tableIn (off := 105) (tgt := 136) hx hb dX1_number_31 (by decide) (by decide) (by decide) (by decide) ?_)
      refine lv_aload_n hx hb dX1_number_136 rfl (lv_at hl 1 rfl) ?_
      refine ty_get (E := []) (ws := ws) (D := D) (ci := 1) (C := RX1) (T := TX1) (N := 14) hx hb hts in_X1 hown hK hP hT h_h0 rfl 1 (by decide) (hts _ kl_RX1_18) (fun _ h9 => h9) rfl dX1_number_137 (fun _ hv_38 hf_39 => ?_)
      obtain ⟨a_40, rfl, ha_41⟩ := hv_38
      refine ty_getN (E := []) (ws := ws) (D := D) (ci := 0) (C := RX0) (T := TX0) (N := 16) hx hb hts in_X0 hown hK hP hT ha_41 rfl 6 (by decide) (hts _ kl_RX1_82) (fun _ h9 => h9) rfl dX1_number_140 (fun _ hv_42 hf_43 => ?_)
      obtain ⟨x_44, rfl⟩ := hv_42
      exact W.iret (v := x_44) hx hb hr (fun t ht hW => ⟨⟨x_44, ws, rfl, hT, by rw [ht]; exact hP, by rw [hAe]; exact hD⟩, hS.F ht⟩) hS.2.2 dX1_number_143
    by_cases hk_45 : p1 = 7
    · refine cm_cst hk_45 (lv_tableIn (off := 113) (tgt := 144) hx hb dX1_number_31 (by decide) (by decide) (by decide) (by decide) ?_)
      refine lv_aload_n hx hb dX1_number_144 rfl (lv_at hl 1 rfl) ?_
      refine ty_get (E := []) (ws := ws) (D := D) (ci := 1) (C := RX1) (T := TX1) (N := 14) hx hb hts in_X1 hown hK hP hT h_h0 rfl 1 (by decide) (hts _ kl_RX1_18) (fun _ h9 => h9) rfl dX1_number_145 (fun _ hv_46 hf_47 => ?_)
      obtain ⟨a_48, rfl, ha_49⟩ := hv_46
      refine ty_getN (E := []) (ws := ws) (D := D) (ci := 0) (C := RX0) (T := TX0) (N := 16) hx hb hts in_X0 hown hK hP hT ha_49 rfl 8 (by decide) (hts _ kl_RX1_85) (fun _ h9 => h9) rfl dX1_number_148 (fun _ hv_50 hf_51 => ?_)
      obtain ⟨x_52, rfl⟩ := hv_50
      exact W.iret (v := x_52) hx hb hr (fun t ht hW => ⟨⟨x_52, ws, rfl, hT, by rw [ht]; exact hP, by rw [hAe]; exact hD⟩, hS.F ht⟩) hS.2.2 dX1_number_151
    by_cases hk_53 : p1 = 8
    · refine cm_cst hk_53 (lv_tableIn (off := 121) (tgt := 152) hx hb dX1_number_31 (by decide) (by decide) (by decide) (by decide) ?_)
      refine lv_aload_n hx hb dX1_number_152 rfl (lv_at hl 1 rfl) ?_
      refine ty_get (E := []) (ws := ws) (D := D) (ci := 1) (C := RX1) (T := TX1) (N := 14) hx hb hts in_X1 hown hK hP hT h_h0 rfl 1 (by decide) (hts _ kl_RX1_18) (fun _ h9 => h9) rfl dX1_number_153 (fun _ hv_54 hf_55 => ?_)
      obtain ⟨a_56, rfl, ha_57⟩ := hv_54
      refine ty_getN (E := []) (ws := ws) (D := D) (ci := 0) (C := RX0) (T := TX0) (N := 16) hx hb hts in_X0 hown hK hP hT ha_57 rfl 10 (by decide) (hts _ kl_RX1_88) (fun _ h9 => h9) rfl dX1_number_156 (fun _ hv_58 hf_59 => ?_)
      obtain ⟨x_60, rfl⟩ := hv_58
      exact W.iret (v := x_60) hx hb hr (fun t ht hW => ⟨⟨x_60, ws, rfl, hT, by rw [ht]; exact hP, by rw [hAe]; exact hD⟩, hS.F ht⟩) hS.2.2 dX1_number_159
    by_cases hk_61 : p1 = 9
    · refine cm_cst hk_61 (lv_tableIn (off := 129) (tgt := 160) hx hb dX1_number_31 (by decide) (by decide) (by decide) (by decide) ?_)
      refine lv_aload_n hx hb dX1_number_160 rfl (lv_at hl 1 rfl) ?_
      refine ty_get (E := []) (ws := ws) (D := D) (ci := 1) (C := RX1) (T := TX1) (N := 14) hx hb hts in_X1 hown hK hP hT h_h0 rfl 1 (by decide) (hts _ kl_RX1_18) (fun _ h9 => h9) rfl dX1_number_161 (fun _ hv_62 hf_63 => ?_)
      obtain ⟨a_64, rfl, ha_65⟩ := hv_62
      refine ty_getN (E := []) (ws := ws) (D := D) (ci := 0) (C := RX0) (T := TX0) (N := 16) hx hb hts in_X0 hown hK hP hT ha_65 rfl 11 (by decide) (hts _ kl_RX1_91) (fun _ h9 => h9) rfl dX1_number_164 (fun _ hv_66 hf_67 => ?_)
      obtain ⟨x_68, rfl⟩ := hv_66
      exact W.iret (v := x_68) hx hb hr (fun t ht hW => ⟨⟨x_68, ws, rfl, hT, by rw [ht]; exact hP, by rw [hAe]; exact hD⟩, hS.F ht⟩) hS.2.2 dX1_number_167
    refine lv_tableOut (tgt := 168) hx hb dX1_number_31 (ty_sw0_9 hk_5 hk_9 hk_13 hk_17 hk_21 hk_29 hk_37 hk_45 hk_53 hk_61) (by decide) ?_
    refine lv_aload_n hx hb dX1_number_168 rfl (lv_at hl 1 rfl) ?_
    refine ty_get (E := []) (ws := ws) (D := D) (ci := 1) (C := RX1) (T := TX1) (N := 14) hx hb hts in_X1 hown hK hP hT h_h0 rfl 2 (by decide) (hts _ kl_RX1_25) (fun _ h9 => h9) rfl dX1_number_169 (fun _ hv_69 hf_70 => ?_)
    obtain ⟨a_71, rfl, ha_72⟩ := hv_69
    refine ty_getN (E := []) (ws := ws) (D := D) (ci := 4) (C := RX4) (T := TX4) (N := 7) hx hb hts in_X4 hown hK hP hT ha_72 rfl 3 (by decide) (hts _ kl_RX1_94) (fun _ h9 => h9) rfl dX1_number_172 (fun _ hv_73 hf_74 => ?_)
    obtain ⟨x_75, rfl⟩ := hv_73
    exact W.iret (v := x_75) hx hb hr (fun t ht hW => ⟨⟨x_75, ws, rfl, hT, by rw [ht]; exact hP, by rw [hAe]; exact hD⟩, hS.F ht⟩) hS.2.2 dX1_number_175
  · refine lv_aload_n hx hb dX1_number_8 rfl (lv_at hl 0 rfl) ?_
    refine ty_get (E := []) (ws := ws) (D := D) (ci := 1) (C := RX1) (T := TX1) (N := 14) hx hb hts in_X1 hown hK hP hT h_h0 rfl 3 (by decide) (hts _ kl_RX1_43) (fun _ h9 => h9) rfl dX1_number_9 (fun _ hv_76 hf_77 => ?_)
    obtain ⟨x_78, rfl⟩ := hv_76
    refine lv_iconst (v := 2) hx hb dX1_number_12 (by decide) ?_
    refine lv_icmp_eq (tgt := 24) hx hb dX1_number_13 (by decide) (fun hc_79 => ?_) (fun hc_79 => ?_)
    · refine lv_iconst (v := 1) hx hb dX1_number_24 (by decide) ?_
      refine lv_goto (tgt := 29) hx hb dX1_number_25 (by decide) ?_
      refine lv_istore_n (lv' := [(2, .int 1), (0, .ref h0), (1, .int p1)]) hx hb dX1_number_29 rfl hl (by decide) rfl (fun ls hl => ?_)
      refine lv_iload_n hx hb dX1_number_30 rfl (lv_at hl 2 rfl) ?_
      by_cases hk_80 : p1 = 0
      · refine cm_cst hk_80 (lv_tableIn (off := 53) (tgt := 84) hx hb dX1_number_31 (by decide) (by decide) (by decide) (by decide) ?_)
        refine lv_aload_n hx hb dX1_number_84 rfl (lv_at hl 1 rfl) ?_
        refine ty_get (E := []) (ws := ws) (D := D) (ci := 1) (C := RX1) (T := TX1) (N := 14) hx hb hts in_X1 hown hK hP hT h_h0 rfl 3 (by decide) (hts _ kl_RX1_43) (fun _ h9 => h9) rfl dX1_number_85 (fun _ hv_81 hf_82 => ?_)
        obtain ⟨x_83, rfl⟩ := hv_81
        exact W.iret (v := x_83) hx hb hr (fun t ht hW => ⟨⟨x_83, ws, rfl, hT, by rw [ht]; exact hP, by rw [hAe]; exact hD⟩, hS.F ht⟩) hS.2.2 dX1_number_88
      by_cases hk_84 : p1 = 1
      · refine cm_cst hk_84 (lv_tableIn (off := 58) (tgt := 89) hx hb dX1_number_31 (by decide) (by decide) (by decide) (by decide) ?_)
        refine lv_aload_n hx hb dX1_number_89 rfl (lv_at hl 1 rfl) ?_
        refine ty_get (E := []) (ws := ws) (D := D) (ci := 1) (C := RX1) (T := TX1) (N := 14) hx hb hts in_X1 hown hK hP hT h_h0 rfl 4 (by decide) (hts _ kl_RX1_46) (fun _ h9 => h9) rfl dX1_number_90 (fun _ hv_85 hf_86 => ?_)
        obtain ⟨x_87, rfl⟩ := hv_85
        exact W.iret (v := x_87) hx hb hr (fun t ht hW => ⟨⟨x_87, ws, rfl, hT, by rw [ht]; exact hP, by rw [hAe]; exact hD⟩, hS.F ht⟩) hS.2.2 dX1_number_93
      by_cases hk_88 : p1 = 2
      · refine cm_cst hk_88 (lv_tableIn (off := 63) (tgt := 94) hx hb dX1_number_31 (by decide) (by decide) (by decide) (by decide) ?_)
        refine lv_iload_n hx hb dX1_number_94 rfl (lv_at hl 0 rfl) ?_
        refine lv_if_eq (tgt := 105) hx hb dX1_number_95 (by decide) (fun hc => absurd hc (by decide)) (fun _ => ?_)
        refine lv_aload_n hx hb dX1_number_98 rfl (lv_at hl 1 rfl) ?_
        refine ty_get (E := []) (ws := ws) (D := D) (ci := 1) (C := RX1) (T := TX1) (N := 14) hx hb hts in_X1 hown hK hP hT h_h0 rfl 5 (by decide) (hts _ kl_RX1_49) (fun _ h9 => h9) rfl dX1_number_99 (fun _ hv_89 hf_90 => ?_)
        obtain ⟨x_91, rfl⟩ := hv_89
        refine lv_goto (tgt := 106) hx hb dX1_number_102 (by decide) ?_
        exact W.iret (v := x_91) hx hb hr (fun t ht hW => ⟨⟨x_91, ws, rfl, hT, by rw [ht]; exact hP, by rw [hAe]; exact hD⟩, hS.F ht⟩) hS.2.2 dX1_number_106
      by_cases hk_92 : p1 = 3
      · refine cm_cst hk_92 (lv_tableIn (off := 76) (tgt := 107) hx hb dX1_number_31 (by decide) (by decide) (by decide) (by decide) ?_)
        refine lv_iload_n hx hb dX1_number_107 rfl (lv_at hl 0 rfl) ?_
        refine lv_if_eq (tgt := 118) hx hb dX1_number_108 (by decide) (fun hc => absurd hc (by decide)) (fun _ => ?_)
        refine lv_aload_n hx hb dX1_number_111 rfl (lv_at hl 1 rfl) ?_
        refine ty_get (E := []) (ws := ws) (D := D) (ci := 1) (C := RX1) (T := TX1) (N := 14) hx hb hts in_X1 hown hK hP hT h_h0 rfl 6 (by decide) (hts _ kl_RX1_52) (fun _ h9 => h9) rfl dX1_number_112 (fun _ hv_93 hf_94 => ?_)
        obtain ⟨x_95, rfl⟩ := hv_93
        refine lv_goto (tgt := 119) hx hb dX1_number_115 (by decide) ?_
        exact W.iret (v := x_95) hx hb hr (fun t ht hW => ⟨⟨x_95, ws, rfl, hT, by rw [ht]; exact hP, by rw [hAe]; exact hD⟩, hS.F ht⟩) hS.2.2 dX1_number_119
      by_cases hk_96 : p1 = 4
      · refine cm_cst hk_96 (lv_tableIn (off := 89) (tgt := 120) hx hb dX1_number_31 (by decide) (by decide) (by decide) (by decide) ?_)
        refine lv_aload_n hx hb dX1_number_120 rfl (lv_at hl 1 rfl) ?_
        refine ty_get (E := []) (ws := ws) (D := D) (ci := 1) (C := RX1) (T := TX1) (N := 14) hx hb hts in_X1 hown hK hP hT h_h0 rfl 1 (by decide) (hts _ kl_RX1_18) (fun _ h9 => h9) rfl dX1_number_121 (fun _ hv_97 hf_98 => ?_)
        obtain ⟨a_99, rfl, ha_100⟩ := hv_97
        refine ty_getN (E := []) (ws := ws) (D := D) (ci := 0) (C := RX0) (T := TX0) (N := 16) hx hb hts in_X0 hown hK hP hT ha_100 rfl 13 (by decide) (hts _ kl_RX1_76) (fun _ h9 => h9) rfl dX1_number_124 (fun _ hv_101 hf_102 => ?_)
        obtain ⟨x_103, rfl⟩ := hv_101
        exact W.iret (v := x_103) hx hb hr (fun t ht hW => ⟨⟨x_103, ws, rfl, hT, by rw [ht]; exact hP, by rw [hAe]; exact hD⟩, hS.F ht⟩) hS.2.2 dX1_number_127
      by_cases hk_104 : p1 = 5
      · refine cm_cst hk_104 (lv_tableIn (off := 97) (tgt := 128) hx hb dX1_number_31 (by decide) (by decide) (by decide) (by decide) ?_)
        refine lv_aload_n hx hb dX1_number_128 rfl (lv_at hl 1 rfl) ?_
        refine ty_get (E := []) (ws := ws) (D := D) (ci := 1) (C := RX1) (T := TX1) (N := 14) hx hb hts in_X1 hown hK hP hT h_h0 rfl 1 (by decide) (hts _ kl_RX1_18) (fun _ h9 => h9) rfl dX1_number_129 (fun _ hv_105 hf_106 => ?_)
        obtain ⟨a_107, rfl, ha_108⟩ := hv_105
        refine ty_getN (E := []) (ws := ws) (D := D) (ci := 0) (C := RX0) (T := TX0) (N := 16) hx hb hts in_X0 hown hK hP hT ha_108 rfl 14 (by decide) (hts _ kl_RX1_79) (fun _ h9 => h9) rfl dX1_number_132 (fun _ hv_109 hf_110 => ?_)
        obtain ⟨x_111, rfl⟩ := hv_109
        exact W.iret (v := x_111) hx hb hr (fun t ht hW => ⟨⟨x_111, ws, rfl, hT, by rw [ht]; exact hP, by rw [hAe]; exact hD⟩, hS.F ht⟩) hS.2.2 dX1_number_135
      by_cases hk_112 : p1 = 6
      · refine cm_cst hk_112 (lv_tableIn (off := 105) (tgt := 136) hx hb dX1_number_31 (by decide) (by decide) (by decide) (by decide) ?_)
        refine lv_aload_n hx hb dX1_number_136 rfl (lv_at hl 1 rfl) ?_
        refine ty_get (E := []) (ws := ws) (D := D) (ci := 1) (C := RX1) (T := TX1) (N := 14) hx hb hts in_X1 hown hK hP hT h_h0 rfl 1 (by decide) (hts _ kl_RX1_18) (fun _ h9 => h9) rfl dX1_number_137 (fun _ hv_113 hf_114 => ?_)
        obtain ⟨a_115, rfl, ha_116⟩ := hv_113
        refine ty_getN (E := []) (ws := ws) (D := D) (ci := 0) (C := RX0) (T := TX0) (N := 16) hx hb hts in_X0 hown hK hP hT ha_116 rfl 6 (by decide) (hts _ kl_RX1_82) (fun _ h9 => h9) rfl dX1_number_140 (fun _ hv_117 hf_118 => ?_)
        obtain ⟨x_119, rfl⟩ := hv_117
        exact W.iret (v := x_119) hx hb hr (fun t ht hW => ⟨⟨x_119, ws, rfl, hT, by rw [ht]; exact hP, by rw [hAe]; exact hD⟩, hS.F ht⟩) hS.2.2 dX1_number_143
      by_cases hk_120 : p1 = 7
      · refine cm_cst hk_120 (lv_tableIn (off := 113) (tgt := 144) hx hb dX1_number_31 (by decide) (by decide) (by decide) (by decide) ?_)
        refine lv_aload_n hx hb dX1_number_144 rfl (lv_at hl 1 rfl) ?_
        refine ty_get (E := []) (ws := ws) (D := D) (ci := 1) (C := RX1) (T := TX1) (N := 14) hx hb hts in_X1 hown hK hP hT h_h0 rfl 1 (by decide) (hts _ kl_RX1_18) (fun _ h9 => h9) rfl dX1_number_145 (fun _ hv_121 hf_122 => ?_)
        obtain ⟨a_123, rfl, ha_124⟩ := hv_121
        refine ty_getN (E := []) (ws := ws) (D := D) (ci := 0) (C := RX0) (T := TX0) (N := 16) hx hb hts in_X0 hown hK hP hT ha_124 rfl 8 (by decide) (hts _ kl_RX1_85) (fun _ h9 => h9) rfl dX1_number_148 (fun _ hv_125 hf_126 => ?_)
        obtain ⟨x_127, rfl⟩ := hv_125
        exact W.iret (v := x_127) hx hb hr (fun t ht hW => ⟨⟨x_127, ws, rfl, hT, by rw [ht]; exact hP, by rw [hAe]; exact hD⟩, hS.F ht⟩) hS.2.2 dX1_number_151
      by_cases hk_128 : p1 = 8
      · refine cm_cst hk_128 (lv_tableIn (off := 121) (tgt := 152) hx hb dX1_number_31 (by decide) (by decide) (by decide) (by decide) ?_)
        refine lv_aload_n hx hb dX1_number_152 rfl (lv_at hl 1 rfl) ?_
        refine ty_get (E := []) (ws := ws) (D := D) (ci := 1) (C := RX1) (T := TX1) (N := 14) hx hb hts in_X1 hown hK hP hT h_h0 rfl 1 (by decide) (hts _ kl_RX1_18) (fun _ h9 => h9) rfl dX1_number_153 (fun _ hv_129 hf_130 => ?_)
        obtain ⟨a_131, rfl, ha_132⟩ := hv_129
        refine ty_getN (E := []) (ws := ws) (D := D) (ci := 0) (C := RX0) (T := TX0) (N := 16) hx hb hts in_X0 hown hK hP hT ha_132 rfl 10 (by decide) (hts _ kl_RX1_88) (fun _ h9 => h9) rfl dX1_number_156 (fun _ hv_133 hf_134 => ?_)
        obtain ⟨x_135, rfl⟩ := hv_133
        exact W.iret (v := x_135) hx hb hr (fun t ht hW => ⟨⟨x_135, ws, rfl, hT, by rw [ht]; exact hP, by rw [hAe]; exact hD⟩, hS.F ht⟩) hS.2.2 dX1_number_159
      by_cases hk_136 : p1 = 9
      · refine cm_cst hk_136 (lv_tableIn (off := 129) (tgt := 160) hx hb dX1_number_31 (by decide) (by decide) (by decide) (by decide) ?_)
        refine lv_aload_n hx hb dX1_number_160 rfl (lv_at hl 1 rfl) ?_
        refine ty_get (E := []) (ws := ws) (D := D) (ci := 1) (C := RX1) (T := TX1) (N := 14) hx hb hts in_X1 hown hK hP hT h_h0 rfl 1 (by decide) (hts _ kl_RX1_18) (fun _ h9 => h9) rfl dX1_number_161 (fun _ hv_137 hf_138 => ?_)
        obtain ⟨a_139, rfl, ha_140⟩ := hv_137
        refine ty_getN (E := []) (ws := ws) (D := D) (ci := 0) (C := RX0) (T := TX0) (N := 16) hx hb hts in_X0 hown hK hP hT ha_140 rfl 11 (by decide) (hts _ kl_RX1_91) (fun _ h9 => h9) rfl dX1_number_164 (fun _ hv_141 hf_142 => ?_)
        obtain ⟨x_143, rfl⟩ := hv_141
        exact W.iret (v := x_143) hx hb hr (fun t ht hW => ⟨⟨x_143, ws, rfl, hT, by rw [ht]; exact hP, by rw [hAe]; exact hD⟩, hS.F ht⟩) hS.2.2 dX1_number_167
      refine lv_tableOut (tgt := 168) hx hb dX1_number_31 (ty_sw0_9 hk_80 hk_84 hk_88 hk_92 hk_96 hk_104 hk_112 hk_120 hk_128 hk_136) (by decide) ?_
      refine lv_aload_n hx hb dX1_number_168 rfl (lv_at hl 1 rfl) ?_
      refine ty_get (E := []) (ws := ws) (D := D) (ci := 1) (C := RX1) (T := TX1) (N := 14) hx hb hts in_X1 hown hK hP hT h_h0 rfl 2 (by decide) (hts _ kl_RX1_25) (fun _ h9 => h9) rfl dX1_number_169 (fun _ hv_144 hf_145 => ?_)
      obtain ⟨a_146, rfl, ha_147⟩ := hv_144
      refine ty_getN (E := []) (ws := ws) (D := D) (ci := 4) (C := RX4) (T := TX4) (N := 7) hx hb hts in_X4 hown hK hP hT ha_147 rfl 3 (by decide) (hts _ kl_RX1_94) (fun _ h9 => h9) rfl dX1_number_172 (fun _ hv_148 hf_149 => ?_)
      obtain ⟨x_150, rfl⟩ := hv_148
      exact W.iret (v := x_150) hx hb hr (fun t ht hW => ⟨⟨x_150, ws, rfl, hT, by rw [ht]; exact hP, by rw [hAe]; exact hD⟩, hS.F ht⟩) hS.2.2 dX1_number_175
    · refine lv_aload_n hx hb dX1_number_16 rfl (lv_at hl 0 rfl) ?_
      refine ty_get (E := []) (ws := ws) (D := D) (ci := 1) (C := RX1) (T := TX1) (N := 14) hx hb hts in_X1 hown hK hP hT h_h0 rfl 3 (by decide) (hts _ kl_RX1_43) (fun _ h9 => h9) rfl dX1_number_17 (fun _ hv_151 hf_152 => ?_)
      obtain ⟨x_153, rfl⟩ := hv_151
      refine lv_iconst (v := 4) hx hb dX1_number_20 (by decide) ?_
      refine lv_icmp_ne (tgt := 28) hx hb dX1_number_21 (by decide) (fun hc_154 => ?_) (fun hc_154 => ?_)
      · refine lv_iconst (v := 0) hx hb dX1_number_28 (by decide) ?_
        refine lv_istore_n (lv' := [(2, .int 0), (0, .ref h0), (1, .int p1)]) hx hb dX1_number_29 rfl hl (by decide) rfl (fun ls hl => ?_)
        refine lv_iload_n hx hb dX1_number_30 rfl (lv_at hl 2 rfl) ?_
        by_cases hk_155 : p1 = 0
        · refine cm_cst hk_155 (lv_tableIn (off := 53) (tgt := 84) hx hb dX1_number_31 (by decide) (by decide) (by decide) (by decide) ?_)
          refine lv_aload_n hx hb dX1_number_84 rfl (lv_at hl 1 rfl) ?_
          refine ty_get (E := []) (ws := ws) (D := D) (ci := 1) (C := RX1) (T := TX1) (N := 14) hx hb hts in_X1 hown hK hP hT h_h0 rfl 3 (by decide) (hts _ kl_RX1_43) (fun _ h9 => h9) rfl dX1_number_85 (fun _ hv_156 hf_157 => ?_)
          obtain ⟨x_158, rfl⟩ := hv_156
          exact W.iret (v := x_158) hx hb hr (fun t ht hW => ⟨⟨x_158, ws, rfl, hT, by rw [ht]; exact hP, by rw [hAe]; exact hD⟩, hS.F ht⟩) hS.2.2 dX1_number_88
        by_cases hk_159 : p1 = 1
        · refine cm_cst hk_159 (lv_tableIn (off := 58) (tgt := 89) hx hb dX1_number_31 (by decide) (by decide) (by decide) (by decide) ?_)
          refine lv_aload_n hx hb dX1_number_89 rfl (lv_at hl 1 rfl) ?_
          refine ty_get (E := []) (ws := ws) (D := D) (ci := 1) (C := RX1) (T := TX1) (N := 14) hx hb hts in_X1 hown hK hP hT h_h0 rfl 4 (by decide) (hts _ kl_RX1_46) (fun _ h9 => h9) rfl dX1_number_90 (fun _ hv_160 hf_161 => ?_)
          obtain ⟨x_162, rfl⟩ := hv_160
          exact W.iret (v := x_162) hx hb hr (fun t ht hW => ⟨⟨x_162, ws, rfl, hT, by rw [ht]; exact hP, by rw [hAe]; exact hD⟩, hS.F ht⟩) hS.2.2 dX1_number_93
        by_cases hk_163 : p1 = 2
        · refine cm_cst hk_163 (lv_tableIn (off := 63) (tgt := 94) hx hb dX1_number_31 (by decide) (by decide) (by decide) (by decide) ?_)
          refine lv_iload_n hx hb dX1_number_94 rfl (lv_at hl 0 rfl) ?_
          refine lv_if_eq (tgt := 105) hx hb dX1_number_95 (by decide) (fun _ => ?_) (fun hc => absurd (by decide) hc)
          refine lv_iconst (v := (-1)) hx hb dX1_number_105 (by decide) ?_
          exact W.iret (v := (-1)) hx hb hr (fun t ht hW => ⟨⟨(-1), ws, rfl, hT, by rw [ht]; exact hP, by rw [hAe]; exact hD⟩, hS.F ht⟩) hS.2.2 dX1_number_106
        by_cases hk_164 : p1 = 3
        · refine cm_cst hk_164 (lv_tableIn (off := 76) (tgt := 107) hx hb dX1_number_31 (by decide) (by decide) (by decide) (by decide) ?_)
          refine lv_iload_n hx hb dX1_number_107 rfl (lv_at hl 0 rfl) ?_
          refine lv_if_eq (tgt := 118) hx hb dX1_number_108 (by decide) (fun _ => ?_) (fun hc => absurd (by decide) hc)
          refine lv_iconst (v := 0) hx hb dX1_number_118 (by decide) ?_
          exact W.iret (v := 0) hx hb hr (fun t ht hW => ⟨⟨0, ws, rfl, hT, by rw [ht]; exact hP, by rw [hAe]; exact hD⟩, hS.F ht⟩) hS.2.2 dX1_number_119
        by_cases hk_165 : p1 = 4
        · refine cm_cst hk_165 (lv_tableIn (off := 89) (tgt := 120) hx hb dX1_number_31 (by decide) (by decide) (by decide) (by decide) ?_)
          refine lv_aload_n hx hb dX1_number_120 rfl (lv_at hl 1 rfl) ?_
          refine ty_get (E := []) (ws := ws) (D := D) (ci := 1) (C := RX1) (T := TX1) (N := 14) hx hb hts in_X1 hown hK hP hT h_h0 rfl 1 (by decide) (hts _ kl_RX1_18) (fun _ h9 => h9) rfl dX1_number_121 (fun _ hv_166 hf_167 => ?_)
          obtain ⟨a_168, rfl, ha_169⟩ := hv_166
          refine ty_getN (E := []) (ws := ws) (D := D) (ci := 0) (C := RX0) (T := TX0) (N := 16) hx hb hts in_X0 hown hK hP hT ha_169 rfl 13 (by decide) (hts _ kl_RX1_76) (fun _ h9 => h9) rfl dX1_number_124 (fun _ hv_170 hf_171 => ?_)
          obtain ⟨x_172, rfl⟩ := hv_170
          exact W.iret (v := x_172) hx hb hr (fun t ht hW => ⟨⟨x_172, ws, rfl, hT, by rw [ht]; exact hP, by rw [hAe]; exact hD⟩, hS.F ht⟩) hS.2.2 dX1_number_127
        by_cases hk_173 : p1 = 5
        · refine cm_cst hk_173 (lv_tableIn (off := 97) (tgt := 128) hx hb dX1_number_31 (by decide) (by decide) (by decide) (by decide) ?_)
          refine lv_aload_n hx hb dX1_number_128 rfl (lv_at hl 1 rfl) ?_
          refine ty_get (E := []) (ws := ws) (D := D) (ci := 1) (C := RX1) (T := TX1) (N := 14) hx hb hts in_X1 hown hK hP hT h_h0 rfl 1 (by decide) (hts _ kl_RX1_18) (fun _ h9 => h9) rfl dX1_number_129 (fun _ hv_174 hf_175 => ?_)
          obtain ⟨a_176, rfl, ha_177⟩ := hv_174
          refine ty_getN (E := []) (ws := ws) (D := D) (ci := 0) (C := RX0) (T := TX0) (N := 16) hx hb hts in_X0 hown hK hP hT ha_177 rfl 14 (by decide) (hts _ kl_RX1_79) (fun _ h9 => h9) rfl dX1_number_132 (fun _ hv_178 hf_179 => ?_)
          obtain ⟨x_180, rfl⟩ := hv_178
          exact W.iret (v := x_180) hx hb hr (fun t ht hW => ⟨⟨x_180, ws, rfl, hT, by rw [ht]; exact hP, by rw [hAe]; exact hD⟩, hS.F ht⟩) hS.2.2 dX1_number_135
        by_cases hk_181 : p1 = 6
        · refine cm_cst hk_181 (lv_tableIn (off := 105) (tgt := 136) hx hb dX1_number_31 (by decide) (by decide) (by decide) (by decide) ?_)
          refine lv_aload_n hx hb dX1_number_136 rfl (lv_at hl 1 rfl) ?_
          refine ty_get (E := []) (ws := ws) (D := D) (ci := 1) (C := RX1) (T := TX1) (N := 14) hx hb hts in_X1 hown hK hP hT h_h0 rfl 1 (by decide) (hts _ kl_RX1_18) (fun _ h9 => h9) rfl dX1_number_137 (fun _ hv_182 hf_183 => ?_)
          obtain ⟨a_184, rfl, ha_185⟩ := hv_182
          refine ty_getN (E := []) (ws := ws) (D := D) (ci := 0) (C := RX0) (T := TX0) (N := 16) hx hb hts in_X0 hown hK hP hT ha_185 rfl 6 (by decide) (hts _ kl_RX1_82) (fun _ h9 => h9) rfl dX1_number_140 (fun _ hv_186 hf_187 => ?_)
          obtain ⟨x_188, rfl⟩ := hv_186
          exact W.iret (v := x_188) hx hb hr (fun t ht hW => ⟨⟨x_188, ws, rfl, hT, by rw [ht]; exact hP, by rw [hAe]; exact hD⟩, hS.F ht⟩) hS.2.2 dX1_number_143
        by_cases hk_189 : p1 = 7
        · refine cm_cst hk_189 (lv_tableIn (off := 113) (tgt := 144) hx hb dX1_number_31 (by decide) (by decide) (by decide) (by decide) ?_)
          refine lv_aload_n hx hb dX1_number_144 rfl (lv_at hl 1 rfl) ?_
          refine ty_get (E := []) (ws := ws) (D := D) (ci := 1) (C := RX1) (T := TX1) (N := 14) hx hb hts in_X1 hown hK hP hT h_h0 rfl 1 (by decide) (hts _ kl_RX1_18) (fun _ h9 => h9) rfl dX1_number_145 (fun _ hv_190 hf_191 => ?_)
          obtain ⟨a_192, rfl, ha_193⟩ := hv_190
          refine ty_getN (E := []) (ws := ws) (D := D) (ci := 0) (C := RX0) (T := TX0) (N := 16) hx hb hts in_X0 hown hK hP hT ha_193 rfl 8 (by decide) (hts _ kl_RX1_85) (fun _ h9 => h9) rfl dX1_number_148 (fun _ hv_194 hf_195 => ?_)
          obtain ⟨x_196, rfl⟩ := hv_194
          exact W.iret (v := x_196) hx hb hr (fun t ht hW => ⟨⟨x_196, ws, rfl, hT, by rw [ht]; exact hP, by rw [hAe]; exact hD⟩, hS.F ht⟩) hS.2.2 dX1_number_151
        by_cases hk_197 : p1 = 8
        · refine cm_cst hk_197 (lv_tableIn (off := 121) (tgt := 152) hx hb dX1_number_31 (by decide) (by decide) (by decide) (by decide) ?_)
          refine lv_aload_n hx hb dX1_number_152 rfl (lv_at hl 1 rfl) ?_
          refine ty_get (E := []) (ws := ws) (D := D) (ci := 1) (C := RX1) (T := TX1) (N := 14) hx hb hts in_X1 hown hK hP hT h_h0 rfl 1 (by decide) (hts _ kl_RX1_18) (fun _ h9 => h9) rfl dX1_number_153 (fun _ hv_198 hf_199 => ?_)
          obtain ⟨a_200, rfl, ha_201⟩ := hv_198
          refine ty_getN (E := []) (ws := ws) (D := D) (ci := 0) (C := RX0) (T := TX0) (N := 16) hx hb hts in_X0 hown hK hP hT ha_201 rfl 10 (by decide) (hts _ kl_RX1_88) (fun _ h9 => h9) rfl dX1_number_156 (fun _ hv_202 hf_203 => ?_)
          obtain ⟨x_204, rfl⟩ := hv_202
          exact W.iret (v := x_204) hx hb hr (fun t ht hW => ⟨⟨x_204, ws, rfl, hT, by rw [ht]; exact hP, by rw [hAe]; exact hD⟩, hS.F ht⟩) hS.2.2 dX1_number_159
        by_cases hk_205 : p1 = 9
        · refine cm_cst hk_205 (lv_tableIn (off := 129) (tgt := 160) hx hb dX1_number_31 (by decide) (by decide) (by decide) (by decide) ?_)
          refine lv_aload_n hx hb dX1_number_160 rfl (lv_at hl 1 rfl) ?_
          refine ty_get (E := []) (ws := ws) (D := D) (ci := 1) (C := RX1) (T := TX1) (N := 14) hx hb hts in_X1 hown hK hP hT h_h0 rfl 1 (by decide) (hts _ kl_RX1_18) (fun _ h9 => h9) rfl dX1_number_161 (fun _ hv_206 hf_207 => ?_)
          obtain ⟨a_208, rfl, ha_209⟩ := hv_206
          refine ty_getN (E := []) (ws := ws) (D := D) (ci := 0) (C := RX0) (T := TX0) (N := 16) hx hb hts in_X0 hown hK hP hT ha_209 rfl 11 (by decide) (hts _ kl_RX1_91) (fun _ h9 => h9) rfl dX1_number_164 (fun _ hv_210 hf_211 => ?_)
          obtain ⟨x_212, rfl⟩ := hv_210
          exact W.iret (v := x_212) hx hb hr (fun t ht hW => ⟨⟨x_212, ws, rfl, hT, by rw [ht]; exact hP, by rw [hAe]; exact hD⟩, hS.F ht⟩) hS.2.2 dX1_number_167
        refine lv_tableOut (tgt := 168) hx hb dX1_number_31 (ty_sw0_9 hk_155 hk_159 hk_163 hk_164 hk_165 hk_173 hk_181 hk_189 hk_197 hk_205) (by decide) ?_
        refine lv_aload_n hx hb dX1_number_168 rfl (lv_at hl 1 rfl) ?_
        refine ty_get (E := []) (ws := ws) (D := D) (ci := 1) (C := RX1) (T := TX1) (N := 14) hx hb hts in_X1 hown hK hP hT h_h0 rfl 2 (by decide) (hts _ kl_RX1_25) (fun _ h9 => h9) rfl dX1_number_169 (fun _ hv_213 hf_214 => ?_)
        obtain ⟨a_215, rfl, ha_216⟩ := hv_213
        refine ty_getN (E := []) (ws := ws) (D := D) (ci := 4) (C := RX4) (T := TX4) (N := 7) hx hb hts in_X4 hown hK hP hT ha_216 rfl 3 (by decide) (hts _ kl_RX1_94) (fun _ h9 => h9) rfl dX1_number_172 (fun _ hv_217 hf_218 => ?_)
        obtain ⟨x_219, rfl⟩ := hv_217
        exact W.iret (v := x_219) hx hb hr (fun t ht hW => ⟨⟨x_219, ws, rfl, hT, by rw [ht]; exact hP, by rw [hAe]; exact hD⟩, hS.F ht⟩) hS.2.2 dX1_number_175
      · refine lv_iconst (v := 1) hx hb dX1_number_24 (by decide) ?_
        refine lv_goto (tgt := 29) hx hb dX1_number_25 (by decide) ?_
        refine lv_istore_n (lv' := [(2, .int 1), (0, .ref h0), (1, .int p1)]) hx hb dX1_number_29 rfl hl (by decide) rfl (fun ls hl => ?_)
        refine lv_iload_n hx hb dX1_number_30 rfl (lv_at hl 2 rfl) ?_
        by_cases hk_220 : p1 = 0
        · refine cm_cst hk_220 (lv_tableIn (off := 53) (tgt := 84) hx hb dX1_number_31 (by decide) (by decide) (by decide) (by decide) ?_)
          refine lv_aload_n hx hb dX1_number_84 rfl (lv_at hl 1 rfl) ?_
          refine ty_get (E := []) (ws := ws) (D := D) (ci := 1) (C := RX1) (T := TX1) (N := 14) hx hb hts in_X1 hown hK hP hT h_h0 rfl 3 (by decide) (hts _ kl_RX1_43) (fun _ h9 => h9) rfl dX1_number_85 (fun _ hv_221 hf_222 => ?_)
          obtain ⟨x_223, rfl⟩ := hv_221
          exact W.iret (v := x_223) hx hb hr (fun t ht hW => ⟨⟨x_223, ws, rfl, hT, by rw [ht]; exact hP, by rw [hAe]; exact hD⟩, hS.F ht⟩) hS.2.2 dX1_number_88
        by_cases hk_224 : p1 = 1
        · refine cm_cst hk_224 (lv_tableIn (off := 58) (tgt := 89) hx hb dX1_number_31 (by decide) (by decide) (by decide) (by decide) ?_)
          refine lv_aload_n hx hb dX1_number_89 rfl (lv_at hl 1 rfl) ?_
          refine ty_get (E := []) (ws := ws) (D := D) (ci := 1) (C := RX1) (T := TX1) (N := 14) hx hb hts in_X1 hown hK hP hT h_h0 rfl 4 (by decide) (hts _ kl_RX1_46) (fun _ h9 => h9) rfl dX1_number_90 (fun _ hv_225 hf_226 => ?_)
          obtain ⟨x_227, rfl⟩ := hv_225
          exact W.iret (v := x_227) hx hb hr (fun t ht hW => ⟨⟨x_227, ws, rfl, hT, by rw [ht]; exact hP, by rw [hAe]; exact hD⟩, hS.F ht⟩) hS.2.2 dX1_number_93
        by_cases hk_228 : p1 = 2
        · refine cm_cst hk_228 (lv_tableIn (off := 63) (tgt := 94) hx hb dX1_number_31 (by decide) (by decide) (by decide) (by decide) ?_)
          refine lv_iload_n hx hb dX1_number_94 rfl (lv_at hl 0 rfl) ?_
          refine lv_if_eq (tgt := 105) hx hb dX1_number_95 (by decide) (fun hc => absurd hc (by decide)) (fun _ => ?_)
          refine lv_aload_n hx hb dX1_number_98 rfl (lv_at hl 1 rfl) ?_
          refine ty_get (E := []) (ws := ws) (D := D) (ci := 1) (C := RX1) (T := TX1) (N := 14) hx hb hts in_X1 hown hK hP hT h_h0 rfl 5 (by decide) (hts _ kl_RX1_49) (fun _ h9 => h9) rfl dX1_number_99 (fun _ hv_229 hf_230 => ?_)
          obtain ⟨x_231, rfl⟩ := hv_229
          refine lv_goto (tgt := 106) hx hb dX1_number_102 (by decide) ?_
          exact W.iret (v := x_231) hx hb hr (fun t ht hW => ⟨⟨x_231, ws, rfl, hT, by rw [ht]; exact hP, by rw [hAe]; exact hD⟩, hS.F ht⟩) hS.2.2 dX1_number_106
        by_cases hk_232 : p1 = 3
        · refine cm_cst hk_232 (lv_tableIn (off := 76) (tgt := 107) hx hb dX1_number_31 (by decide) (by decide) (by decide) (by decide) ?_)
          refine lv_iload_n hx hb dX1_number_107 rfl (lv_at hl 0 rfl) ?_
          refine lv_if_eq (tgt := 118) hx hb dX1_number_108 (by decide) (fun hc => absurd hc (by decide)) (fun _ => ?_)
          refine lv_aload_n hx hb dX1_number_111 rfl (lv_at hl 1 rfl) ?_
          refine ty_get (E := []) (ws := ws) (D := D) (ci := 1) (C := RX1) (T := TX1) (N := 14) hx hb hts in_X1 hown hK hP hT h_h0 rfl 6 (by decide) (hts _ kl_RX1_52) (fun _ h9 => h9) rfl dX1_number_112 (fun _ hv_233 hf_234 => ?_)
          obtain ⟨x_235, rfl⟩ := hv_233
          refine lv_goto (tgt := 119) hx hb dX1_number_115 (by decide) ?_
          exact W.iret (v := x_235) hx hb hr (fun t ht hW => ⟨⟨x_235, ws, rfl, hT, by rw [ht]; exact hP, by rw [hAe]; exact hD⟩, hS.F ht⟩) hS.2.2 dX1_number_119
        by_cases hk_236 : p1 = 4
        · refine cm_cst hk_236 (lv_tableIn (off := 89) (tgt := 120) hx hb dX1_number_31 (by decide) (by decide) (by decide) (by decide) ?_)
          refine lv_aload_n hx hb dX1_number_120 rfl (lv_at hl 1 rfl) ?_
          refine ty_get (E := []) (ws := ws) (D := D) (ci := 1) (C := RX1) (T := TX1) (N := 14) hx hb hts in_X1 hown hK hP hT h_h0 rfl 1 (by decide) (hts _ kl_RX1_18) (fun _ h9 => h9) rfl dX1_number_121 (fun _ hv_237 hf_238 => ?_)
          obtain ⟨a_239, rfl, ha_240⟩ := hv_237
          refine ty_getN (E := []) (ws := ws) (D := D) (ci := 0) (C := RX0) (T := TX0) (N := 16) hx hb hts in_X0 hown hK hP hT ha_240 rfl 13 (by decide) (hts _ kl_RX1_76) (fun _ h9 => h9) rfl dX1_number_124 (fun _ hv_241 hf_242 => ?_)
          obtain ⟨x_243, rfl⟩ := hv_241
          exact W.iret (v := x_243) hx hb hr (fun t ht hW => ⟨⟨x_243, ws, rfl, hT, by rw [ht]; exact hP, by rw [hAe]; exact hD⟩, hS.F ht⟩) hS.2.2 dX1_number_127
        by_cases hk_244 : p1 = 5
        · refine cm_cst hk_244 (lv_tableIn (off := 97) (tgt := 128) hx hb dX1_number_31 (by decide) (by decide) (by decide) (by decide) ?_)
          refine lv_aload_n hx hb dX1_number_128 rfl (lv_at hl 1 rfl) ?_
          refine ty_get (E := []) (ws := ws) (D := D) (ci := 1) (C := RX1) (T := TX1) (N := 14) hx hb hts in_X1 hown hK hP hT h_h0 rfl 1 (by decide) (hts _ kl_RX1_18) (fun _ h9 => h9) rfl dX1_number_129 (fun _ hv_245 hf_246 => ?_)
          obtain ⟨a_247, rfl, ha_248⟩ := hv_245
          refine ty_getN (E := []) (ws := ws) (D := D) (ci := 0) (C := RX0) (T := TX0) (N := 16) hx hb hts in_X0 hown hK hP hT ha_248 rfl 14 (by decide) (hts _ kl_RX1_79) (fun _ h9 => h9) rfl dX1_number_132 (fun _ hv_249 hf_250 => ?_)
          obtain ⟨x_251, rfl⟩ := hv_249
          exact W.iret (v := x_251) hx hb hr (fun t ht hW => ⟨⟨x_251, ws, rfl, hT, by rw [ht]; exact hP, by rw [hAe]; exact hD⟩, hS.F ht⟩) hS.2.2 dX1_number_135
        by_cases hk_252 : p1 = 6
        · refine cm_cst hk_252 (lv_tableIn (off := 105) (tgt := 136) hx hb dX1_number_31 (by decide) (by decide) (by decide) (by decide) ?_)
          refine lv_aload_n hx hb dX1_number_136 rfl (lv_at hl 1 rfl) ?_
          refine ty_get (E := []) (ws := ws) (D := D) (ci := 1) (C := RX1) (T := TX1) (N := 14) hx hb hts in_X1 hown hK hP hT h_h0 rfl 1 (by decide) (hts _ kl_RX1_18) (fun _ h9 => h9) rfl dX1_number_137 (fun _ hv_253 hf_254 => ?_)
          obtain ⟨a_255, rfl, ha_256⟩ := hv_253
          refine ty_getN (E := []) (ws := ws) (D := D) (ci := 0) (C := RX0) (T := TX0) (N := 16) hx hb hts in_X0 hown hK hP hT ha_256 rfl 6 (by decide) (hts _ kl_RX1_82) (fun _ h9 => h9) rfl dX1_number_140 (fun _ hv_257 hf_258 => ?_)
          obtain ⟨x_259, rfl⟩ := hv_257
          exact W.iret (v := x_259) hx hb hr (fun t ht hW => ⟨⟨x_259, ws, rfl, hT, by rw [ht]; exact hP, by rw [hAe]; exact hD⟩, hS.F ht⟩) hS.2.2 dX1_number_143
        by_cases hk_260 : p1 = 7
        · refine cm_cst hk_260 (lv_tableIn (off := 113) (tgt := 144) hx hb dX1_number_31 (by decide) (by decide) (by decide) (by decide) ?_)
          refine lv_aload_n hx hb dX1_number_144 rfl (lv_at hl 1 rfl) ?_
          refine ty_get (E := []) (ws := ws) (D := D) (ci := 1) (C := RX1) (T := TX1) (N := 14) hx hb hts in_X1 hown hK hP hT h_h0 rfl 1 (by decide) (hts _ kl_RX1_18) (fun _ h9 => h9) rfl dX1_number_145 (fun _ hv_261 hf_262 => ?_)
          obtain ⟨a_263, rfl, ha_264⟩ := hv_261
          refine ty_getN (E := []) (ws := ws) (D := D) (ci := 0) (C := RX0) (T := TX0) (N := 16) hx hb hts in_X0 hown hK hP hT ha_264 rfl 8 (by decide) (hts _ kl_RX1_85) (fun _ h9 => h9) rfl dX1_number_148 (fun _ hv_265 hf_266 => ?_)
          obtain ⟨x_267, rfl⟩ := hv_265
          exact W.iret (v := x_267) hx hb hr (fun t ht hW => ⟨⟨x_267, ws, rfl, hT, by rw [ht]; exact hP, by rw [hAe]; exact hD⟩, hS.F ht⟩) hS.2.2 dX1_number_151
        by_cases hk_268 : p1 = 8
        · refine cm_cst hk_268 (lv_tableIn (off := 121) (tgt := 152) hx hb dX1_number_31 (by decide) (by decide) (by decide) (by decide) ?_)
          refine lv_aload_n hx hb dX1_number_152 rfl (lv_at hl 1 rfl) ?_
          refine ty_get (E := []) (ws := ws) (D := D) (ci := 1) (C := RX1) (T := TX1) (N := 14) hx hb hts in_X1 hown hK hP hT h_h0 rfl 1 (by decide) (hts _ kl_RX1_18) (fun _ h9 => h9) rfl dX1_number_153 (fun _ hv_269 hf_270 => ?_)
          obtain ⟨a_271, rfl, ha_272⟩ := hv_269
          refine ty_getN (E := []) (ws := ws) (D := D) (ci := 0) (C := RX0) (T := TX0) (N := 16) hx hb hts in_X0 hown hK hP hT ha_272 rfl 10 (by decide) (hts _ kl_RX1_88) (fun _ h9 => h9) rfl dX1_number_156 (fun _ hv_273 hf_274 => ?_)
          obtain ⟨x_275, rfl⟩ := hv_273
          exact W.iret (v := x_275) hx hb hr (fun t ht hW => ⟨⟨x_275, ws, rfl, hT, by rw [ht]; exact hP, by rw [hAe]; exact hD⟩, hS.F ht⟩) hS.2.2 dX1_number_159
        by_cases hk_276 : p1 = 9
        · refine cm_cst hk_276 (lv_tableIn (off := 129) (tgt := 160) hx hb dX1_number_31 (by decide) (by decide) (by decide) (by decide) ?_)
          refine lv_aload_n hx hb dX1_number_160 rfl (lv_at hl 1 rfl) ?_
          refine ty_get (E := []) (ws := ws) (D := D) (ci := 1) (C := RX1) (T := TX1) (N := 14) hx hb hts in_X1 hown hK hP hT h_h0 rfl 1 (by decide) (hts _ kl_RX1_18) (fun _ h9 => h9) rfl dX1_number_161 (fun _ hv_277 hf_278 => ?_)
          obtain ⟨a_279, rfl, ha_280⟩ := hv_277
          refine ty_getN (E := []) (ws := ws) (D := D) (ci := 0) (C := RX0) (T := TX0) (N := 16) hx hb hts in_X0 hown hK hP hT ha_280 rfl 11 (by decide) (hts _ kl_RX1_91) (fun _ h9 => h9) rfl dX1_number_164 (fun _ hv_281 hf_282 => ?_)
          obtain ⟨x_283, rfl⟩ := hv_281
          exact W.iret (v := x_283) hx hb hr (fun t ht hW => ⟨⟨x_283, ws, rfl, hT, by rw [ht]; exact hP, by rw [hAe]; exact hD⟩, hS.F ht⟩) hS.2.2 dX1_number_167
        refine lv_tableOut (tgt := 168) hx hb dX1_number_31 (ty_sw0_9 hk_220 hk_224 hk_228 hk_232 hk_236 hk_244 hk_252 hk_260 hk_268 hk_276) (by decide) ?_
        refine lv_aload_n hx hb dX1_number_168 rfl (lv_at hl 1 rfl) ?_
        refine ty_get (E := []) (ws := ws) (D := D) (ci := 1) (C := RX1) (T := TX1) (N := 14) hx hb hts in_X1 hown hK hP hT h_h0 rfl 2 (by decide) (hts _ kl_RX1_25) (fun _ h9 => h9) rfl dX1_number_169 (fun _ hv_284 hf_285 => ?_)
        obtain ⟨a_286, rfl, ha_287⟩ := hv_284
        refine ty_getN (E := []) (ws := ws) (D := D) (ci := 4) (C := RX4) (T := TX4) (N := 7) hx hb hts in_X4 hown hK hP hT ha_287 rfl 3 (by decide) (hts _ kl_RX1_94) (fun _ h9 => h9) rfl dX1_number_172 (fun _ hv_288 hf_289 => ?_)
        obtain ⟨x_290, rfl⟩ := hv_288
        exact W.iret (v := x_290) hx hb hr (fun t ht hW => ⟨⟨x_290, ws, rfl, hT, by rw [ht]; exact hP, by rw [hAe]; exact hD⟩, hS.F ht⟩) hS.2.2 dX1_number_175
theorem dX1_countFromHere_0 : decode cX1_countFromHere 0 = .ok (.aload_n 0, 1) := by decide +kernel
theorem dX1_countFromHere_1 : decode cX1_countFromHere 1 = .ok (.aload_n 0, 1) := by decide +kernel
theorem dX1_countFromHere_2 : decode cX1_countFromHere 2 = .ok (.getfield 18, 3) := by decide +kernel
theorem dX1_countFromHere_5 : decode cX1_countFromHere 5 = .ok (.getfield 110, 3) := by decide +kernel
theorem dX1_countFromHere_8 : decode cX1_countFromHere 8 = .ok (.getfield 114, 3) := by decide +kernel
theorem dX1_countFromHere_11 : decode cX1_countFromHere 11 = .ok (.putfield 62, 3) := by decide +kernel
theorem dX1_countFromHere_14 : decode cX1_countFromHere 14 = .ok (.aload_n 0, 1) := by decide +kernel
theorem dX1_countFromHere_15 : decode cX1_countFromHere 15 = .ok (.aload_n 0, 1) := by decide +kernel
theorem dX1_countFromHere_16 : decode cX1_countFromHere 16 = .ok (.getfield 18, 3) := by decide +kernel
theorem dX1_countFromHere_19 : decode cX1_countFromHere 19 = .ok (.getfield 110, 3) := by decide +kernel
theorem dX1_countFromHere_22 : decode cX1_countFromHere 22 = .ok (.getfield 119, 3) := by decide +kernel
theorem dX1_countFromHere_25 : decode cX1_countFromHere 25 = .ok (.putfield 66, 3) := by decide +kernel
theorem dX1_countFromHere_28 : decode cX1_countFromHere 28 = .ok (.aload_n 0, 1) := by decide +kernel
theorem dX1_countFromHere_29 : decode cX1_countFromHere 29 = .ok (.iconst 0, 1) := by decide +kernel
theorem dX1_countFromHere_30 : decode cX1_countFromHere 30 = .ok (.putfield 69, 3) := by decide +kernel
theorem dX1_countFromHere_33 : decode cX1_countFromHere 33 = .ok (.return_, 1) := by decide +kernel
set_option maxRecDepth 100000 in
set_option maxHeartbeats 4000000 in
theorem t_X1_countFromHere (l : Launch) (D : va_G) (ct : Nat → ClassId) (S : ty_S) (ws : va_W) (ph : va_W → Prop) (xx : Nat → Nat → Nat → Prop) (h0 : Nat) (sz : Nat) (hT : ty_V ct S ph ws) (h_h0 : S h0 = some (.inl 1)) (hph : ty_C ph xx) (hy1 : ty_y1 xx) : Met l yX1_countFromHere (ws_ yX1_countFromHere cX1_countFromHere 1 none) ({ frames := 0, cells := 0, slots := 0, locals := 0 } : Room) (va_Pc [.ref h0] (cmP D ct sz ([] ++ ws))) (va_Qv (fun (u9 : va_W) => ty_V ct S ph u9) (cmB D ([] ++ ws) sz (fun (u9 : va_W) => ([] ++ u9))) (va_A ([] ++ ws) sz)) 0 0 (va_A ([] ++ ws) sz) := by
  refine Met.ofW (cc := cX1_countFromHere) (maxL := 1) (ret := none) (by decide) rfl ?_
  intro p e s m args below meth c s₁ B hml hv
  obtain ⟨rfl, hsz, hP, hK, hD0, hX⟩ := hv
  have hx := B.exec
  have hb := B.bytes
  have hr := B.returns
  have hts := ws_all (atoms_spec (ws := ws_ yX1_countFromHere cX1_countFromHere 1 none) B.pre)
  have hown : s.vm.findClass RX1 = some m.cls := findClass_of_methodNamed B.named
  have hlocks := B.notSynchronized
  subst hsz
  have hD := hD0.self (sz := s.heap.size)
  generalize hAe : va_A ([] ++ ws) s.heap.size = A at hD hX ⊢
  have hA : ∀ q : Nat, s.heap.size ≤ q → A q := fun q h => by rw [← hAe]; exact Or.inr h
  have hS : va_S A s.heap s.heap [] := va_S.rf
  have hl := lv_entry ([.ref h0]) (n := 1) (Nat.le_of_ble_eq_true rfl)
  rw [lg_entry_eq]
  generalize (lg_sl ([.ref h0]) ++ List.replicate (1 - (lg_sl ([.ref h0])).length) Slot.unset).toArray = ls at hl ⊢
  have hl : lv_has ls 1 [(0, .ref h0)] := hl
  refine lv_aload_n hx hb dX1_countFromHere_0 rfl (lv_at hl 0 rfl) ?_
  refine lv_aload_n hx hb dX1_countFromHere_1 rfl (lv_at hl 0 rfl) ?_
  refine ty_get (E := []) (ws := ws) (D := D) (ci := 1) (C := RX1) (T := TX1) (N := 14) hx hb hts in_X1 hown hK hP hT h_h0 rfl 1 (by decide) (hts _ kl_RX1_18) (fun _ h9 => h9) rfl dX1_countFromHere_2 (fun _ hv_1 hf_2 => ?_)
  obtain ⟨a_3, rfl, ha_4⟩ := hv_1
  refine ty_getN (E := []) (ws := ws) (D := D) (ci := 0) (C := RX0) (T := TX0) (N := 16) hx hb hts in_X0 hown hK hP hT ha_4 rfl 15 (by decide) (hts _ kl_RX1_110) (fun _ h9 => h9) rfl dX1_countFromHere_5 (fun _ hv_5 hf_6 => ?_)
  obtain ⟨a_7, rfl, ha_8⟩ := hv_5
  refine ty_getN (E := []) (ws := ws) (D := D) (ci := 3) (C := RX3) (T := TX3) (N := 4) hx hb hts in_X3 hown hK hP hT ha_8 rfl 0 (by decide) (hts _ kl_RX1_114) (fun _ h9 => h9) rfl dX1_countFromHere_8 (fun _ hv_9 hf_10 => ?_)
  obtain ⟨x_11, rfl⟩ := hv_9
  refine ty_put (v := .long x_11) (ty := .long) (E := []) (ws := ws) (D := D) (ci := 1) (C := RX1) (T := TX1) (N := 14) hx hb hts in_X1 tyX1 tyX1_ok nmX1 hown hK hP hD hS hT h_h0 rfl 10 (by decide) (hts _ kl_RX1_62) (fun _ h9 => h9) rfl (by decide +kernel) rfl rfl rfl ⟨_, rfl⟩ dX1_countFromHere_11 hph (hy1 1 10 h0 rfl) (fun ws_12 H locs hT hP hD hS => ?_)
  refine lv_aload_n hx hb dX1_countFromHere_14 rfl (lv_at hl 0 rfl) ?_
  refine lv_aload_n hx hb dX1_countFromHere_15 rfl (lv_at hl 0 rfl) ?_
  refine ty_get (E := []) (ws := ws_12) (D := D) (ci := 1) (C := RX1) (T := TX1) (N := 14) hx hb hts in_X1 hown hK hP hT h_h0 rfl 1 (by decide) (hts _ kl_RX1_18) (fun _ h9 => h9) rfl dX1_countFromHere_16 (fun _ hv_13 hf_14 => ?_)
  obtain ⟨a_15, rfl, ha_16⟩ := hv_13
  refine ty_getN (E := []) (ws := ws_12) (D := D) (ci := 0) (C := RX0) (T := TX0) (N := 16) hx hb hts in_X0 hown hK hP hT ha_16 rfl 15 (by decide) (hts _ kl_RX1_110) (fun _ h9 => h9) rfl dX1_countFromHere_19 (fun _ hv_17 hf_18 => ?_)
  obtain ⟨a_19, rfl, ha_20⟩ := hv_17
  refine ty_getN (E := []) (ws := ws_12) (D := D) (ci := 3) (C := RX3) (T := TX3) (N := 4) hx hb hts in_X3 hown hK hP hT ha_20 rfl 1 (by decide) (hts _ kl_RX1_119) (fun _ h9 => h9) rfl dX1_countFromHere_22 (fun _ hv_21 hf_22 => ?_)
  obtain ⟨x_23, rfl⟩ := hv_21
  refine ty_put (v := .long x_23) (ty := .long) (E := []) (ws := ws_12) (D := D) (ci := 1) (C := RX1) (T := TX1) (N := 14) hx hb hts in_X1 tyX1 tyX1_ok nmX1 hown hK hP hD hS hT h_h0 rfl 11 (by decide) (hts _ kl_RX1_66) (fun _ h9 => h9) rfl (by decide +kernel) rfl rfl rfl ⟨_, rfl⟩ dX1_countFromHere_25 hph (hy1 1 11 h0 rfl) (fun ws_24 H locs hT hP hD hS => ?_)
  refine lv_aload_n hx hb dX1_countFromHere_28 rfl (lv_at hl 0 rfl) ?_
  refine lv_iconst (v := 0) hx hb dX1_countFromHere_29 (by decide) ?_
  refine ty_put (v := .int 0) (ty := .boolean) (E := []) (ws := ws_24) (D := D) (ci := 1) (C := RX1) (T := TX1) (N := 14) hx hb hts in_X1 tyX1 tyX1_ok nmX1 hown hK hP hD hS hT h_h0 rfl 12 (by decide) (hts _ kl_RX1_69) (fun _ h9 => h9) rfl (by decide +kernel) (by decide) rfl rfl ⟨0, rfl, by decide⟩ dX1_countFromHere_30 hph (hy1 1 12 h0 rfl) (fun ws_25 H locs hT hP hD hS => ?_)
  exact W.vret hx hb hr (fun t ht hW => ⟨⟨ws_25, rfl, hT, by rw [ht]; exact hP, by rw [hAe]; exact hD⟩, hS.F ht⟩) hS.2.2 dX1_countFromHere_33
theorem dX1_enterStep_0 : decode cX1_enterStep 0 = .ok (.aload_n 0, 1) := by decide +kernel
theorem dX1_enterStep_1 : decode cX1_enterStep 1 = .ok (.iload_n 1, 1) := by decide +kernel
theorem dX1_enterStep_2 : decode cX1_enterStep 2 = .ok (.putfield 49, 3) := by decide +kernel
theorem dX1_enterStep_5 : decode cX1_enterStep 5 = .ok (.aload_n 0, 1) := by decide +kernel
theorem dX1_enterStep_6 : decode cX1_enterStep 6 = .ok (.iconst 0, 1) := by decide +kernel
theorem dX1_enterStep_7 : decode cX1_enterStep 7 = .ok (.putfield 52, 3) := by decide +kernel
theorem dX1_enterStep_10 : decode cX1_enterStep 10 = .ok (.aload_n 0, 1) := by decide +kernel
theorem dX1_enterStep_11 : decode cX1_enterStep 11 = .ok (.aload_n 0, 1) := by decide +kernel
theorem dX1_enterStep_12 : decode cX1_enterStep 12 = .ok (.getfield 18, 3) := by decide +kernel
theorem dX1_enterStep_15 : decode cX1_enterStep 15 = .ok (.getfield 110, 3) := by decide +kernel
theorem dX1_enterStep_18 : decode cX1_enterStep 18 = .ok (.getfield 119, 3) := by decide +kernel
theorem dX1_enterStep_21 : decode cX1_enterStep 21 = .ok (.putfield 73, 3) := by decide +kernel
theorem dX1_enterStep_24 : decode cX1_enterStep 24 = .ok (.return_, 1) := by decide +kernel
set_option maxRecDepth 100000 in
set_option maxHeartbeats 4000000 in
theorem t_X1_enterStep (l : Launch) (D : va_G) (ct : Nat → ClassId) (S : ty_S) (ws : va_W) (ph : va_W → Prop) (xx : Nat → Nat → Nat → Prop) (h0 : Nat) (p1 : Int32) (sz : Nat) (hT : ty_V ct S ph ws) (h_h0 : S h0 = some (.inl 1)) (hph : ty_C ph xx) (hy1 : ty_y1 xx) : Met l yX1_enterStep (ws_ yX1_enterStep cX1_enterStep 2 none) ({ frames := 0, cells := 0, slots := 0, locals := 0 } : Room) (va_Pc [.ref h0, .int p1] (cmP D ct sz ([] ++ ws))) (va_Qv (fun (u9 : va_W) => ty_V ct S ph u9) (cmB D ([] ++ ws) sz (fun (u9 : va_W) => ([] ++ u9))) (va_A ([] ++ ws) sz)) 0 0 (va_A ([] ++ ws) sz) := by
  refine Met.ofW (cc := cX1_enterStep) (maxL := 2) (ret := none) (by decide) rfl ?_
  intro p e s m args below meth c s₁ B hml hv
  obtain ⟨rfl, hsz, hP, hK, hD0, hX⟩ := hv
  have hx := B.exec
  have hb := B.bytes
  have hr := B.returns
  have hts := ws_all (atoms_spec (ws := ws_ yX1_enterStep cX1_enterStep 2 none) B.pre)
  have hown : s.vm.findClass RX1 = some m.cls := findClass_of_methodNamed B.named
  have hlocks := B.notSynchronized
  subst hsz
  have hD := hD0.self (sz := s.heap.size)
  generalize hAe : va_A ([] ++ ws) s.heap.size = A at hD hX ⊢
  have hA : ∀ q : Nat, s.heap.size ≤ q → A q := fun q h => by rw [← hAe]; exact Or.inr h
  have hS : va_S A s.heap s.heap [] := va_S.rf
  have hl := lv_entry ([.ref h0, .int p1]) (n := 2) (Nat.le_of_ble_eq_true rfl)
  rw [lg_entry_eq]
  generalize (lg_sl ([.ref h0, .int p1]) ++ List.replicate (2 - (lg_sl ([.ref h0, .int p1])).length) Slot.unset).toArray = ls at hl ⊢
  have hl : lv_has ls 2 [(0, .ref h0), (1, .int p1)] := hl
  refine lv_aload_n hx hb dX1_enterStep_0 rfl (lv_at hl 0 rfl) ?_
  refine lv_iload_n hx hb dX1_enterStep_1 rfl (lv_at hl 1 rfl) ?_
  refine ty_put (v := .int p1) (ty := .int) (E := []) (ws := ws) (D := D) (ci := 1) (C := RX1) (T := TX1) (N := 14) hx hb hts in_X1 tyX1 tyX1_ok nmX1 hown hK hP hD hS hT h_h0 rfl 5 (by decide) (hts _ kl_RX1_49) (fun _ h9 => h9) rfl (by decide +kernel) rfl rfl rfl ⟨_, rfl⟩ dX1_enterStep_2 hph (hy1 1 5 h0 rfl) (fun ws_1 H locs hT hP hD hS => ?_)
  refine lv_aload_n hx hb dX1_enterStep_5 rfl (lv_at hl 0 rfl) ?_
  refine lv_iconst (v := 0) hx hb dX1_enterStep_6 (by decide) ?_
  refine ty_put (v := .int 0) (ty := .int) (E := []) (ws := ws_1) (D := D) (ci := 1) (C := RX1) (T := TX1) (N := 14) hx hb hts in_X1 tyX1 tyX1_ok nmX1 hown hK hP hD hS hT h_h0 rfl 6 (by decide) (hts _ kl_RX1_52) (fun _ h9 => h9) rfl (by decide +kernel) rfl rfl rfl ⟨_, rfl⟩ dX1_enterStep_7 hph (hy1 1 6 h0 rfl) (fun ws_2 H locs hT hP hD hS => ?_)
  refine lv_aload_n hx hb dX1_enterStep_10 rfl (lv_at hl 0 rfl) ?_
  refine lv_aload_n hx hb dX1_enterStep_11 rfl (lv_at hl 0 rfl) ?_
  refine ty_get (E := []) (ws := ws_2) (D := D) (ci := 1) (C := RX1) (T := TX1) (N := 14) hx hb hts in_X1 hown hK hP hT h_h0 rfl 1 (by decide) (hts _ kl_RX1_18) (fun _ h9 => h9) rfl dX1_enterStep_12 (fun _ hv_3 hf_4 => ?_)
  obtain ⟨a_5, rfl, ha_6⟩ := hv_3
  refine ty_getN (E := []) (ws := ws_2) (D := D) (ci := 0) (C := RX0) (T := TX0) (N := 16) hx hb hts in_X0 hown hK hP hT ha_6 rfl 15 (by decide) (hts _ kl_RX1_110) (fun _ h9 => h9) rfl dX1_enterStep_15 (fun _ hv_7 hf_8 => ?_)
  obtain ⟨a_9, rfl, ha_10⟩ := hv_7
  refine ty_getN (E := []) (ws := ws_2) (D := D) (ci := 3) (C := RX3) (T := TX3) (N := 4) hx hb hts in_X3 hown hK hP hT ha_10 rfl 1 (by decide) (hts _ kl_RX1_119) (fun _ h9 => h9) rfl dX1_enterStep_18 (fun _ hv_11 hf_12 => ?_)
  obtain ⟨x_13, rfl⟩ := hv_11
  refine ty_put (v := .long x_13) (ty := .long) (E := []) (ws := ws_2) (D := D) (ci := 1) (C := RX1) (T := TX1) (N := 14) hx hb hts in_X1 tyX1 tyX1_ok nmX1 hown hK hP hD hS hT h_h0 rfl 13 (by decide) (hts _ kl_RX1_73) (fun _ h9 => h9) rfl (by decide +kernel) rfl rfl rfl ⟨_, rfl⟩ dX1_enterStep_21 hph (hy1 1 13 h0 rfl) (fun ws_14 H locs hT hP hD hS => ?_)
  exact W.vret hx hb hr (fun t ht hW => ⟨⟨ws_14, rfl, hT, by rw [ht]; exact hP, by rw [hAe]; exact hD⟩, hS.F ht⟩) hS.2.2 dX1_enterStep_24
theorem dX1_tripReason_0 : decode cX1_tripReason 0 = .ok (.aload_n 0, 1) := by decide +kernel
theorem dX1_tripReason_1 : decode cX1_tripReason 1 = .ok (.getfield 18, 3) := by decide +kernel
theorem dX1_tripReason_4 : decode cX1_tripReason 4 = .ok (.getfield 79, 3) := by decide +kernel
theorem dX1_tripReason_7 : decode cX1_tripReason 7 = .ok (.aload_n 1, 1) := by decide +kernel
theorem dX1_tripReason_8 : decode cX1_tripReason 8 = .ok (.getfield 222, 3) := by decide +kernel
theorem dX1_tripReason_11 : decode cX1_tripReason 11 = .ok (.if_icmp .le 5, 3) := by decide +kernel
theorem dX1_tripReason_14 : decode cX1_tripReason 14 = .ok (.iconst 1, 1) := by decide +kernel
theorem dX1_tripReason_15 : decode cX1_tripReason 15 = .ok (.ireturn, 1) := by decide +kernel
theorem dX1_tripReason_16 : decode cX1_tripReason 16 = .ok (.aload_n 0, 1) := by decide +kernel
theorem dX1_tripReason_17 : decode cX1_tripReason 17 = .ok (.getfield 18, 3) := by decide +kernel
theorem dX1_tripReason_20 : decode cX1_tripReason 20 = .ok (.getfield 79, 3) := by decide +kernel
theorem dX1_tripReason_23 : decode cX1_tripReason 23 = .ok (.aload_n 1, 1) := by decide +kernel
theorem dX1_tripReason_24 : decode cX1_tripReason 24 = .ok (.getfield 225, 3) := by decide +kernel
theorem dX1_tripReason_27 : decode cX1_tripReason 27 = .ok (.if_icmp .ge 5, 3) := by decide +kernel
theorem dX1_tripReason_30 : decode cX1_tripReason 30 = .ok (.iconst 2, 1) := by decide +kernel
theorem dX1_tripReason_31 : decode cX1_tripReason 31 = .ok (.ireturn, 1) := by decide +kernel
theorem dX1_tripReason_32 : decode cX1_tripReason 32 = .ok (.aload_n 0, 1) := by decide +kernel
theorem dX1_tripReason_33 : decode cX1_tripReason 33 = .ok (.getfield 18, 3) := by decide +kernel
theorem dX1_tripReason_36 : decode cX1_tripReason 36 = .ok (.getfield 91, 3) := by decide +kernel
theorem dX1_tripReason_39 : decode cX1_tripReason 39 = .ok (.aload_n 1, 1) := by decide +kernel
theorem dX1_tripReason_40 : decode cX1_tripReason 40 = .ok (.getfield 228, 3) := by decide +kernel
theorem dX1_tripReason_43 : decode cX1_tripReason 43 = .ok (.if_icmp .le 5, 3) := by decide +kernel
theorem dX1_tripReason_46 : decode cX1_tripReason 46 = .ok (.iconst 3, 1) := by decide +kernel
theorem dX1_tripReason_47 : decode cX1_tripReason 47 = .ok (.ireturn, 1) := by decide +kernel
theorem dX1_tripReason_48 : decode cX1_tripReason 48 = .ok (.aload_n 0, 1) := by decide +kernel
theorem dX1_tripReason_49 : decode cX1_tripReason 49 = .ok (.getfield 52, 3) := by decide +kernel
theorem dX1_tripReason_52 : decode cX1_tripReason 52 = .ok (.sipush 20000, 3) := by decide +kernel
theorem dX1_tripReason_55 : decode cX1_tripReason 55 = .ok (.if_icmp .lt 11, 3) := by decide +kernel
theorem dX1_tripReason_58 : decode cX1_tripReason 58 = .ok (.iload_n 2, 1) := by decide +kernel
theorem dX1_tripReason_59 : decode cX1_tripReason 59 = .ok (.ifCond .ne 7, 3) := by decide +kernel
theorem dX1_tripReason_62 : decode cX1_tripReason 62 = .ok (.iconst 4, 1) := by decide +kernel
theorem dX1_tripReason_63 : decode cX1_tripReason 63 = .ok (.goto 4, 3) := by decide +kernel
theorem dX1_tripReason_66 : decode cX1_tripReason 66 = .ok (.iconst 0, 1) := by decide +kernel
theorem dX1_tripReason_67 : decode cX1_tripReason 67 = .ok (.ireturn, 1) := by decide +kernel
set_option maxRecDepth 100000 in
set_option maxHeartbeats 4000000 in
theorem t_X1_tripReason (l : Launch) (D : va_G) (ct : Nat → ClassId) (S : ty_S) (ws : va_W) (ph : va_W → Prop) (xx : Nat → Nat → Nat → Prop) (h0 : Nat) (p1 : Nat) (p2 : Int32) (sz : Nat) (hT : ty_V ct S ph ws) (h_h0 : S h0 = some (.inl 1)) (h_p1 : S p1 = some (.inl 7)) (hph : ty_C ph xx) (hy1 : ty_y1 xx) : Met l yX1_tripReason (ws_ yX1_tripReason cX1_tripReason 3 (some .int)) ({ frames := 0, cells := 0, slots := 0, locals := 0 } : Room) (va_Pc [.ref h0, .ref p1, .int p2] (cmP D ct sz ([] ++ ws))) (va_Qi (fun (r : Int32) (u9 : va_W) => ty_V ct S ph u9) (cmB D ([] ++ ws) sz (fun (u9 : va_W) => ([] ++ u9))) (va_A ([] ++ ws) sz)) 0 0 (va_A ([] ++ ws) sz) := by
  refine Met.ofW (cc := cX1_tripReason) (maxL := 3) (ret := (some .int)) (by decide) rfl ?_
  intro p e s m args below meth c s₁ B hml hv
  obtain ⟨rfl, hsz, hP, hK, hD0, hX⟩ := hv
  have hx := B.exec
  have hb := B.bytes
  have hr := B.returns
  have hts := ws_all (atoms_spec (ws := ws_ yX1_tripReason cX1_tripReason 3 (some .int)) B.pre)
  have hown : s.vm.findClass RX1 = some m.cls := findClass_of_methodNamed B.named
  have hlocks := B.notSynchronized
  subst hsz
  have hD := hD0.self (sz := s.heap.size)
  generalize hAe : va_A ([] ++ ws) s.heap.size = A at hD hX ⊢
  have hA : ∀ q : Nat, s.heap.size ≤ q → A q := fun q h => by rw [← hAe]; exact Or.inr h
  have hS : va_S A s.heap s.heap [] := va_S.rf
  have hl := lv_entry ([.ref h0, .ref p1, .int p2]) (n := 3) (Nat.le_of_ble_eq_true rfl)
  rw [lg_entry_eq]
  generalize (lg_sl ([.ref h0, .ref p1, .int p2]) ++ List.replicate (3 - (lg_sl ([.ref h0, .ref p1, .int p2])).length) Slot.unset).toArray = ls at hl ⊢
  have hl : lv_has ls 3 [(0, .ref h0), (1, .ref p1), (2, .int p2)] := hl
  refine lv_aload_n hx hb dX1_tripReason_0 rfl (lv_at hl 0 rfl) ?_
  refine ty_get (E := []) (ws := ws) (D := D) (ci := 1) (C := RX1) (T := TX1) (N := 14) hx hb hts in_X1 hown hK hP hT h_h0 rfl 1 (by decide) (hts _ kl_RX1_18) (fun _ h9 => h9) rfl dX1_tripReason_1 (fun _ hv_1 hf_2 => ?_)
  obtain ⟨a_3, rfl, ha_4⟩ := hv_1
  refine ty_getN (E := []) (ws := ws) (D := D) (ci := 0) (C := RX0) (T := TX0) (N := 16) hx hb hts in_X0 hown hK hP hT ha_4 rfl 14 (by decide) (hts _ kl_RX1_79) (fun _ h9 => h9) rfl dX1_tripReason_4 (fun _ hv_5 hf_6 => ?_)
  obtain ⟨x_7, rfl⟩ := hv_5
  refine lv_aload_n hx hb dX1_tripReason_7 rfl (lv_at hl 1 rfl) ?_
  refine ty_getN (E := []) (ws := ws) (D := D) (ci := 7) (C := RX7) (T := TX7) (N := 12) hx hb hts in_X7 hown hK hP hT h_p1 rfl 5 (by decide) (hts _ kl_RX1_222) (fun _ h9 => h9) rfl dX1_tripReason_8 (fun _ hv_8 hf_9 => ?_)
  obtain ⟨x_10, rfl⟩ := hv_8
  refine lv_icmp_le (tgt := 16) hx hb dX1_tripReason_11 (by decide) (fun hc_11 => ?_) (fun hc_11 => ?_)
  · refine lv_aload_n hx hb dX1_tripReason_16 rfl (lv_at hl 0 rfl) ?_
    refine ty_get (E := []) (ws := ws) (D := D) (ci := 1) (C := RX1) (T := TX1) (N := 14) hx hb hts in_X1 hown hK hP hT h_h0 rfl 1 (by decide) (hts _ kl_RX1_18) (fun _ h9 => h9) rfl dX1_tripReason_17 (fun _ hv_12 hf_13 => ?_)
    obtain ⟨a_14, rfl, ha_15⟩ := hv_12
    refine ty_getN (E := []) (ws := ws) (D := D) (ci := 0) (C := RX0) (T := TX0) (N := 16) hx hb hts in_X0 hown hK hP hT ha_15 rfl 14 (by decide) (hts _ kl_RX1_79) (fun _ h9 => h9) rfl dX1_tripReason_20 (fun _ hv_16 hf_17 => ?_)
    obtain ⟨x_18, rfl⟩ := hv_16
    refine lv_aload_n hx hb dX1_tripReason_23 rfl (lv_at hl 1 rfl) ?_
    refine ty_getN (E := []) (ws := ws) (D := D) (ci := 7) (C := RX7) (T := TX7) (N := 12) hx hb hts in_X7 hown hK hP hT h_p1 rfl 4 (by decide) (hts _ kl_RX1_225) (fun _ h9 => h9) rfl dX1_tripReason_24 (fun _ hv_19 hf_20 => ?_)
    obtain ⟨x_21, rfl⟩ := hv_19
    refine lv_icmp_ge (tgt := 32) hx hb dX1_tripReason_27 (by decide) (fun hc_22 => ?_) (fun hc_22 => ?_)
    · refine lv_aload_n hx hb dX1_tripReason_32 rfl (lv_at hl 0 rfl) ?_
      refine ty_get (E := []) (ws := ws) (D := D) (ci := 1) (C := RX1) (T := TX1) (N := 14) hx hb hts in_X1 hown hK hP hT h_h0 rfl 1 (by decide) (hts _ kl_RX1_18) (fun _ h9 => h9) rfl dX1_tripReason_33 (fun _ hv_23 hf_24 => ?_)
      obtain ⟨a_25, rfl, ha_26⟩ := hv_23
      refine ty_getN (E := []) (ws := ws) (D := D) (ci := 0) (C := RX0) (T := TX0) (N := 16) hx hb hts in_X0 hown hK hP hT ha_26 rfl 11 (by decide) (hts _ kl_RX1_91) (fun _ h9 => h9) rfl dX1_tripReason_36 (fun _ hv_27 hf_28 => ?_)
      obtain ⟨x_29, rfl⟩ := hv_27
      refine lv_aload_n hx hb dX1_tripReason_39 rfl (lv_at hl 1 rfl) ?_
      refine ty_getN (E := []) (ws := ws) (D := D) (ci := 7) (C := RX7) (T := TX7) (N := 12) hx hb hts in_X7 hown hK hP hT h_p1 rfl 6 (by decide) (hts _ kl_RX1_228) (fun _ h9 => h9) rfl dX1_tripReason_40 (fun _ hv_30 hf_31 => ?_)
      obtain ⟨x_32, rfl⟩ := hv_30
      refine lv_icmp_le (tgt := 48) hx hb dX1_tripReason_43 (by decide) (fun hc_33 => ?_) (fun hc_33 => ?_)
      · refine lv_aload_n hx hb dX1_tripReason_48 rfl (lv_at hl 0 rfl) ?_
        refine ty_get (E := []) (ws := ws) (D := D) (ci := 1) (C := RX1) (T := TX1) (N := 14) hx hb hts in_X1 hown hK hP hT h_h0 rfl 6 (by decide) (hts _ kl_RX1_52) (fun _ h9 => h9) rfl dX1_tripReason_49 (fun _ hv_34 hf_35 => ?_)
        obtain ⟨x_36, rfl⟩ := hv_34
        refine lv_sipush (v := 20000) hx hb dX1_tripReason_52 (by decide) ?_
        refine lv_icmp_lt (tgt := 66) hx hb dX1_tripReason_55 (by decide) (fun hc_37 => ?_) (fun hc_37 => ?_)
        · refine lv_iconst (v := 0) hx hb dX1_tripReason_66 (by decide) ?_
          exact W.iret (v := 0) hx hb hr (fun t ht hW => ⟨⟨0, ws, rfl, hT, by rw [ht]; exact hP, by rw [hAe]; exact hD⟩, hS.F ht⟩) hS.2.2 dX1_tripReason_67
        · refine lv_iload_n hx hb dX1_tripReason_58 rfl (lv_at hl 2 rfl) ?_
          refine lv_if_ne (tgt := 66) hx hb dX1_tripReason_59 (by decide) (fun hc_38 => ?_) (fun hc_38 => ?_)
          · refine lv_iconst (v := 0) hx hb dX1_tripReason_66 (by decide) ?_
            exact W.iret (v := 0) hx hb hr (fun t ht hW => ⟨⟨0, ws, rfl, hT, by rw [ht]; exact hP, by rw [hAe]; exact hD⟩, hS.F ht⟩) hS.2.2 dX1_tripReason_67
          · refine lv_iconst (v := 4) hx hb dX1_tripReason_62 (by decide) ?_
            refine lv_goto (tgt := 67) hx hb dX1_tripReason_63 (by decide) ?_
            exact W.iret (v := 4) hx hb hr (fun t ht hW => ⟨⟨4, ws, rfl, hT, by rw [ht]; exact hP, by rw [hAe]; exact hD⟩, hS.F ht⟩) hS.2.2 dX1_tripReason_67
      · refine lv_iconst (v := 3) hx hb dX1_tripReason_46 (by decide) ?_
        exact W.iret (v := 3) hx hb hr (fun t ht hW => ⟨⟨3, ws, rfl, hT, by rw [ht]; exact hP, by rw [hAe]; exact hD⟩, hS.F ht⟩) hS.2.2 dX1_tripReason_47
    · refine lv_iconst (v := 2) hx hb dX1_tripReason_30 (by decide) ?_
      exact W.iret (v := 2) hx hb hr (fun t ht hW => ⟨⟨2, ws, rfl, hT, by rw [ht]; exact hP, by rw [hAe]; exact hD⟩, hS.F ht⟩) hS.2.2 dX1_tripReason_31
  · refine lv_iconst (v := 1) hx hb dX1_tripReason_14 (by decide) ?_
    exact W.iret (v := 1) hx hb hr (fun t ht hW => ⟨⟨1, ws, rfl, hT, by rw [ht]; exact hP, by rw [hAe]; exact hD⟩, hS.F ht⟩) hS.2.2 dX1_tripReason_15
theorem dX2_find_0 : decode cX2_find 0 = .ok (.iconst 0, 1) := by decide +kernel
theorem dX2_find_1 : decode cX2_find 1 = .ok (.istore_n 3, 1) := by decide +kernel
theorem dX2_find_2 : decode cX2_find 2 = .ok (.iload_n 3, 1) := by decide +kernel
theorem dX2_find_3 : decode cX2_find 3 = .ok (.aload_n 0, 1) := by decide +kernel
theorem dX2_find_4 : decode cX2_find 4 = .ok (.getfield 22, 3) := by decide +kernel
theorem dX2_find_7 : decode cX2_find 7 = .ok (.if_icmp .ge 31, 3) := by decide +kernel
theorem dX2_find_10 : decode cX2_find 10 = .ok (.iload_n 3, 1) := by decide +kernel
theorem dX2_find_11 : decode cX2_find 11 = .ok (.aload_n 0, 1) := by decide +kernel
theorem dX2_find_12 : decode cX2_find 12 = .ok (.getfield 9, 3) := by decide +kernel
theorem dX2_find_15 : decode cX2_find 15 = .ok (.arraylength, 1) := by decide +kernel
theorem dX2_find_16 : decode cX2_find 16 = .ok (.if_icmp .ge 22, 3) := by decide +kernel
theorem dX2_find_19 : decode cX2_find 19 = .ok (.aload_n 0, 1) := by decide +kernel
theorem dX2_find_20 : decode cX2_find 20 = .ok (.getfield 9, 3) := by decide +kernel
theorem dX2_find_23 : decode cX2_find 23 = .ok (.iload_n 3, 1) := by decide +kernel
theorem dX2_find_24 : decode cX2_find 24 = .ok (.laload, 1) := by decide +kernel
theorem dX2_find_25 : decode cX2_find 25 = .ok (.lload_n 1, 1) := by decide +kernel
theorem dX2_find_26 : decode cX2_find 26 = .ok (.lcmp, 1) := by decide +kernel
theorem dX2_find_27 : decode cX2_find 27 = .ok (.ifCond .ne 5, 3) := by decide +kernel
theorem dX2_find_30 : decode cX2_find 30 = .ok (.iload_n 3, 1) := by decide +kernel
theorem dX2_find_31 : decode cX2_find 31 = .ok (.ireturn, 1) := by decide +kernel
theorem dX2_find_32 : decode cX2_find 32 = .ok (.iinc 3 1, 3) := by decide +kernel
theorem dX2_find_35 : decode cX2_find 35 = .ok (.goto (-33), 3) := by decide +kernel
theorem dX2_find_38 : decode cX2_find 38 = .ok (.iconst (-1), 1) := by decide +kernel
theorem dX2_find_39 : decode cX2_find 39 = .ok (.ireturn, 1) := by decide +kernel
set_option maxRecDepth 100000 in
set_option maxHeartbeats 4000000 in
theorem t_X2_find (l : Launch) (D : va_G) (ct : Nat → ClassId) (S : ty_S) (ws : va_W) (ph : va_W → Prop) (xx : Nat → Nat → Nat → Prop) (h0 : Nat) (p1 : Int64) (sz : Nat) (hT : ty_V ct S ph ws) (h_h0 : S h0 = some (.inl 2)) (hph : ty_C ph xx) (hy1 : ty_y1 xx) : Met l yX2_find (ws_ yX2_find cX2_find 4 (some .int)) ({ frames := 0, cells := 0, slots := 0, locals := 0 } : Room) (va_Pc [.ref h0, .long p1] (cmP D ct sz ([] ++ ws))) (va_Qi (fun (r : Int32) (u9 : va_W) => ty_V ct S ph u9) (cmB D ([] ++ ws) sz (fun (u9 : va_W) => ([] ++ u9))) (va_A ([] ++ ws) sz)) 0 0 (va_A ([] ++ ws) sz) := by
  refine Met.ofW (cc := cX2_find) (maxL := 4) (ret := (some .int)) (by decide) rfl ?_
  intro p e s m args below meth c s₁ B hml hv
  obtain ⟨rfl, hsz, hP, hK, hD0, hX⟩ := hv
  have hx := B.exec
  have hb := B.bytes
  have hr := B.returns
  have hts := ws_all (atoms_spec (ws := ws_ yX2_find cX2_find 4 (some .int)) B.pre)
  have hown : s.vm.findClass RX2 = some m.cls := findClass_of_methodNamed B.named
  have hlocks := B.notSynchronized
  subst hsz
  have hD := hD0.self (sz := s.heap.size)
  generalize hAe : va_A ([] ++ ws) s.heap.size = A at hD hX ⊢
  have hA : ∀ q : Nat, s.heap.size ≤ q → A q := fun q h => by rw [← hAe]; exact Or.inr h
  have hS : va_S A s.heap s.heap [] := va_S.rf
  have hl := lv_entry ([.ref h0, .long p1]) (n := 4) (Nat.le_of_ble_eq_true rfl)
  rw [lg_entry_eq]
  generalize (lg_sl ([.ref h0, .long p1]) ++ List.replicate (4 - (lg_sl ([.ref h0, .long p1])).length) Slot.unset).toArray = ls at hl ⊢
  have hl : lv_has ls 4 [(0, .ref h0), (1, .long p1)] := hl
  refine lv_iconst (v := 0) hx hb dX2_find_0 (by decide) ?_
  refine lv_istore_n (lv' := [(3, .int 0), (0, .ref h0), (1, .long p1)]) hx hb dX2_find_1 rfl hl (by decide) rfl (fun ls hl => ?_)
  refine ty_loop (I := fun μ H locs ls => ∃ (ws : va_W) (y_1 : Int32), μ = (2147483648 - y_1.toInt).toNat ∧ ty_V ct S ph ws ∧ va_P D vwCl ([] ++ ws) H ∧ va_D A ([] ++ ws) ∧ va_S A s.heap H locs ∧ lv_has ls 4 [(0, .ref h0), (1, .long p1), (3, .int y_1)] ∧ 0 ≤ y_1.toInt) ⟨_, ws, (0 : Int32), rfl, hT, hP, hD, hS, (lv_sub hl [1, 2, 0] rfl), (by decide)⟩ (fun μ H locs ls hI ih_2 => ?_)
  obtain ⟨ws, y_1, rfl, hT, hP, hD, hS, hl, hex_2⟩ := hI
  refine lv_iload_n hx hb dX2_find_2 rfl (lv_at hl 2 rfl) ?_
  refine lv_aload_n hx hb dX2_find_3 rfl (lv_at hl 0 rfl) ?_
  refine ty_get (E := []) (ws := ws) (D := D) (ci := 2) (C := RX2) (T := TX2) (N := 4) hx hb hts in_X2 hown hK hP hT h_h0 rfl 0 (by decide) (hts _ kl_RX2_22) (fun _ h9 => h9) rfl dX2_find_4 (fun _ hv_2 hf_3 => ?_)
  obtain ⟨x_4, rfl⟩ := hv_2
  refine lv_icmp_ge (tgt := 38) hx hb dX2_find_7 (by decide) (fun hc_5 => ?_) (fun hc_5 => ?_)
  · refine lv_iconst (v := (-1)) hx hb dX2_find_38 (by decide) ?_
    exact W.iret (v := (-1)) hx hb hr (fun t ht hW => ⟨⟨(-1), ws, rfl, hT, by rw [ht]; exact hP, by rw [hAe]; exact hD⟩, hS.F ht⟩) hS.2.2 dX2_find_39
  · refine lv_iload_n hx hb dX2_find_10 rfl (lv_at hl 2 rfl) ?_
    refine lv_aload_n hx hb dX2_find_11 rfl (lv_at hl 0 rfl) ?_
    refine ty_get (E := []) (ws := ws) (D := D) (ci := 2) (C := RX2) (T := TX2) (N := 4) hx hb hts in_X2 hown hK hP hT h_h0 rfl 1 (by decide) (hts _ kl_RX2_9) (fun _ h9 => h9) rfl dX2_find_12 (fun _ hv_6 hf_7 => ?_)
    obtain ⟨a_8, n_9, rfl, ha_10⟩ := hv_6
    refine ty_alen1 (E := []) (ws := ws) hx hb hK hP hT ha_10 dX2_find_15 ?_
    refine lv_icmp_ge (tgt := 38) hx hb dX2_find_16 (by decide) (fun hc_11 => ?_) (fun hc_11 => ?_)
    · refine lv_iconst (v := (-1)) hx hb dX2_find_38 (by decide) ?_
      exact W.iret (v := (-1)) hx hb hr (fun t ht hW => ⟨⟨(-1), ws, rfl, hT, by rw [ht]; exact hP, by rw [hAe]; exact hD⟩, hS.F ht⟩) hS.2.2 dX2_find_39
    · refine lv_aload_n hx hb dX2_find_19 rfl (lv_at hl 0 rfl) ?_
      refine ty_getD (v := .ref a_8) (E := []) (ws := ws) (D := D) (ci := 2) (C := RX2) (T := TX2) (N := 4) hx hb hts in_X2 hown hK hP hD hT h_h0 rfl 1 (by decide) (hts _ kl_RX2_9) (fun _ h9 => h9) hf_7 dX2_find_20 ?_
      refine lv_iload_n hx hb dX2_find_23 rfl (lv_at hl 2 rfl) ?_
      refine ty_lald (E := []) (ws := ws) hx hb hK hP hT ha_10 (cm_vin2 (ty_lt hT.1 ha_10) (ty_nneg hex_2) (cm_lt hc_11)) dX2_find_24 (fun x_12 => ?_)
      refine lv_lload_n hx hb dX2_find_25 rfl (lv_at hl 1 rfl) ?_
      refine W.lcmp hx hb dX2_find_26 ?_
      refine lv_topi (fun x_13 _ => ?_)
      refine lv_if_ne (tgt := 32) hx hb dX2_find_27 (by decide) (fun hc_14 => ?_) (fun hc_14 => ?_)
      · refine lv_iinc (v := (y_1 + Int32.ofInt 1)) (lv' := [(3, .int (y_1 + Int32.ofInt 1)), (0, .ref h0), (1, .long p1)]) hx hb dX2_find_32 hl (k := 2) rfl rfl (by decide) rfl (fun ls hl => ?_)
        refine lv_goto (tgt := 2) hx hb dX2_find_35 (by decide) ?_
        exact ih_2 _ _ _ _ (ty_inc (cm_lt hc_5)) ⟨ws, (y_1 + Int32.ofInt 1), rfl, hT, hP, hD, hS, (lv_sub hl [1, 2, 0] rfl), (ty_nn hex_2 (cm_lt hc_5))⟩
      · refine lv_iload_n hx hb dX2_find_30 rfl (lv_at hl 2 rfl) ?_
        exact W.iret (v := y_1) hx hb hr (fun t ht hW => ⟨⟨y_1, ws, rfl, hT, by rw [ht]; exact hP, by rw [hAe]; exact hD⟩, hS.F ht⟩) hS.2.2 dX2_find_31
theorem dX3_clear_0 : decode cX3_clear 0 = .ok (.aload_n 0, 1) := by decide +kernel
theorem dX3_clear_1 : decode cX3_clear 1 = .ok (.lconst 0, 1) := by decide +kernel
theorem dX3_clear_2 : decode cX3_clear 2 = .ok (.putfield 7, 3) := by decide +kernel
theorem dX3_clear_5 : decode cX3_clear 5 = .ok (.aload_n 0, 1) := by decide +kernel
theorem dX3_clear_6 : decode cX3_clear 6 = .ok (.lconst 0, 1) := by decide +kernel
theorem dX3_clear_7 : decode cX3_clear 7 = .ok (.putfield 13, 3) := by decide +kernel
theorem dX3_clear_10 : decode cX3_clear 10 = .ok (.aload_n 0, 1) := by decide +kernel
theorem dX3_clear_11 : decode cX3_clear 11 = .ok (.lconst 0, 1) := by decide +kernel
theorem dX3_clear_12 : decode cX3_clear 12 = .ok (.putfield 16, 3) := by decide +kernel
theorem dX3_clear_15 : decode cX3_clear 15 = .ok (.aload_n 0, 1) := by decide +kernel
theorem dX3_clear_16 : decode cX3_clear 16 = .ok (.lconst 0, 1) := by decide +kernel
theorem dX3_clear_17 : decode cX3_clear 17 = .ok (.putfield 19, 3) := by decide +kernel
theorem dX3_clear_20 : decode cX3_clear 20 = .ok (.return_, 1) := by decide +kernel
set_option maxRecDepth 100000 in
set_option maxHeartbeats 4000000 in
theorem t_X3_clear (l : Launch) (D : va_G) (ct : Nat → ClassId) (S : ty_S) (ws : va_W) (ph : va_W → Prop) (xx : Nat → Nat → Nat → Prop) (h0 : Nat) (sz : Nat) (hT : ty_V ct S ph ws) (h_h0 : S h0 = some (.inl 3)) (hph : ty_C ph xx) (hy1 : ty_y1 xx) : Met l yX3_clear (ws_ yX3_clear cX3_clear 1 none) ({ frames := 0, cells := 0, slots := 0, locals := 0 } : Room) (va_Pc [.ref h0] (cmP D ct sz ([] ++ ws))) (va_Qv (fun (u9 : va_W) => ty_V ct S ph u9) (cmB D ([] ++ ws) sz (fun (u9 : va_W) => ([] ++ u9))) (va_A ([] ++ ws) sz)) 0 0 (va_A ([] ++ ws) sz) := by
  refine Met.ofW (cc := cX3_clear) (maxL := 1) (ret := none) (by decide) rfl ?_
  intro p e s m args below meth c s₁ B hml hv
  obtain ⟨rfl, hsz, hP, hK, hD0, hX⟩ := hv
  have hx := B.exec
  have hb := B.bytes
  have hr := B.returns
  have hts := ws_all (atoms_spec (ws := ws_ yX3_clear cX3_clear 1 none) B.pre)
  have hown : s.vm.findClass RX3 = some m.cls := findClass_of_methodNamed B.named
  have hlocks := B.notSynchronized
  subst hsz
  have hD := hD0.self (sz := s.heap.size)
  generalize hAe : va_A ([] ++ ws) s.heap.size = A at hD hX ⊢
  have hA : ∀ q : Nat, s.heap.size ≤ q → A q := fun q h => by rw [← hAe]; exact Or.inr h
  have hS : va_S A s.heap s.heap [] := va_S.rf
  have hl := lv_entry ([.ref h0]) (n := 1) (Nat.le_of_ble_eq_true rfl)
  rw [lg_entry_eq]
  generalize (lg_sl ([.ref h0]) ++ List.replicate (1 - (lg_sl ([.ref h0])).length) Slot.unset).toArray = ls at hl ⊢
  have hl : lv_has ls 1 [(0, .ref h0)] := hl
  refine lv_aload_n hx hb dX3_clear_0 rfl (lv_at hl 0 rfl) ?_
  refine lv_lconst (v := 0) hx hb dX3_clear_1 (by decide) ?_
  refine ty_put (v := .long 0) (ty := .long) (E := []) (ws := ws) (D := D) (ci := 3) (C := RX3) (T := TX3) (N := 4) hx hb hts in_X3 tyX3 tyX3_ok nmX3 hown hK hP hD hS hT h_h0 rfl 0 (by decide) (hts _ kl_RX3_7) (fun _ h9 => h9) rfl (by decide +kernel) rfl rfl rfl ⟨_, rfl⟩ dX3_clear_2 hph (hy1 3 0 h0 rfl) (fun ws_1 H locs hT hP hD hS => ?_)
  refine lv_aload_n hx hb dX3_clear_5 rfl (lv_at hl 0 rfl) ?_
  refine lv_lconst (v := 0) hx hb dX3_clear_6 (by decide) ?_
  refine ty_put (v := .long 0) (ty := .long) (E := []) (ws := ws_1) (D := D) (ci := 3) (C := RX3) (T := TX3) (N := 4) hx hb hts in_X3 tyX3 tyX3_ok nmX3 hown hK hP hD hS hT h_h0 rfl 1 (by decide) (hts _ kl_RX3_13) (fun _ h9 => h9) rfl (by decide +kernel) rfl rfl rfl ⟨_, rfl⟩ dX3_clear_7 hph (hy1 3 1 h0 rfl) (fun ws_2 H locs hT hP hD hS => ?_)
  refine lv_aload_n hx hb dX3_clear_10 rfl (lv_at hl 0 rfl) ?_
  refine lv_lconst (v := 0) hx hb dX3_clear_11 (by decide) ?_
  refine ty_put (v := .long 0) (ty := .long) (E := []) (ws := ws_2) (D := D) (ci := 3) (C := RX3) (T := TX3) (N := 4) hx hb hts in_X3 tyX3 tyX3_ok nmX3 hown hK hP hD hS hT h_h0 rfl 2 (by decide) (hts _ kl_RX3_16) (fun _ h9 => h9) rfl (by decide +kernel) rfl rfl rfl ⟨_, rfl⟩ dX3_clear_12 hph (hy1 3 2 h0 rfl) (fun ws_3 H locs hT hP hD hS => ?_)
  refine lv_aload_n hx hb dX3_clear_15 rfl (lv_at hl 0 rfl) ?_
  refine lv_lconst (v := 0) hx hb dX3_clear_16 (by decide) ?_
  refine ty_put (v := .long 0) (ty := .long) (E := []) (ws := ws_3) (D := D) (ci := 3) (C := RX3) (T := TX3) (N := 4) hx hb hts in_X3 tyX3 tyX3_ok nmX3 hown hK hP hD hS hT h_h0 rfl 3 (by decide) (hts _ kl_RX3_19) (fun _ h9 => h9) rfl (by decide +kernel) rfl rfl rfl ⟨_, rfl⟩ dX3_clear_17 hph (hy1 3 3 h0 rfl) (fun ws_4 H locs hT hP hD hS => ?_)
  exact W.vret hx hb hr (fun t ht hW => ⟨⟨ws_4, rfl, hT, by rw [ht]; exact hP, by rw [hAe]; exact hD⟩, hS.F ht⟩) hS.2.2 dX3_clear_20
theorem dX3_copyFrom_0 : decode cX3_copyFrom 0 = .ok (.aload_n 0, 1) := by decide +kernel
theorem dX3_copyFrom_1 : decode cX3_copyFrom 1 = .ok (.aload_n 1, 1) := by decide +kernel
theorem dX3_copyFrom_2 : decode cX3_copyFrom 2 = .ok (.getfield 7, 3) := by decide +kernel
theorem dX3_copyFrom_5 : decode cX3_copyFrom 5 = .ok (.putfield 7, 3) := by decide +kernel
theorem dX3_copyFrom_8 : decode cX3_copyFrom 8 = .ok (.aload_n 0, 1) := by decide +kernel
theorem dX3_copyFrom_9 : decode cX3_copyFrom 9 = .ok (.aload_n 1, 1) := by decide +kernel
theorem dX3_copyFrom_10 : decode cX3_copyFrom 10 = .ok (.getfield 13, 3) := by decide +kernel
theorem dX3_copyFrom_13 : decode cX3_copyFrom 13 = .ok (.putfield 13, 3) := by decide +kernel
theorem dX3_copyFrom_16 : decode cX3_copyFrom 16 = .ok (.aload_n 0, 1) := by decide +kernel
theorem dX3_copyFrom_17 : decode cX3_copyFrom 17 = .ok (.aload_n 1, 1) := by decide +kernel
theorem dX3_copyFrom_18 : decode cX3_copyFrom 18 = .ok (.getfield 16, 3) := by decide +kernel
theorem dX3_copyFrom_21 : decode cX3_copyFrom 21 = .ok (.putfield 16, 3) := by decide +kernel
theorem dX3_copyFrom_24 : decode cX3_copyFrom 24 = .ok (.aload_n 0, 1) := by decide +kernel
theorem dX3_copyFrom_25 : decode cX3_copyFrom 25 = .ok (.aload_n 1, 1) := by decide +kernel
theorem dX3_copyFrom_26 : decode cX3_copyFrom 26 = .ok (.getfield 19, 3) := by decide +kernel
theorem dX3_copyFrom_29 : decode cX3_copyFrom 29 = .ok (.putfield 19, 3) := by decide +kernel
theorem dX3_copyFrom_32 : decode cX3_copyFrom 32 = .ok (.return_, 1) := by decide +kernel
set_option maxRecDepth 100000 in
set_option maxHeartbeats 4000000 in
theorem t_X3_copyFrom (l : Launch) (D : va_G) (ct : Nat → ClassId) (S : ty_S) (ws : va_W) (ph : va_W → Prop) (xx : Nat → Nat → Nat → Prop) (h0 : Nat) (p1 : Nat) (sz : Nat) (hT : ty_V ct S ph ws) (h_h0 : S h0 = some (.inl 3)) (h_p1 : S p1 = some (.inl 3)) (hph : ty_C ph xx) (hy1 : ty_y1 xx) : Met l yX3_copyFrom (ws_ yX3_copyFrom cX3_copyFrom 2 none) ({ frames := 0, cells := 0, slots := 0, locals := 0 } : Room) (va_Pc [.ref h0, .ref p1] (cmP D ct sz ([] ++ ws))) (va_Qv (fun (u9 : va_W) => ty_V ct S ph u9) (cmB D ([] ++ ws) sz (fun (u9 : va_W) => ([] ++ u9))) (va_A ([] ++ ws) sz)) 0 0 (va_A ([] ++ ws) sz) := by
  refine Met.ofW (cc := cX3_copyFrom) (maxL := 2) (ret := none) (by decide) rfl ?_
  intro p e s m args below meth c s₁ B hml hv
  obtain ⟨rfl, hsz, hP, hK, hD0, hX⟩ := hv
  have hx := B.exec
  have hb := B.bytes
  have hr := B.returns
  have hts := ws_all (atoms_spec (ws := ws_ yX3_copyFrom cX3_copyFrom 2 none) B.pre)
  have hown : s.vm.findClass RX3 = some m.cls := findClass_of_methodNamed B.named
  have hlocks := B.notSynchronized
  subst hsz
  have hD := hD0.self (sz := s.heap.size)
  generalize hAe : va_A ([] ++ ws) s.heap.size = A at hD hX ⊢
  have hA : ∀ q : Nat, s.heap.size ≤ q → A q := fun q h => by rw [← hAe]; exact Or.inr h
  have hS : va_S A s.heap s.heap [] := va_S.rf
  have hl := lv_entry ([.ref h0, .ref p1]) (n := 2) (Nat.le_of_ble_eq_true rfl)
  rw [lg_entry_eq]
  generalize (lg_sl ([.ref h0, .ref p1]) ++ List.replicate (2 - (lg_sl ([.ref h0, .ref p1])).length) Slot.unset).toArray = ls at hl ⊢
  have hl : lv_has ls 2 [(0, .ref h0), (1, .ref p1)] := hl
  refine lv_aload_n hx hb dX3_copyFrom_0 rfl (lv_at hl 0 rfl) ?_
  refine lv_aload_n hx hb dX3_copyFrom_1 rfl (lv_at hl 1 rfl) ?_
  refine ty_get (E := []) (ws := ws) (D := D) (ci := 3) (C := RX3) (T := TX3) (N := 4) hx hb hts in_X3 hown hK hP hT h_p1 rfl 0 (by decide) (hts _ kl_RX3_7) (fun _ h9 => h9) rfl dX3_copyFrom_2 (fun _ hv_1 hf_2 => ?_)
  obtain ⟨x_3, rfl⟩ := hv_1
  refine ty_put (v := .long x_3) (ty := .long) (E := []) (ws := ws) (D := D) (ci := 3) (C := RX3) (T := TX3) (N := 4) hx hb hts in_X3 tyX3 tyX3_ok nmX3 hown hK hP hD hS hT h_h0 rfl 0 (by decide) (hts _ kl_RX3_7) (fun _ h9 => h9) rfl (by decide +kernel) rfl rfl rfl ⟨_, rfl⟩ dX3_copyFrom_5 hph (hy1 3 0 h0 rfl) (fun ws_4 H locs hT hP hD hS => ?_)
  refine lv_aload_n hx hb dX3_copyFrom_8 rfl (lv_at hl 0 rfl) ?_
  refine lv_aload_n hx hb dX3_copyFrom_9 rfl (lv_at hl 1 rfl) ?_
  refine ty_get (E := []) (ws := ws_4) (D := D) (ci := 3) (C := RX3) (T := TX3) (N := 4) hx hb hts in_X3 hown hK hP hT h_p1 rfl 1 (by decide) (hts _ kl_RX3_13) (fun _ h9 => h9) rfl dX3_copyFrom_10 (fun _ hv_5 hf_6 => ?_)
  obtain ⟨x_7, rfl⟩ := hv_5
  refine ty_put (v := .long x_7) (ty := .long) (E := []) (ws := ws_4) (D := D) (ci := 3) (C := RX3) (T := TX3) (N := 4) hx hb hts in_X3 tyX3 tyX3_ok nmX3 hown hK hP hD hS hT h_h0 rfl 1 (by decide) (hts _ kl_RX3_13) (fun _ h9 => h9) rfl (by decide +kernel) rfl rfl rfl ⟨_, rfl⟩ dX3_copyFrom_13 hph (hy1 3 1 h0 rfl) (fun ws_8 H locs hT hP hD hS => ?_)
  refine lv_aload_n hx hb dX3_copyFrom_16 rfl (lv_at hl 0 rfl) ?_
  refine lv_aload_n hx hb dX3_copyFrom_17 rfl (lv_at hl 1 rfl) ?_
  refine ty_get (E := []) (ws := ws_8) (D := D) (ci := 3) (C := RX3) (T := TX3) (N := 4) hx hb hts in_X3 hown hK hP hT h_p1 rfl 2 (by decide) (hts _ kl_RX3_16) (fun _ h9 => h9) rfl dX3_copyFrom_18 (fun _ hv_9 hf_10 => ?_)
  obtain ⟨x_11, rfl⟩ := hv_9
  refine ty_put (v := .long x_11) (ty := .long) (E := []) (ws := ws_8) (D := D) (ci := 3) (C := RX3) (T := TX3) (N := 4) hx hb hts in_X3 tyX3 tyX3_ok nmX3 hown hK hP hD hS hT h_h0 rfl 2 (by decide) (hts _ kl_RX3_16) (fun _ h9 => h9) rfl (by decide +kernel) rfl rfl rfl ⟨_, rfl⟩ dX3_copyFrom_21 hph (hy1 3 2 h0 rfl) (fun ws_12 H locs hT hP hD hS => ?_)
  refine lv_aload_n hx hb dX3_copyFrom_24 rfl (lv_at hl 0 rfl) ?_
  refine lv_aload_n hx hb dX3_copyFrom_25 rfl (lv_at hl 1 rfl) ?_
  refine ty_get (E := []) (ws := ws_12) (D := D) (ci := 3) (C := RX3) (T := TX3) (N := 4) hx hb hts in_X3 hown hK hP hT h_p1 rfl 3 (by decide) (hts _ kl_RX3_19) (fun _ h9 => h9) rfl dX3_copyFrom_26 (fun _ hv_13 hf_14 => ?_)
  obtain ⟨x_15, rfl⟩ := hv_13
  refine ty_put (v := .long x_15) (ty := .long) (E := []) (ws := ws_12) (D := D) (ci := 3) (C := RX3) (T := TX3) (N := 4) hx hb hts in_X3 tyX3 tyX3_ok nmX3 hown hK hP hD hS hT h_h0 rfl 3 (by decide) (hts _ kl_RX3_19) (fun _ h9 => h9) rfl (by decide +kernel) rfl rfl rfl ⟨_, rfl⟩ dX3_copyFrom_29 hph (hy1 3 3 h0 rfl) (fun ws_16 H locs hT hP hD hS => ?_)
  exact W.vret hx hb hr (fun t ht hW => ⟨⟨ws_16, rfl, hT, by rw [ht]; exact hP, by rw [hAe]; exact hD⟩, hS.F ht⟩) hS.2.2 dX3_copyFrom_32
theorem dX7_clear_0 : decode cX7_clear 0 = .ok (.aload_n 0, 1) := by decide +kernel
theorem dX7_clear_1 : decode cX7_clear 1 = .ok (.sipush 990, 3) := by decide +kernel
theorem dX7_clear_4 : decode cX7_clear 4 = .ok (.putfield 12, 3) := by decide +kernel
theorem dX7_clear_7 : decode cX7_clear 7 = .ok (.aload_n 0, 1) := by decide +kernel
theorem dX7_clear_8 : decode cX7_clear 8 = .ok (.ldc 16, 2) := by decide +kernel
theorem dX7_clear_10 : decode cX7_clear 10 = .ok (.putfield 17, 3) := by decide +kernel
theorem dX7_clear_13 : decode cX7_clear 13 = .ok (.aload_n 0, 1) := by decide +kernel
theorem dX7_clear_14 : decode cX7_clear 14 = .ok (.bipush 100, 2) := by decide +kernel
theorem dX7_clear_16 : decode cX7_clear 16 = .ok (.putfield 20, 3) := by decide +kernel
theorem dX7_clear_19 : decode cX7_clear 19 = .ok (.aload_n 0, 1) := by decide +kernel
theorem dX7_clear_20 : decode cX7_clear 20 = .ok (.iconst 5, 1) := by decide +kernel
theorem dX7_clear_21 : decode cX7_clear 21 = .ok (.putfield 23, 3) := by decide +kernel
theorem dX7_clear_24 : decode cX7_clear 24 = .ok (.aload_n 0, 1) := by decide +kernel
theorem dX7_clear_25 : decode cX7_clear 25 = .ok (.iconst 0, 1) := by decide +kernel
theorem dX7_clear_26 : decode cX7_clear 26 = .ok (.putfield 26, 3) := by decide +kernel
theorem dX7_clear_29 : decode cX7_clear 29 = .ok (.aload_n 0, 1) := by decide +kernel
theorem dX7_clear_30 : decode cX7_clear 30 = .ok (.sipush 5000, 3) := by decide +kernel
theorem dX7_clear_33 : decode cX7_clear 33 = .ok (.putfield 29, 3) := by decide +kernel
theorem dX7_clear_36 : decode cX7_clear 36 = .ok (.aload_n 0, 1) := by decide +kernel
theorem dX7_clear_37 : decode cX7_clear 37 = .ok (.sipush 600, 3) := by decide +kernel
theorem dX7_clear_40 : decode cX7_clear 40 = .ok (.putfield 32, 3) := by decide +kernel
theorem dX7_clear_43 : decode cX7_clear 43 = .ok (.aload_n 0, 1) := by decide +kernel
theorem dX7_clear_44 : decode cX7_clear 44 = .ok (.sipush 250, 3) := by decide +kernel
theorem dX7_clear_47 : decode cX7_clear 47 = .ok (.putfield 35, 3) := by decide +kernel
theorem dX7_clear_50 : decode cX7_clear 50 = .ok (.aload_n 0, 1) := by decide +kernel
theorem dX7_clear_51 : decode cX7_clear 51 = .ok (.iconst 0, 1) := by decide +kernel
theorem dX7_clear_52 : decode cX7_clear 52 = .ok (.putfield 38, 3) := by decide +kernel
theorem dX7_clear_55 : decode cX7_clear 55 = .ok (.aload_n 0, 1) := by decide +kernel
theorem dX7_clear_56 : decode cX7_clear 56 = .ok (.sipush 5000, 3) := by decide +kernel
theorem dX7_clear_59 : decode cX7_clear 59 = .ok (.putfield 41, 3) := by decide +kernel
theorem dX7_clear_62 : decode cX7_clear 62 = .ok (.aload_n 0, 1) := by decide +kernel
theorem dX7_clear_63 : decode cX7_clear 63 = .ok (.sipush 1000, 3) := by decide +kernel
theorem dX7_clear_66 : decode cX7_clear 66 = .ok (.putfield 44, 3) := by decide +kernel
theorem dX7_clear_69 : decode cX7_clear 69 = .ok (.aload_n 0, 1) := by decide +kernel
theorem dX7_clear_70 : decode cX7_clear 70 = .ok (.iconst 0, 1) := by decide +kernel
theorem dX7_clear_71 : decode cX7_clear 71 = .ok (.putfield 47, 3) := by decide +kernel
theorem dX7_clear_74 : decode cX7_clear 74 = .ok (.return_, 1) := by decide +kernel
set_option maxRecDepth 100000 in
set_option maxHeartbeats 4000000 in
theorem t_X7_clear (l : Launch) (D : va_G) (ct : Nat → ClassId) (S : ty_S) (ws : va_W) (ph : va_W → Prop) (xx : Nat → Nat → Nat → Prop) (h0 : Nat) (sz : Nat) (hT : ty_V ct S ph ws) (h_h0 : S h0 = some (.inl 7)) (hph : ty_C ph xx) (hy1 : ty_y1 xx) (hy7 : ty_yc xx 7) : Met l yX7_clear (ws_ yX7_clear cX7_clear 1 none) ({ frames := 0, cells := 0, slots := 0, locals := 0 } : Room) (va_Pc [.ref h0] (cmP D ct sz ([] ++ ws))) (va_Qv (fun (u9 : va_W) => ty_V ct S ph u9) (cmB D ([] ++ ws) sz (fun (u9 : va_W) => ([] ++ u9))) (va_A ([] ++ ws) sz)) 0 0 (va_A ([] ++ ws) sz) := by
  refine Met.ofW (cc := cX7_clear) (maxL := 1) (ret := none) (by decide) rfl ?_
  intro p e s m args below meth c s₁ B hml hv
  obtain ⟨rfl, hsz, hP, hK, hD0, hX⟩ := hv
  have hx := B.exec
  have hb := B.bytes
  have hr := B.returns
  have hts := ws_all (atoms_spec (ws := ws_ yX7_clear cX7_clear 1 none) B.pre)
  have hown : s.vm.findClass RX7 = some m.cls := findClass_of_methodNamed B.named
  have hlocks := B.notSynchronized
  subst hsz
  have hD := hD0.self (sz := s.heap.size)
  generalize hAe : va_A ([] ++ ws) s.heap.size = A at hD hX ⊢
  have hA : ∀ q : Nat, s.heap.size ≤ q → A q := fun q h => by rw [← hAe]; exact Or.inr h
  have hS : va_S A s.heap s.heap [] := va_S.rf
  have hl := lv_entry ([.ref h0]) (n := 1) (Nat.le_of_ble_eq_true rfl)
  rw [lg_entry_eq]
  generalize (lg_sl ([.ref h0]) ++ List.replicate (1 - (lg_sl ([.ref h0])).length) Slot.unset).toArray = ls at hl ⊢
  have hl : lv_has ls 1 [(0, .ref h0)] := hl
  refine lv_aload_n hx hb dX7_clear_0 rfl (lv_at hl 0 rfl) ?_
  refine lv_sipush (v := 990) hx hb dX7_clear_1 (by decide) ?_
  refine ty_put (v := .int 990) (ty := .int) (E := []) (ws := ws) (D := D) (ci := 7) (C := RX7) (T := TX7) (N := 12) hx hb hts in_X7 tyX7 tyX7_ok nmX7 hown hK hP hD hS hT h_h0 rfl 0 (by decide) (hts _ kl_RX7_12) (fun _ h9 => h9) rfl (by decide +kernel) rfl rfl rfl ⟨_, rfl⟩ dX7_clear_4 hph (hy7 0 h0) (fun ws_1 H locs hT hP hD hS => ?_)
  refine lv_aload_n hx hb dX7_clear_7 rfl (lv_at hl 0 rfl) ?_
  refine lv_ldc hx hb hown (hts _ kl_RX7_16) dX7_clear_8 ?_
  refine ty_put (v := .int 100000) (ty := .int) (E := []) (ws := ws_1) (D := D) (ci := 7) (C := RX7) (T := TX7) (N := 12) hx hb hts in_X7 tyX7 tyX7_ok nmX7 hown hK hP hD hS hT h_h0 rfl 1 (by decide) (hts _ kl_RX7_17) (fun _ h9 => h9) rfl (by decide +kernel) rfl rfl rfl ⟨_, rfl⟩ dX7_clear_10 hph (hy7 1 h0) (fun ws_2 H locs hT hP hD hS => ?_)
  refine lv_aload_n hx hb dX7_clear_13 rfl (lv_at hl 0 rfl) ?_
  refine lv_bipush (v := 100) hx hb dX7_clear_14 (by decide) ?_
  refine ty_put (v := .int 100) (ty := .int) (E := []) (ws := ws_2) (D := D) (ci := 7) (C := RX7) (T := TX7) (N := 12) hx hb hts in_X7 tyX7 tyX7_ok nmX7 hown hK hP hD hS hT h_h0 rfl 2 (by decide) (hts _ kl_RX7_20) (fun _ h9 => h9) rfl (by decide +kernel) rfl rfl rfl ⟨_, rfl⟩ dX7_clear_16 hph (hy7 2 h0) (fun ws_3 H locs hT hP hD hS => ?_)
  refine lv_aload_n hx hb dX7_clear_19 rfl (lv_at hl 0 rfl) ?_
  refine lv_iconst (v := 5) hx hb dX7_clear_20 (by decide) ?_
  refine ty_put (v := .int 5) (ty := .int) (E := []) (ws := ws_3) (D := D) (ci := 7) (C := RX7) (T := TX7) (N := 12) hx hb hts in_X7 tyX7 tyX7_ok nmX7 hown hK hP hD hS hT h_h0 rfl 3 (by decide) (hts _ kl_RX7_23) (fun _ h9 => h9) rfl (by decide +kernel) rfl rfl rfl ⟨_, rfl⟩ dX7_clear_21 hph (hy7 3 h0) (fun ws_4 H locs hT hP hD hS => ?_)
  refine lv_aload_n hx hb dX7_clear_24 rfl (lv_at hl 0 rfl) ?_
  refine lv_iconst (v := 0) hx hb dX7_clear_25 (by decide) ?_
  refine ty_put (v := .int 0) (ty := .int) (E := []) (ws := ws_4) (D := D) (ci := 7) (C := RX7) (T := TX7) (N := 12) hx hb hts in_X7 tyX7 tyX7_ok nmX7 hown hK hP hD hS hT h_h0 rfl 4 (by decide) (hts _ kl_RX7_26) (fun _ h9 => h9) rfl (by decide +kernel) rfl rfl rfl ⟨_, rfl⟩ dX7_clear_26 hph (hy7 4 h0) (fun ws_5 H locs hT hP hD hS => ?_)
  refine lv_aload_n hx hb dX7_clear_29 rfl (lv_at hl 0 rfl) ?_
  refine lv_sipush (v := 5000) hx hb dX7_clear_30 (by decide) ?_
  refine ty_put (v := .int 5000) (ty := .int) (E := []) (ws := ws_5) (D := D) (ci := 7) (C := RX7) (T := TX7) (N := 12) hx hb hts in_X7 tyX7 tyX7_ok nmX7 hown hK hP hD hS hT h_h0 rfl 5 (by decide) (hts _ kl_RX7_29) (fun _ h9 => h9) rfl (by decide +kernel) rfl rfl rfl ⟨_, rfl⟩ dX7_clear_33 hph (hy7 5 h0) (fun ws_6 H locs hT hP hD hS => ?_)
  refine lv_aload_n hx hb dX7_clear_36 rfl (lv_at hl 0 rfl) ?_
  refine lv_sipush (v := 600) hx hb dX7_clear_37 (by decide) ?_
  refine ty_put (v := .int 600) (ty := .int) (E := []) (ws := ws_6) (D := D) (ci := 7) (C := RX7) (T := TX7) (N := 12) hx hb hts in_X7 tyX7 tyX7_ok nmX7 hown hK hP hD hS hT h_h0 rfl 6 (by decide) (hts _ kl_RX7_32) (fun _ h9 => h9) rfl (by decide +kernel) rfl rfl rfl ⟨_, rfl⟩ dX7_clear_40 hph (hy7 6 h0) (fun ws_7 H locs hT hP hD hS => ?_)
  refine lv_aload_n hx hb dX7_clear_43 rfl (lv_at hl 0 rfl) ?_
  refine lv_sipush (v := 250) hx hb dX7_clear_44 (by decide) ?_
  refine ty_put (v := .int 250) (ty := .int) (E := []) (ws := ws_7) (D := D) (ci := 7) (C := RX7) (T := TX7) (N := 12) hx hb hts in_X7 tyX7 tyX7_ok nmX7 hown hK hP hD hS hT h_h0 rfl 7 (by decide) (hts _ kl_RX7_35) (fun _ h9 => h9) rfl (by decide +kernel) rfl rfl rfl ⟨_, rfl⟩ dX7_clear_47 hph (hy7 7 h0) (fun ws_8 H locs hT hP hD hS => ?_)
  refine lv_aload_n hx hb dX7_clear_50 rfl (lv_at hl 0 rfl) ?_
  refine lv_iconst (v := 0) hx hb dX7_clear_51 (by decide) ?_
  refine ty_put (v := .int 0) (ty := .int) (E := []) (ws := ws_8) (D := D) (ci := 7) (C := RX7) (T := TX7) (N := 12) hx hb hts in_X7 tyX7 tyX7_ok nmX7 hown hK hP hD hS hT h_h0 rfl 8 (by decide) (hts _ kl_RX7_38) (fun _ h9 => h9) rfl (by decide +kernel) rfl rfl rfl ⟨_, rfl⟩ dX7_clear_52 hph (hy7 8 h0) (fun ws_9 H locs hT hP hD hS => ?_)
  refine lv_aload_n hx hb dX7_clear_55 rfl (lv_at hl 0 rfl) ?_
  refine lv_sipush (v := 5000) hx hb dX7_clear_56 (by decide) ?_
  refine ty_put (v := .int 5000) (ty := .int) (E := []) (ws := ws_9) (D := D) (ci := 7) (C := RX7) (T := TX7) (N := 12) hx hb hts in_X7 tyX7 tyX7_ok nmX7 hown hK hP hD hS hT h_h0 rfl 9 (by decide) (hts _ kl_RX7_41) (fun _ h9 => h9) rfl (by decide +kernel) rfl rfl rfl ⟨_, rfl⟩ dX7_clear_59 hph (hy7 9 h0) (fun ws_10 H locs hT hP hD hS => ?_)
  refine lv_aload_n hx hb dX7_clear_62 rfl (lv_at hl 0 rfl) ?_
  refine lv_sipush (v := 1000) hx hb dX7_clear_63 (by decide) ?_
  refine ty_put (v := .int 1000) (ty := .int) (E := []) (ws := ws_10) (D := D) (ci := 7) (C := RX7) (T := TX7) (N := 12) hx hb hts in_X7 tyX7 tyX7_ok nmX7 hown hK hP hD hS hT h_h0 rfl 10 (by decide) (hts _ kl_RX7_44) (fun _ h9 => h9) rfl (by decide +kernel) rfl rfl rfl ⟨_, rfl⟩ dX7_clear_66 hph (hy7 10 h0) (fun ws_11 H locs hT hP hD hS => ?_)
  refine lv_aload_n hx hb dX7_clear_69 rfl (lv_at hl 0 rfl) ?_
  refine lv_iconst (v := 0) hx hb dX7_clear_70 (by decide) ?_
  refine ty_put (v := .int 0) (ty := .int) (E := []) (ws := ws_11) (D := D) (ci := 7) (C := RX7) (T := TX7) (N := 12) hx hb hts in_X7 tyX7 tyX7_ok nmX7 hown hK hP hD hS hT h_h0 rfl 11 (by decide) (hts _ kl_RX7_47) (fun _ h9 => h9) rfl (by decide +kernel) rfl rfl rfl ⟨_, rfl⟩ dX7_clear_71 hph (hy7 11 h0) (fun ws_12 H locs hT hP hD hS => ?_)
  exact W.vret hx hb hr (fun t ht hW => ⟨⟨ws_12, rfl, hT, by rw [ht]; exact hP, by rw [hAe]; exact hD⟩, hS.F ht⟩) hS.2.2 dX7_clear_74
theorem dX7_copyFrom_0 : decode cX7_copyFrom 0 = .ok (.aload_n 0, 1) := by decide +kernel
theorem dX7_copyFrom_1 : decode cX7_copyFrom 1 = .ok (.aload_n 1, 1) := by decide +kernel
theorem dX7_copyFrom_2 : decode cX7_copyFrom 2 = .ok (.getfield 12, 3) := by decide +kernel
theorem dX7_copyFrom_5 : decode cX7_copyFrom 5 = .ok (.putfield 12, 3) := by decide +kernel
theorem dX7_copyFrom_8 : decode cX7_copyFrom 8 = .ok (.aload_n 0, 1) := by decide +kernel
theorem dX7_copyFrom_9 : decode cX7_copyFrom 9 = .ok (.aload_n 1, 1) := by decide +kernel
theorem dX7_copyFrom_10 : decode cX7_copyFrom 10 = .ok (.getfield 17, 3) := by decide +kernel
theorem dX7_copyFrom_13 : decode cX7_copyFrom 13 = .ok (.putfield 17, 3) := by decide +kernel
theorem dX7_copyFrom_16 : decode cX7_copyFrom 16 = .ok (.aload_n 0, 1) := by decide +kernel
theorem dX7_copyFrom_17 : decode cX7_copyFrom 17 = .ok (.aload_n 1, 1) := by decide +kernel
theorem dX7_copyFrom_18 : decode cX7_copyFrom 18 = .ok (.getfield 20, 3) := by decide +kernel
theorem dX7_copyFrom_21 : decode cX7_copyFrom 21 = .ok (.putfield 20, 3) := by decide +kernel
theorem dX7_copyFrom_24 : decode cX7_copyFrom 24 = .ok (.aload_n 0, 1) := by decide +kernel
theorem dX7_copyFrom_25 : decode cX7_copyFrom 25 = .ok (.aload_n 1, 1) := by decide +kernel
theorem dX7_copyFrom_26 : decode cX7_copyFrom 26 = .ok (.getfield 23, 3) := by decide +kernel
theorem dX7_copyFrom_29 : decode cX7_copyFrom 29 = .ok (.putfield 23, 3) := by decide +kernel
theorem dX7_copyFrom_32 : decode cX7_copyFrom 32 = .ok (.aload_n 0, 1) := by decide +kernel
theorem dX7_copyFrom_33 : decode cX7_copyFrom 33 = .ok (.aload_n 1, 1) := by decide +kernel
theorem dX7_copyFrom_34 : decode cX7_copyFrom 34 = .ok (.getfield 26, 3) := by decide +kernel
theorem dX7_copyFrom_37 : decode cX7_copyFrom 37 = .ok (.putfield 26, 3) := by decide +kernel
theorem dX7_copyFrom_40 : decode cX7_copyFrom 40 = .ok (.aload_n 0, 1) := by decide +kernel
theorem dX7_copyFrom_41 : decode cX7_copyFrom 41 = .ok (.aload_n 1, 1) := by decide +kernel
theorem dX7_copyFrom_42 : decode cX7_copyFrom 42 = .ok (.getfield 29, 3) := by decide +kernel
theorem dX7_copyFrom_45 : decode cX7_copyFrom 45 = .ok (.putfield 29, 3) := by decide +kernel
theorem dX7_copyFrom_48 : decode cX7_copyFrom 48 = .ok (.aload_n 0, 1) := by decide +kernel
theorem dX7_copyFrom_49 : decode cX7_copyFrom 49 = .ok (.aload_n 1, 1) := by decide +kernel
theorem dX7_copyFrom_50 : decode cX7_copyFrom 50 = .ok (.getfield 32, 3) := by decide +kernel
theorem dX7_copyFrom_53 : decode cX7_copyFrom 53 = .ok (.putfield 32, 3) := by decide +kernel
theorem dX7_copyFrom_56 : decode cX7_copyFrom 56 = .ok (.aload_n 0, 1) := by decide +kernel
theorem dX7_copyFrom_57 : decode cX7_copyFrom 57 = .ok (.aload_n 1, 1) := by decide +kernel
theorem dX7_copyFrom_58 : decode cX7_copyFrom 58 = .ok (.getfield 35, 3) := by decide +kernel
theorem dX7_copyFrom_61 : decode cX7_copyFrom 61 = .ok (.putfield 35, 3) := by decide +kernel
theorem dX7_copyFrom_64 : decode cX7_copyFrom 64 = .ok (.aload_n 0, 1) := by decide +kernel
theorem dX7_copyFrom_65 : decode cX7_copyFrom 65 = .ok (.aload_n 1, 1) := by decide +kernel
theorem dX7_copyFrom_66 : decode cX7_copyFrom 66 = .ok (.getfield 38, 3) := by decide +kernel
theorem dX7_copyFrom_69 : decode cX7_copyFrom 69 = .ok (.putfield 38, 3) := by decide +kernel
theorem dX7_copyFrom_72 : decode cX7_copyFrom 72 = .ok (.aload_n 0, 1) := by decide +kernel
theorem dX7_copyFrom_73 : decode cX7_copyFrom 73 = .ok (.aload_n 1, 1) := by decide +kernel
theorem dX7_copyFrom_74 : decode cX7_copyFrom 74 = .ok (.getfield 41, 3) := by decide +kernel
theorem dX7_copyFrom_77 : decode cX7_copyFrom 77 = .ok (.putfield 41, 3) := by decide +kernel
theorem dX7_copyFrom_80 : decode cX7_copyFrom 80 = .ok (.aload_n 0, 1) := by decide +kernel
theorem dX7_copyFrom_81 : decode cX7_copyFrom 81 = .ok (.aload_n 1, 1) := by decide +kernel
theorem dX7_copyFrom_82 : decode cX7_copyFrom 82 = .ok (.getfield 44, 3) := by decide +kernel
theorem dX7_copyFrom_85 : decode cX7_copyFrom 85 = .ok (.putfield 44, 3) := by decide +kernel
theorem dX7_copyFrom_88 : decode cX7_copyFrom 88 = .ok (.aload_n 0, 1) := by decide +kernel
theorem dX7_copyFrom_89 : decode cX7_copyFrom 89 = .ok (.aload_n 1, 1) := by decide +kernel
theorem dX7_copyFrom_90 : decode cX7_copyFrom 90 = .ok (.getfield 47, 3) := by decide +kernel
theorem dX7_copyFrom_93 : decode cX7_copyFrom 93 = .ok (.putfield 47, 3) := by decide +kernel
theorem dX7_copyFrom_96 : decode cX7_copyFrom 96 = .ok (.return_, 1) := by decide +kernel
set_option maxRecDepth 100000 in
set_option maxHeartbeats 4000000 in
theorem t_X7_copyFrom (l : Launch) (D : va_G) (ct : Nat → ClassId) (S : ty_S) (ws : va_W) (ph : va_W → Prop) (xx : Nat → Nat → Nat → Prop) (h0 : Nat) (p1 : Nat) (sz : Nat) (hT : ty_V ct S ph ws) (h_h0 : S h0 = some (.inl 7)) (h_p1 : S p1 = some (.inl 7)) (hph : ty_C ph xx) (hy1 : ty_y1 xx) (hy7 : ty_yc xx 7) : Met l yX7_copyFrom (ws_ yX7_copyFrom cX7_copyFrom 2 none) ({ frames := 0, cells := 0, slots := 0, locals := 0 } : Room) (va_Pc [.ref h0, .ref p1] (cmP D ct sz ([] ++ ws))) (va_Qv (fun (u9 : va_W) => ty_V ct S ph u9) (cmB D ([] ++ ws) sz (fun (u9 : va_W) => ([] ++ u9))) (va_A ([] ++ ws) sz)) 0 0 (va_A ([] ++ ws) sz) := by
  refine Met.ofW (cc := cX7_copyFrom) (maxL := 2) (ret := none) (by decide) rfl ?_
  intro p e s m args below meth c s₁ B hml hv
  obtain ⟨rfl, hsz, hP, hK, hD0, hX⟩ := hv
  have hx := B.exec
  have hb := B.bytes
  have hr := B.returns
  have hts := ws_all (atoms_spec (ws := ws_ yX7_copyFrom cX7_copyFrom 2 none) B.pre)
  have hown : s.vm.findClass RX7 = some m.cls := findClass_of_methodNamed B.named
  have hlocks := B.notSynchronized
  subst hsz
  have hD := hD0.self (sz := s.heap.size)
  generalize hAe : va_A ([] ++ ws) s.heap.size = A at hD hX ⊢
  have hA : ∀ q : Nat, s.heap.size ≤ q → A q := fun q h => by rw [← hAe]; exact Or.inr h
  have hS : va_S A s.heap s.heap [] := va_S.rf
  have hl := lv_entry ([.ref h0, .ref p1]) (n := 2) (Nat.le_of_ble_eq_true rfl)
  rw [lg_entry_eq]
  generalize (lg_sl ([.ref h0, .ref p1]) ++ List.replicate (2 - (lg_sl ([.ref h0, .ref p1])).length) Slot.unset).toArray = ls at hl ⊢
  have hl : lv_has ls 2 [(0, .ref h0), (1, .ref p1)] := hl
  refine lv_aload_n hx hb dX7_copyFrom_0 rfl (lv_at hl 0 rfl) ?_
  refine lv_aload_n hx hb dX7_copyFrom_1 rfl (lv_at hl 1 rfl) ?_
  refine ty_get (E := []) (ws := ws) (D := D) (ci := 7) (C := RX7) (T := TX7) (N := 12) hx hb hts in_X7 hown hK hP hT h_p1 rfl 0 (by decide) (hts _ kl_RX7_12) (fun _ h9 => h9) rfl dX7_copyFrom_2 (fun _ hv_1 hf_2 => ?_)
  obtain ⟨x_3, rfl⟩ := hv_1
  refine ty_put (v := .int x_3) (ty := .int) (E := []) (ws := ws) (D := D) (ci := 7) (C := RX7) (T := TX7) (N := 12) hx hb hts in_X7 tyX7 tyX7_ok nmX7 hown hK hP hD hS hT h_h0 rfl 0 (by decide) (hts _ kl_RX7_12) (fun _ h9 => h9) rfl (by decide +kernel) rfl rfl rfl ⟨_, rfl⟩ dX7_copyFrom_5 hph (hy7 0 h0) (fun ws_4 H locs hT hP hD hS => ?_)
  refine lv_aload_n hx hb dX7_copyFrom_8 rfl (lv_at hl 0 rfl) ?_
  refine lv_aload_n hx hb dX7_copyFrom_9 rfl (lv_at hl 1 rfl) ?_
  refine ty_get (E := []) (ws := ws_4) (D := D) (ci := 7) (C := RX7) (T := TX7) (N := 12) hx hb hts in_X7 hown hK hP hT h_p1 rfl 1 (by decide) (hts _ kl_RX7_17) (fun _ h9 => h9) rfl dX7_copyFrom_10 (fun _ hv_5 hf_6 => ?_)
  obtain ⟨x_7, rfl⟩ := hv_5
  refine ty_put (v := .int x_7) (ty := .int) (E := []) (ws := ws_4) (D := D) (ci := 7) (C := RX7) (T := TX7) (N := 12) hx hb hts in_X7 tyX7 tyX7_ok nmX7 hown hK hP hD hS hT h_h0 rfl 1 (by decide) (hts _ kl_RX7_17) (fun _ h9 => h9) rfl (by decide +kernel) rfl rfl rfl ⟨_, rfl⟩ dX7_copyFrom_13 hph (hy7 1 h0) (fun ws_8 H locs hT hP hD hS => ?_)
  refine lv_aload_n hx hb dX7_copyFrom_16 rfl (lv_at hl 0 rfl) ?_
  refine lv_aload_n hx hb dX7_copyFrom_17 rfl (lv_at hl 1 rfl) ?_
  refine ty_get (E := []) (ws := ws_8) (D := D) (ci := 7) (C := RX7) (T := TX7) (N := 12) hx hb hts in_X7 hown hK hP hT h_p1 rfl 2 (by decide) (hts _ kl_RX7_20) (fun _ h9 => h9) rfl dX7_copyFrom_18 (fun _ hv_9 hf_10 => ?_)
  obtain ⟨x_11, rfl⟩ := hv_9
  refine ty_put (v := .int x_11) (ty := .int) (E := []) (ws := ws_8) (D := D) (ci := 7) (C := RX7) (T := TX7) (N := 12) hx hb hts in_X7 tyX7 tyX7_ok nmX7 hown hK hP hD hS hT h_h0 rfl 2 (by decide) (hts _ kl_RX7_20) (fun _ h9 => h9) rfl (by decide +kernel) rfl rfl rfl ⟨_, rfl⟩ dX7_copyFrom_21 hph (hy7 2 h0) (fun ws_12 H locs hT hP hD hS => ?_)
  refine lv_aload_n hx hb dX7_copyFrom_24 rfl (lv_at hl 0 rfl) ?_
  refine lv_aload_n hx hb dX7_copyFrom_25 rfl (lv_at hl 1 rfl) ?_
  refine ty_get (E := []) (ws := ws_12) (D := D) (ci := 7) (C := RX7) (T := TX7) (N := 12) hx hb hts in_X7 hown hK hP hT h_p1 rfl 3 (by decide) (hts _ kl_RX7_23) (fun _ h9 => h9) rfl dX7_copyFrom_26 (fun _ hv_13 hf_14 => ?_)
  obtain ⟨x_15, rfl⟩ := hv_13
  refine ty_put (v := .int x_15) (ty := .int) (E := []) (ws := ws_12) (D := D) (ci := 7) (C := RX7) (T := TX7) (N := 12) hx hb hts in_X7 tyX7 tyX7_ok nmX7 hown hK hP hD hS hT h_h0 rfl 3 (by decide) (hts _ kl_RX7_23) (fun _ h9 => h9) rfl (by decide +kernel) rfl rfl rfl ⟨_, rfl⟩ dX7_copyFrom_29 hph (hy7 3 h0) (fun ws_16 H locs hT hP hD hS => ?_)
  refine lv_aload_n hx hb dX7_copyFrom_32 rfl (lv_at hl 0 rfl) ?_
  refine lv_aload_n hx hb dX7_copyFrom_33 rfl (lv_at hl 1 rfl) ?_
  refine ty_get (E := []) (ws := ws_16) (D := D) (ci := 7) (C := RX7) (T := TX7) (N := 12) hx hb hts in_X7 hown hK hP hT h_p1 rfl 4 (by decide) (hts _ kl_RX7_26) (fun _ h9 => h9) rfl dX7_copyFrom_34 (fun _ hv_17 hf_18 => ?_)
  obtain ⟨x_19, rfl⟩ := hv_17
  refine ty_put (v := .int x_19) (ty := .int) (E := []) (ws := ws_16) (D := D) (ci := 7) (C := RX7) (T := TX7) (N := 12) hx hb hts in_X7 tyX7 tyX7_ok nmX7 hown hK hP hD hS hT h_h0 rfl 4 (by decide) (hts _ kl_RX7_26) (fun _ h9 => h9) rfl (by decide +kernel) rfl rfl rfl ⟨_, rfl⟩ dX7_copyFrom_37 hph (hy7 4 h0) (fun ws_20 H locs hT hP hD hS => ?_)
  refine lv_aload_n hx hb dX7_copyFrom_40 rfl (lv_at hl 0 rfl) ?_
  refine lv_aload_n hx hb dX7_copyFrom_41 rfl (lv_at hl 1 rfl) ?_
  refine ty_get (E := []) (ws := ws_20) (D := D) (ci := 7) (C := RX7) (T := TX7) (N := 12) hx hb hts in_X7 hown hK hP hT h_p1 rfl 5 (by decide) (hts _ kl_RX7_29) (fun _ h9 => h9) rfl dX7_copyFrom_42 (fun _ hv_21 hf_22 => ?_)
  obtain ⟨x_23, rfl⟩ := hv_21
  refine ty_put (v := .int x_23) (ty := .int) (E := []) (ws := ws_20) (D := D) (ci := 7) (C := RX7) (T := TX7) (N := 12) hx hb hts in_X7 tyX7 tyX7_ok nmX7 hown hK hP hD hS hT h_h0 rfl 5 (by decide) (hts _ kl_RX7_29) (fun _ h9 => h9) rfl (by decide +kernel) rfl rfl rfl ⟨_, rfl⟩ dX7_copyFrom_45 hph (hy7 5 h0) (fun ws_24 H locs hT hP hD hS => ?_)
  refine lv_aload_n hx hb dX7_copyFrom_48 rfl (lv_at hl 0 rfl) ?_
  refine lv_aload_n hx hb dX7_copyFrom_49 rfl (lv_at hl 1 rfl) ?_
  refine ty_get (E := []) (ws := ws_24) (D := D) (ci := 7) (C := RX7) (T := TX7) (N := 12) hx hb hts in_X7 hown hK hP hT h_p1 rfl 6 (by decide) (hts _ kl_RX7_32) (fun _ h9 => h9) rfl dX7_copyFrom_50 (fun _ hv_25 hf_26 => ?_)
  obtain ⟨x_27, rfl⟩ := hv_25
  refine ty_put (v := .int x_27) (ty := .int) (E := []) (ws := ws_24) (D := D) (ci := 7) (C := RX7) (T := TX7) (N := 12) hx hb hts in_X7 tyX7 tyX7_ok nmX7 hown hK hP hD hS hT h_h0 rfl 6 (by decide) (hts _ kl_RX7_32) (fun _ h9 => h9) rfl (by decide +kernel) rfl rfl rfl ⟨_, rfl⟩ dX7_copyFrom_53 hph (hy7 6 h0) (fun ws_28 H locs hT hP hD hS => ?_)
  refine lv_aload_n hx hb dX7_copyFrom_56 rfl (lv_at hl 0 rfl) ?_
  refine lv_aload_n hx hb dX7_copyFrom_57 rfl (lv_at hl 1 rfl) ?_
  refine ty_get (E := []) (ws := ws_28) (D := D) (ci := 7) (C := RX7) (T := TX7) (N := 12) hx hb hts in_X7 hown hK hP hT h_p1 rfl 7 (by decide) (hts _ kl_RX7_35) (fun _ h9 => h9) rfl dX7_copyFrom_58 (fun _ hv_29 hf_30 => ?_)
  obtain ⟨x_31, rfl⟩ := hv_29
  refine ty_put (v := .int x_31) (ty := .int) (E := []) (ws := ws_28) (D := D) (ci := 7) (C := RX7) (T := TX7) (N := 12) hx hb hts in_X7 tyX7 tyX7_ok nmX7 hown hK hP hD hS hT h_h0 rfl 7 (by decide) (hts _ kl_RX7_35) (fun _ h9 => h9) rfl (by decide +kernel) rfl rfl rfl ⟨_, rfl⟩ dX7_copyFrom_61 hph (hy7 7 h0) (fun ws_32 H locs hT hP hD hS => ?_)
  refine lv_aload_n hx hb dX7_copyFrom_64 rfl (lv_at hl 0 rfl) ?_
  refine lv_aload_n hx hb dX7_copyFrom_65 rfl (lv_at hl 1 rfl) ?_
  refine ty_get (E := []) (ws := ws_32) (D := D) (ci := 7) (C := RX7) (T := TX7) (N := 12) hx hb hts in_X7 hown hK hP hT h_p1 rfl 8 (by decide) (hts _ kl_RX7_38) (fun _ h9 => h9) rfl dX7_copyFrom_66 (fun _ hv_33 hf_34 => ?_)
  obtain ⟨x_35, rfl⟩ := hv_33
  refine ty_put (v := .int x_35) (ty := .int) (E := []) (ws := ws_32) (D := D) (ci := 7) (C := RX7) (T := TX7) (N := 12) hx hb hts in_X7 tyX7 tyX7_ok nmX7 hown hK hP hD hS hT h_h0 rfl 8 (by decide) (hts _ kl_RX7_38) (fun _ h9 => h9) rfl (by decide +kernel) rfl rfl rfl ⟨_, rfl⟩ dX7_copyFrom_69 hph (hy7 8 h0) (fun ws_36 H locs hT hP hD hS => ?_)
  refine lv_aload_n hx hb dX7_copyFrom_72 rfl (lv_at hl 0 rfl) ?_
  refine lv_aload_n hx hb dX7_copyFrom_73 rfl (lv_at hl 1 rfl) ?_
  refine ty_get (E := []) (ws := ws_36) (D := D) (ci := 7) (C := RX7) (T := TX7) (N := 12) hx hb hts in_X7 hown hK hP hT h_p1 rfl 9 (by decide) (hts _ kl_RX7_41) (fun _ h9 => h9) rfl dX7_copyFrom_74 (fun _ hv_37 hf_38 => ?_)
  obtain ⟨x_39, rfl⟩ := hv_37
  refine ty_put (v := .int x_39) (ty := .int) (E := []) (ws := ws_36) (D := D) (ci := 7) (C := RX7) (T := TX7) (N := 12) hx hb hts in_X7 tyX7 tyX7_ok nmX7 hown hK hP hD hS hT h_h0 rfl 9 (by decide) (hts _ kl_RX7_41) (fun _ h9 => h9) rfl (by decide +kernel) rfl rfl rfl ⟨_, rfl⟩ dX7_copyFrom_77 hph (hy7 9 h0) (fun ws_40 H locs hT hP hD hS => ?_)
  refine lv_aload_n hx hb dX7_copyFrom_80 rfl (lv_at hl 0 rfl) ?_
  refine lv_aload_n hx hb dX7_copyFrom_81 rfl (lv_at hl 1 rfl) ?_
  refine ty_get (E := []) (ws := ws_40) (D := D) (ci := 7) (C := RX7) (T := TX7) (N := 12) hx hb hts in_X7 hown hK hP hT h_p1 rfl 10 (by decide) (hts _ kl_RX7_44) (fun _ h9 => h9) rfl dX7_copyFrom_82 (fun _ hv_41 hf_42 => ?_)
  obtain ⟨x_43, rfl⟩ := hv_41
  refine ty_put (v := .int x_43) (ty := .int) (E := []) (ws := ws_40) (D := D) (ci := 7) (C := RX7) (T := TX7) (N := 12) hx hb hts in_X7 tyX7 tyX7_ok nmX7 hown hK hP hD hS hT h_h0 rfl 10 (by decide) (hts _ kl_RX7_44) (fun _ h9 => h9) rfl (by decide +kernel) rfl rfl rfl ⟨_, rfl⟩ dX7_copyFrom_85 hph (hy7 10 h0) (fun ws_44 H locs hT hP hD hS => ?_)
  refine lv_aload_n hx hb dX7_copyFrom_88 rfl (lv_at hl 0 rfl) ?_
  refine lv_aload_n hx hb dX7_copyFrom_89 rfl (lv_at hl 1 rfl) ?_
  refine ty_get (E := []) (ws := ws_44) (D := D) (ci := 7) (C := RX7) (T := TX7) (N := 12) hx hb hts in_X7 hown hK hP hT h_p1 rfl 11 (by decide) (hts _ kl_RX7_47) (fun _ h9 => h9) rfl dX7_copyFrom_90 (fun _ hv_45 hf_46 => ?_)
  obtain ⟨x_47, rfl⟩ := hv_45
  refine ty_put (v := .int x_47) (ty := .int) (E := []) (ws := ws_44) (D := D) (ci := 7) (C := RX7) (T := TX7) (N := 12) hx hb hts in_X7 tyX7 tyX7_ok nmX7 hown hK hP hD hS hT h_h0 rfl 11 (by decide) (hts _ kl_RX7_47) (fun _ h9 => h9) rfl (by decide +kernel) rfl rfl rfl ⟨_, rfl⟩ dX7_copyFrom_93 hph (hy7 11 h0) (fun ws_48 H locs hT hP hD hS => ?_)
  exact W.vret hx hb hr (fun t ht hW => ⟨⟨ws_48, rfl, hT, by rw [ht]; exact hP, by rw [hAe]; exact hD⟩, hS.F ht⟩) hS.2.2 dX7_copyFrom_96
theorem dX8_clear_0 : decode cX8_clear 0 = .ok (.aload_n 0, 1) := by decide +kernel
theorem dX8_clear_1 : decode cX8_clear 1 = .ok (.iconst 0, 1) := by decide +kernel
theorem dX8_clear_2 : decode cX8_clear 2 = .ok (.putfield 26, 3) := by decide +kernel
theorem dX8_clear_5 : decode cX8_clear 5 = .ok (.aload_n 0, 1) := by decide +kernel
theorem dX8_clear_6 : decode cX8_clear 6 = .ok (.iconst 0, 1) := by decide +kernel
theorem dX8_clear_7 : decode cX8_clear 7 = .ok (.putfield 29, 3) := by decide +kernel
theorem dX8_clear_10 : decode cX8_clear 10 = .ok (.return_, 1) := by decide +kernel
set_option maxRecDepth 100000 in
set_option maxHeartbeats 4000000 in
theorem t_X8_clear (l : Launch) (D : va_G) (ct : Nat → ClassId) (S : ty_S) (ws : va_W) (ph : va_W → Prop) (xx : Nat → Nat → Nat → Prop) (h0 : Nat) (sz : Nat) (hT : ty_V ct S ph ws) (h_h0 : S h0 = some (.inl 8)) (hph : ty_C ph xx) (hy1 : ty_y1 xx) : Met l yX8_clear (ws_ yX8_clear cX8_clear 1 none) ({ frames := 0, cells := 0, slots := 0, locals := 0 } : Room) (va_Pc [.ref h0] (cmP D ct sz ([] ++ ws))) (va_Qv (fun (u9 : va_W) => ty_V ct S ph u9) (cmB D ([] ++ ws) sz (fun (u9 : va_W) => ([] ++ u9))) (va_A ([] ++ ws) sz)) 0 0 (va_A ([] ++ ws) sz) := by
  refine Met.ofW (cc := cX8_clear) (maxL := 1) (ret := none) (by decide) rfl ?_
  intro p e s m args below meth c s₁ B hml hv
  obtain ⟨rfl, hsz, hP, hK, hD0, hX⟩ := hv
  have hx := B.exec
  have hb := B.bytes
  have hr := B.returns
  have hts := ws_all (atoms_spec (ws := ws_ yX8_clear cX8_clear 1 none) B.pre)
  have hown : s.vm.findClass RX8 = some m.cls := findClass_of_methodNamed B.named
  have hlocks := B.notSynchronized
  subst hsz
  have hD := hD0.self (sz := s.heap.size)
  generalize hAe : va_A ([] ++ ws) s.heap.size = A at hD hX ⊢
  have hA : ∀ q : Nat, s.heap.size ≤ q → A q := fun q h => by rw [← hAe]; exact Or.inr h
  have hS : va_S A s.heap s.heap [] := va_S.rf
  have hl := lv_entry ([.ref h0]) (n := 1) (Nat.le_of_ble_eq_true rfl)
  rw [lg_entry_eq]
  generalize (lg_sl ([.ref h0]) ++ List.replicate (1 - (lg_sl ([.ref h0])).length) Slot.unset).toArray = ls at hl ⊢
  have hl : lv_has ls 1 [(0, .ref h0)] := hl
  refine lv_aload_n hx hb dX8_clear_0 rfl (lv_at hl 0 rfl) ?_
  refine lv_iconst (v := 0) hx hb dX8_clear_1 (by decide) ?_
  refine ty_put (v := .int 0) (ty := .int) (E := []) (ws := ws) (D := D) (ci := 8) (C := RX8) (T := TX8) (N := 5) hx hb hts in_X8 tyX8 tyX8_ok nmX8 hown hK hP hD hS hT h_h0 rfl 3 (by decide) (hts _ kl_RX8_26) (fun _ h9 => h9) rfl (by decide +kernel) rfl rfl rfl ⟨_, rfl⟩ dX8_clear_2 hph (hy1 8 3 h0 rfl) (fun ws_1 H locs hT hP hD hS => ?_)
  refine lv_aload_n hx hb dX8_clear_5 rfl (lv_at hl 0 rfl) ?_
  refine lv_iconst (v := 0) hx hb dX8_clear_6 (by decide) ?_
  refine ty_put (v := .int 0) (ty := .int) (E := []) (ws := ws_1) (D := D) (ci := 8) (C := RX8) (T := TX8) (N := 5) hx hb hts in_X8 tyX8 tyX8_ok nmX8 hown hK hP hD hS hT h_h0 rfl 4 (by decide) (hts _ kl_RX8_29) (fun _ h9 => h9) rfl (by decide +kernel) rfl rfl rfl ⟨_, rfl⟩ dX8_clear_7 hph (hy1 8 4 h0 rfl) (fun ws_2 H locs hT hP hD hS => ?_)
  exact W.vret hx hb hr (fun t ht hW => ⟨⟨ws_2, rfl, hT, by rw [ht]; exact hP, by rw [hAe]; exact hD⟩, hS.F ht⟩) hS.2.2 dX8_clear_10
theorem dX8_addRow_0 : decode cX8_addRow 0 = .ok (.aload_n 0, 1) := by decide +kernel
theorem dX8_addRow_1 : decode cX8_addRow 1 = .ok (.getfield 29, 3) := by decide +kernel
theorem dX8_addRow_4 : decode cX8_addRow 4 = .ok (.aload_n 0, 1) := by decide +kernel
theorem dX8_addRow_5 : decode cX8_addRow 5 = .ok (.getfield 13, 3) := by decide +kernel
theorem dX8_addRow_8 : decode cX8_addRow 8 = .ok (.if_icmp .ge 16, 3) := by decide +kernel
theorem dX8_addRow_11 : decode cX8_addRow 11 = .ok (.aload_n 0, 1) := by decide +kernel
theorem dX8_addRow_12 : decode cX8_addRow 12 = .ok (.dup, 1) := by decide +kernel
theorem dX8_addRow_13 : decode cX8_addRow 13 = .ok (.getfield 29, 3) := by decide +kernel
theorem dX8_addRow_16 : decode cX8_addRow 16 = .ok (.iconst 1, 1) := by decide +kernel
theorem dX8_addRow_17 : decode cX8_addRow 17 = .ok (.iadd, 1) := by decide +kernel
theorem dX8_addRow_18 : decode cX8_addRow 18 = .ok (.putfield 29, 3) := by decide +kernel
theorem dX8_addRow_21 : decode cX8_addRow 21 = .ok (.goto 30, 3) := by decide +kernel
theorem dX8_addRow_24 : decode cX8_addRow 24 = .ok (.aload_n 0, 1) := by decide +kernel
theorem dX8_addRow_25 : decode cX8_addRow 25 = .ok (.aload_n 0, 1) := by decide +kernel
theorem dX8_addRow_26 : decode cX8_addRow 26 = .ok (.getfield 26, 3) := by decide +kernel
theorem dX8_addRow_29 : decode cX8_addRow 29 = .ok (.iconst 1, 1) := by decide +kernel
theorem dX8_addRow_30 : decode cX8_addRow 30 = .ok (.iadd, 1) := by decide +kernel
theorem dX8_addRow_31 : decode cX8_addRow 31 = .ok (.aload_n 0, 1) := by decide +kernel
theorem dX8_addRow_32 : decode cX8_addRow 32 = .ok (.getfield 13, 3) := by decide +kernel
theorem dX8_addRow_35 : decode cX8_addRow 35 = .ok (.if_icmp .ge 12, 3) := by decide +kernel
theorem dX8_addRow_38 : decode cX8_addRow 38 = .ok (.aload_n 0, 1) := by decide +kernel
theorem dX8_addRow_39 : decode cX8_addRow 39 = .ok (.getfield 26, 3) := by decide +kernel
theorem dX8_addRow_42 : decode cX8_addRow 42 = .ok (.iconst 1, 1) := by decide +kernel
theorem dX8_addRow_43 : decode cX8_addRow 43 = .ok (.iadd, 1) := by decide +kernel
theorem dX8_addRow_44 : decode cX8_addRow 44 = .ok (.goto 4, 3) := by decide +kernel
theorem dX8_addRow_47 : decode cX8_addRow 47 = .ok (.iconst 0, 1) := by decide +kernel
theorem dX8_addRow_48 : decode cX8_addRow 48 = .ok (.putfield 26, 3) := by decide +kernel
theorem dX8_addRow_51 : decode cX8_addRow 51 = .ok (.return_, 1) := by decide +kernel
set_option maxRecDepth 100000 in
set_option maxHeartbeats 4000000 in
theorem t_X8_addRow (l : Launch) (D : va_G) (ct : Nat → ClassId) (S : ty_S) (ws : va_W) (ph : va_W → Prop) (xx : Nat → Nat → Nat → Prop) (h0 : Nat) (sz : Nat) (hT : ty_V ct S ph ws) (h_h0 : S h0 = some (.inl 8)) (hph : ty_C ph xx) (hy1 : ty_y1 xx) : Met l yX8_addRow (ws_ yX8_addRow cX8_addRow 1 none) ({ frames := 0, cells := 0, slots := 0, locals := 0 } : Room) (va_Pc [.ref h0] (cmP D ct sz ([] ++ ws))) (va_Qv (fun (u9 : va_W) => ty_V ct S ph u9) (cmB D ([] ++ ws) sz (fun (u9 : va_W) => ([] ++ u9))) (va_A ([] ++ ws) sz)) 0 0 (va_A ([] ++ ws) sz) := by
  refine Met.ofW (cc := cX8_addRow) (maxL := 1) (ret := none) (by decide) rfl ?_
  intro p e s m args below meth c s₁ B hml hv
  obtain ⟨rfl, hsz, hP, hK, hD0, hX⟩ := hv
  have hx := B.exec
  have hb := B.bytes
  have hr := B.returns
  have hts := ws_all (atoms_spec (ws := ws_ yX8_addRow cX8_addRow 1 none) B.pre)
  have hown : s.vm.findClass RX8 = some m.cls := findClass_of_methodNamed B.named
  have hlocks := B.notSynchronized
  subst hsz
  have hD := hD0.self (sz := s.heap.size)
  generalize hAe : va_A ([] ++ ws) s.heap.size = A at hD hX ⊢
  have hA : ∀ q : Nat, s.heap.size ≤ q → A q := fun q h => by rw [← hAe]; exact Or.inr h
  have hS : va_S A s.heap s.heap [] := va_S.rf
  have hl := lv_entry ([.ref h0]) (n := 1) (Nat.le_of_ble_eq_true rfl)
  rw [lg_entry_eq]
  generalize (lg_sl ([.ref h0]) ++ List.replicate (1 - (lg_sl ([.ref h0])).length) Slot.unset).toArray = ls at hl ⊢
  have hl : lv_has ls 1 [(0, .ref h0)] := hl
  refine lv_aload_n hx hb dX8_addRow_0 rfl (lv_at hl 0 rfl) ?_
  refine ty_get (E := []) (ws := ws) (D := D) (ci := 8) (C := RX8) (T := TX8) (N := 5) hx hb hts in_X8 hown hK hP hT h_h0 rfl 4 (by decide) (hts _ kl_RX8_29) (fun _ h9 => h9) rfl dX8_addRow_1 (fun _ hv_1 hf_2 => ?_)
  obtain ⟨x_3, rfl⟩ := hv_1
  refine lv_aload_n hx hb dX8_addRow_4 rfl (lv_at hl 0 rfl) ?_
  refine ty_get (E := []) (ws := ws) (D := D) (ci := 8) (C := RX8) (T := TX8) (N := 5) hx hb hts in_X8 hown hK hP hT h_h0 rfl 0 (by decide) (hts _ kl_RX8_13) (fun _ h9 => h9) rfl dX8_addRow_5 (fun _ hv_4 hf_5 => ?_)
  obtain ⟨x_6, rfl⟩ := hv_4
  refine lv_icmp_ge (tgt := 24) hx hb dX8_addRow_8 (by decide) (fun hc_7 => ?_) (fun hc_7 => ?_)
  · refine lv_aload_n hx hb dX8_addRow_24 rfl (lv_at hl 0 rfl) ?_
    refine lv_aload_n hx hb dX8_addRow_25 rfl (lv_at hl 0 rfl) ?_
    refine ty_get (E := []) (ws := ws) (D := D) (ci := 8) (C := RX8) (T := TX8) (N := 5) hx hb hts in_X8 hown hK hP hT h_h0 rfl 3 (by decide) (hts _ kl_RX8_26) (fun _ h9 => h9) rfl dX8_addRow_26 (fun _ hv_8 hf_9 => ?_)
    obtain ⟨x_10, rfl⟩ := hv_8
    refine lv_iconst (v := 1) hx hb dX8_addRow_29 (by decide) ?_
    refine lv_iadd hx hb dX8_addRow_30 ?_
    refine lv_topi (fun x_11 _ => ?_)
    refine lv_aload_n hx hb dX8_addRow_31 rfl (lv_at hl 0 rfl) ?_
    refine ty_get (E := []) (ws := ws) (D := D) (ci := 8) (C := RX8) (T := TX8) (N := 5) hx hb hts in_X8 hown hK hP hT h_h0 rfl 0 (by decide) (hts _ kl_RX8_13) (fun _ h9 => h9) rfl dX8_addRow_32 (fun _ hv_12 hf_13 => ?_)
    obtain ⟨x_14, rfl⟩ := hv_12
    refine lv_icmp_ge (tgt := 47) hx hb dX8_addRow_35 (by decide) (fun hc_15 => ?_) (fun hc_15 => ?_)
    · refine lv_iconst (v := 0) hx hb dX8_addRow_47 (by decide) ?_
      refine ty_put (v := .int 0) (ty := .int) (E := []) (ws := ws) (D := D) (ci := 8) (C := RX8) (T := TX8) (N := 5) hx hb hts in_X8 tyX8 tyX8_ok nmX8 hown hK hP hD hS hT h_h0 rfl 3 (by decide) (hts _ kl_RX8_26) (fun _ h9 => h9) rfl (by decide +kernel) rfl rfl rfl ⟨_, rfl⟩ dX8_addRow_48 hph (hy1 8 3 h0 rfl) (fun ws_16 H locs hT hP hD hS => ?_)
      exact W.vret hx hb hr (fun t ht hW => ⟨⟨ws_16, rfl, hT, by rw [ht]; exact hP, by rw [hAe]; exact hD⟩, hS.F ht⟩) hS.2.2 dX8_addRow_51
    · refine lv_aload_n hx hb dX8_addRow_38 rfl (lv_at hl 0 rfl) ?_
      refine ty_get (E := []) (ws := ws) (D := D) (ci := 8) (C := RX8) (T := TX8) (N := 5) hx hb hts in_X8 hown hK hP hT h_h0 rfl 3 (by decide) (hts _ kl_RX8_26) (fun _ h9 => h9) rfl dX8_addRow_39 (fun _ hv_17 hf_18 => ?_)
      obtain ⟨x_19, rfl⟩ := hv_17
      refine lv_iconst (v := 1) hx hb dX8_addRow_42 (by decide) ?_
      refine lv_iadd hx hb dX8_addRow_43 ?_
      refine lv_topi (fun x_20 _ => ?_)
      refine lv_goto (tgt := 48) hx hb dX8_addRow_44 (by decide) ?_
      refine ty_put (v := .int x_20) (ty := .int) (E := []) (ws := ws) (D := D) (ci := 8) (C := RX8) (T := TX8) (N := 5) hx hb hts in_X8 tyX8 tyX8_ok nmX8 hown hK hP hD hS hT h_h0 rfl 3 (by decide) (hts _ kl_RX8_26) (fun _ h9 => h9) rfl (by decide +kernel) rfl rfl rfl ⟨_, rfl⟩ dX8_addRow_48 hph (hy1 8 3 h0 rfl) (fun ws_21 H locs hT hP hD hS => ?_)
      exact W.vret hx hb hr (fun t ht hW => ⟨⟨ws_21, rfl, hT, by rw [ht]; exact hP, by rw [hAe]; exact hD⟩, hS.F ht⟩) hS.2.2 dX8_addRow_51
  · refine lv_aload_n hx hb dX8_addRow_11 rfl (lv_at hl 0 rfl) ?_
    refine lv_dup hx hb dX8_addRow_12 rfl ?_
    refine ty_get (E := []) (ws := ws) (D := D) (ci := 8) (C := RX8) (T := TX8) (N := 5) hx hb hts in_X8 hown hK hP hT h_h0 rfl 4 (by decide) (hts _ kl_RX8_29) (fun _ h9 => h9) rfl dX8_addRow_13 (fun _ hv_22 hf_23 => ?_)
    obtain ⟨x_24, rfl⟩ := hv_22
    refine lv_iconst (v := 1) hx hb dX8_addRow_16 (by decide) ?_
    refine lv_iadd hx hb dX8_addRow_17 ?_
    refine lv_topi (fun x_25 _ => ?_)
    refine ty_put (v := .int x_25) (ty := .int) (E := []) (ws := ws) (D := D) (ci := 8) (C := RX8) (T := TX8) (N := 5) hx hb hts in_X8 tyX8 tyX8_ok nmX8 hown hK hP hD hS hT h_h0 rfl 4 (by decide) (hts _ kl_RX8_29) (fun _ h9 => h9) rfl (by decide +kernel) rfl rfl rfl ⟨_, rfl⟩ dX8_addRow_18 hph (hy1 8 4 h0 rfl) (fun ws_26 H locs hT hP hD hS => ?_)
    refine lv_goto (tgt := 51) hx hb dX8_addRow_21 (by decide) ?_
    exact W.vret hx hb hr (fun t ht hW => ⟨⟨ws_26, rfl, hT, by rw [ht]; exact hP, by rw [hAe]; exact hD⟩, hS.F ht⟩) hS.2.2 dX8_addRow_51
theorem dX8_placeOf_0 : decode cX8_placeOf 0 = .ok (.aload_n 0, 1) := by decide +kernel
theorem dX8_placeOf_1 : decode cX8_placeOf 1 = .ok (.getfield 26, 3) := by decide +kernel
theorem dX8_placeOf_4 : decode cX8_placeOf 4 = .ok (.iload_n 1, 1) := by decide +kernel
theorem dX8_placeOf_5 : decode cX8_placeOf 5 = .ok (.iadd, 1) := by decide +kernel
theorem dX8_placeOf_6 : decode cX8_placeOf 6 = .ok (.istore_n 2, 1) := by decide +kernel
theorem dX8_placeOf_7 : decode cX8_placeOf 7 = .ok (.iload_n 2, 1) := by decide +kernel
theorem dX8_placeOf_8 : decode cX8_placeOf 8 = .ok (.aload_n 0, 1) := by decide +kernel
theorem dX8_placeOf_9 : decode cX8_placeOf 9 = .ok (.getfield 13, 3) := by decide +kernel
theorem dX8_placeOf_12 : decode cX8_placeOf 12 = .ok (.if_icmp .ge 7, 3) := by decide +kernel
theorem dX8_placeOf_15 : decode cX8_placeOf 15 = .ok (.iload_n 2, 1) := by decide +kernel
theorem dX8_placeOf_16 : decode cX8_placeOf 16 = .ok (.goto 9, 3) := by decide +kernel
theorem dX8_placeOf_19 : decode cX8_placeOf 19 = .ok (.iload_n 2, 1) := by decide +kernel
theorem dX8_placeOf_20 : decode cX8_placeOf 20 = .ok (.aload_n 0, 1) := by decide +kernel
theorem dX8_placeOf_21 : decode cX8_placeOf 21 = .ok (.getfield 13, 3) := by decide +kernel
theorem dX8_placeOf_24 : decode cX8_placeOf 24 = .ok (.isub, 1) := by decide +kernel
theorem dX8_placeOf_25 : decode cX8_placeOf 25 = .ok (.aload_n 0, 1) := by decide +kernel
theorem dX8_placeOf_26 : decode cX8_placeOf 26 = .ok (.getfield 19, 3) := by decide +kernel
theorem dX8_placeOf_29 : decode cX8_placeOf 29 = .ok (.imul, 1) := by decide +kernel
theorem dX8_placeOf_30 : decode cX8_placeOf 30 = .ok (.ireturn, 1) := by decide +kernel
set_option maxRecDepth 100000 in
set_option maxHeartbeats 4000000 in
theorem t_X8_placeOf (l : Launch) (D : va_G) (ct : Nat → ClassId) (S : ty_S) (ws : va_W) (ph : va_W → Prop) (xx : Nat → Nat → Nat → Prop) (h0 : Nat) (p1 : Int32) (sz : Nat) (hT : ty_V ct S ph ws) (h_h0 : S h0 = some (.inl 8)) (hph : ty_C ph xx) (hy1 : ty_y1 xx) : Met l yX8_placeOf (ws_ yX8_placeOf cX8_placeOf 3 (some .int)) ({ frames := 0, cells := 0, slots := 0, locals := 0 } : Room) (va_Pc [.ref h0, .int p1] (cmP D ct sz ([] ++ ws))) (va_Qi (fun (r : Int32) (u9 : va_W) => ty_V ct S ph u9) (cmB D ([] ++ ws) sz (fun (u9 : va_W) => ([] ++ u9))) (va_A ([] ++ ws) sz)) 0 0 (va_A ([] ++ ws) sz) := by
  refine Met.ofW (cc := cX8_placeOf) (maxL := 3) (ret := (some .int)) (by decide) rfl ?_
  intro p e s m args below meth c s₁ B hml hv
  obtain ⟨rfl, hsz, hP, hK, hD0, hX⟩ := hv
  have hx := B.exec
  have hb := B.bytes
  have hr := B.returns
  have hts := ws_all (atoms_spec (ws := ws_ yX8_placeOf cX8_placeOf 3 (some .int)) B.pre)
  have hown : s.vm.findClass RX8 = some m.cls := findClass_of_methodNamed B.named
  have hlocks := B.notSynchronized
  subst hsz
  have hD := hD0.self (sz := s.heap.size)
  generalize hAe : va_A ([] ++ ws) s.heap.size = A at hD hX ⊢
  have hA : ∀ q : Nat, s.heap.size ≤ q → A q := fun q h => by rw [← hAe]; exact Or.inr h
  have hS : va_S A s.heap s.heap [] := va_S.rf
  have hl := lv_entry ([.ref h0, .int p1]) (n := 3) (Nat.le_of_ble_eq_true rfl)
  rw [lg_entry_eq]
  generalize (lg_sl ([.ref h0, .int p1]) ++ List.replicate (3 - (lg_sl ([.ref h0, .int p1])).length) Slot.unset).toArray = ls at hl ⊢
  have hl : lv_has ls 3 [(0, .ref h0), (1, .int p1)] := hl
  refine lv_aload_n hx hb dX8_placeOf_0 rfl (lv_at hl 0 rfl) ?_
  refine ty_get (E := []) (ws := ws) (D := D) (ci := 8) (C := RX8) (T := TX8) (N := 5) hx hb hts in_X8 hown hK hP hT h_h0 rfl 3 (by decide) (hts _ kl_RX8_26) (fun _ h9 => h9) rfl dX8_placeOf_1 (fun _ hv_1 hf_2 => ?_)
  obtain ⟨x_3, rfl⟩ := hv_1
  refine lv_iload_n hx hb dX8_placeOf_4 rfl (lv_at hl 1 rfl) ?_
  refine lv_iadd hx hb dX8_placeOf_5 ?_
  refine lv_topi (fun x_4 _ => ?_)
  refine lv_istore_n (lv' := [(2, .int x_4), (0, .ref h0), (1, .int p1)]) hx hb dX8_placeOf_6 rfl hl (by decide) rfl (fun ls hl => ?_)
  refine lv_iload_n hx hb dX8_placeOf_7 rfl (lv_at hl 0 rfl) ?_
  refine lv_aload_n hx hb dX8_placeOf_8 rfl (lv_at hl 1 rfl) ?_
  refine ty_get (E := []) (ws := ws) (D := D) (ci := 8) (C := RX8) (T := TX8) (N := 5) hx hb hts in_X8 hown hK hP hT h_h0 rfl 0 (by decide) (hts _ kl_RX8_13) (fun _ h9 => h9) rfl dX8_placeOf_9 (fun _ hv_5 hf_6 => ?_)
  obtain ⟨x_7, rfl⟩ := hv_5
  refine lv_icmp_ge (tgt := 19) hx hb dX8_placeOf_12 (by decide) (fun hc_8 => ?_) (fun hc_8 => ?_)
  · refine lv_iload_n hx hb dX8_placeOf_19 rfl (lv_at hl 0 rfl) ?_
    refine lv_aload_n hx hb dX8_placeOf_20 rfl (lv_at hl 1 rfl) ?_
    refine ty_get (E := []) (ws := ws) (D := D) (ci := 8) (C := RX8) (T := TX8) (N := 5) hx hb hts in_X8 hown hK hP hT h_h0 rfl 0 (by decide) (hts _ kl_RX8_13) (fun _ h9 => h9) rfl dX8_placeOf_21 (fun _ hv_9 hf_10 => ?_)
    obtain ⟨x_11, rfl⟩ := hv_9
    refine lv_isub hx hb dX8_placeOf_24 ?_
    refine lv_topi (fun x_12 _ => ?_)
    refine lv_aload_n hx hb dX8_placeOf_25 rfl (lv_at hl 1 rfl) ?_
    refine ty_get (E := []) (ws := ws) (D := D) (ci := 8) (C := RX8) (T := TX8) (N := 5) hx hb hts in_X8 hown hK hP hT h_h0 rfl 1 (by decide) (hts _ kl_RX8_19) (fun _ h9 => h9) rfl dX8_placeOf_26 (fun _ hv_13 hf_14 => ?_)
    obtain ⟨x_15, rfl⟩ := hv_13
    refine lv_imul hx hb dX8_placeOf_29 ?_
    refine lv_topi (fun x_16 _ => ?_)
    exact W.iret (v := x_16) hx hb hr (fun t ht hW => ⟨⟨x_16, ws, rfl, hT, by rw [ht]; exact hP, by rw [hAe]; exact hD⟩, hS.F ht⟩) hS.2.2 dX8_placeOf_30
  · refine lv_iload_n hx hb dX8_placeOf_15 rfl (lv_at hl 0 rfl) ?_
    refine lv_goto (tgt := 25) hx hb dX8_placeOf_16 (by decide) ?_
    refine lv_aload_n hx hb dX8_placeOf_25 rfl (lv_at hl 1 rfl) ?_
    refine ty_get (E := []) (ws := ws) (D := D) (ci := 8) (C := RX8) (T := TX8) (N := 5) hx hb hts in_X8 hown hK hP hT h_h0 rfl 1 (by decide) (hts _ kl_RX8_19) (fun _ h9 => h9) rfl dX8_placeOf_26 (fun _ hv_17 hf_18 => ?_)
    obtain ⟨x_19, rfl⟩ := hv_17
    refine lv_imul hx hb dX8_placeOf_29 ?_
    refine lv_topi (fun x_20 _ => ?_)
    exact W.iret (v := x_20) hx hb hr (fun t ht hW => ⟨⟨x_20, ws, rfl, hT, by rw [ht]; exact hP, by rw [hAe]; exact hD⟩, hS.F ht⟩) hS.2.2 dX8_placeOf_30
theorem dX9_clear_0 : decode cX9_clear 0 = .ok (.aload_n 0, 1) := by decide +kernel
theorem dX9_clear_1 : decode cX9_clear 1 = .ok (.iconst 0, 1) := by decide +kernel
theorem dX9_clear_2 : decode cX9_clear 2 = .ok (.putfield 53, 3) := by decide +kernel
theorem dX9_clear_5 : decode cX9_clear 5 = .ok (.aload_n 0, 1) := by decide +kernel
theorem dX9_clear_6 : decode cX9_clear 6 = .ok (.getfield 12, 3) := by decide +kernel
theorem dX9_clear_9 : decode cX9_clear 9 = .ok (.invokevirtual 57, 3) := by decide +kernel
theorem dX9_clear_12 : decode cX9_clear 12 = .ok (.aload_n 0, 1) := by decide +kernel
theorem dX9_clear_13 : decode cX9_clear 13 = .ok (.getfield 21, 3) := by decide +kernel
theorem dX9_clear_16 : decode cX9_clear 16 = .ok (.iconst 0, 1) := by decide +kernel
theorem dX9_clear_17 : decode cX9_clear 17 = .ok (.putfield 60, 3) := by decide +kernel
theorem dX9_clear_20 : decode cX9_clear 20 = .ok (.aload_n 0, 1) := by decide +kernel
theorem dX9_clear_21 : decode cX9_clear 21 = .ok (.getfield 28, 3) := by decide +kernel
theorem dX9_clear_24 : decode cX9_clear 24 = .ok (.iconst 0, 1) := by decide +kernel
theorem dX9_clear_25 : decode cX9_clear 25 = .ok (.putfield 63, 3) := by decide +kernel
theorem dX9_clear_28 : decode cX9_clear 28 = .ok (.aload_n 0, 1) := by decide +kernel
theorem dX9_clear_29 : decode cX9_clear 29 = .ok (.iconst 0, 1) := by decide +kernel
theorem dX9_clear_30 : decode cX9_clear 30 = .ok (.putfield 64, 3) := by decide +kernel
theorem dX9_clear_33 : decode cX9_clear 33 = .ok (.aload_n 0, 1) := by decide +kernel
theorem dX9_clear_34 : decode cX9_clear 34 = .ok (.getfield 46, 3) := by decide +kernel
theorem dX9_clear_37 : decode cX9_clear 37 = .ok (.invokevirtual 67, 3) := by decide +kernel
theorem dX9_clear_40 : decode cX9_clear 40 = .ok (.aload_n 0, 1) := by decide +kernel
theorem dX9_clear_41 : decode cX9_clear 41 = .ok (.getfield 50, 3) := by decide +kernel
theorem dX9_clear_44 : decode cX9_clear 44 = .ok (.invokevirtual 67, 3) := by decide +kernel
theorem dX9_clear_47 : decode cX9_clear 47 = .ok (.return_, 1) := by decide +kernel
set_option maxRecDepth 100000 in
set_option maxHeartbeats 4000000 in
theorem t_X9_clear (l : Launch) (D : va_G) (ct : Nat → ClassId) (S : ty_S) (ws : va_W) (ph : va_W → Prop) (xx : Nat → Nat → Nat → Prop) (h0 : Nat) (sz : Nat) (hT : ty_V ct S ph ws) (h_h0 : S h0 = some (.inl 9)) (hph : ty_C ph xx) (hy1 : ty_y1 xx) (hy2 : ty_y0 xx 2) (hy5 : ty_y0 xx 5) (hy7 : ty_yc xx 7) (hyh : xx 9 0 h0 ∧ xx 9 4 h0) : Met l yX9_clear (ws_ yX9_clear cX9_clear 1 none) ({ frames := 1, cells := 0, slots := 0, locals := 20 } : Room) (va_Pc [.ref h0] (cmP D ct sz ([] ++ ws))) (va_Qv (fun (u9 : va_W) => ty_V ct S ph u9) (cmB D ([] ++ ws) sz (fun (u9 : va_W) => ([] ++ u9))) (va_A ([] ++ ws) sz)) 0 0 (va_A ([] ++ ws) sz) := by
  refine Met.ofW (cc := cX9_clear) (maxL := 1) (ret := none) (by decide) rfl ?_
  intro p e s m args below meth c s₁ B hml hv
  obtain ⟨rfl, hsz, hP, hK, hD0, hX⟩ := hv
  have hx := B.exec
  have hb := B.bytes
  have hr := B.returns
  have hts := ws_all (atoms_spec (ws := ws_ yX9_clear cX9_clear 1 none) B.pre)
  have hown : s.vm.findClass RX9 = some m.cls := findClass_of_methodNamed B.named
  have hlocks := B.notSynchronized
  subst hsz
  have hD := hD0.self (sz := s.heap.size)
  generalize hAe : va_A ([] ++ ws) s.heap.size = A at hD hX ⊢
  have hA : ∀ q : Nat, s.heap.size ≤ q → A q := fun q h => by rw [← hAe]; exact Or.inr h
  have hS : va_S A s.heap s.heap [] := va_S.rf
  have hl := lv_entry ([.ref h0]) (n := 1) (Nat.le_of_ble_eq_true rfl)
  rw [lg_entry_eq]
  generalize (lg_sl ([.ref h0]) ++ List.replicate (1 - (lg_sl ([.ref h0])).length) Slot.unset).toArray = ls at hl ⊢
  have hl : lv_has ls 1 [(0, .ref h0)] := hl
  refine lv_aload_n hx hb dX9_clear_0 rfl (lv_at hl 0 rfl) ?_
  refine lv_iconst (v := 0) hx hb dX9_clear_1 (by decide) ?_
  refine ty_put (v := .int 0) (ty := .int) (E := []) (ws := ws) (D := D) (ci := 9) (C := RX9) (T := TX9) (N := 8) hx hb hts in_X9 tyX9 tyX9_ok nmX9 hown hK hP hD hS hT h_h0 rfl 0 (by decide) (hts _ kl_RX9_53) (fun _ h9 => h9) rfl (by decide +kernel) rfl rfl rfl ⟨_, rfl⟩ dX9_clear_2 hph hyh.1 (fun ws_1 H locs hT hP hD hS => ?_)
  refine lv_aload_n hx hb dX9_clear_5 rfl (lv_at hl 0 rfl) ?_
  refine ty_get (E := []) (ws := ws_1) (D := D) (ci := 9) (C := RX9) (T := TX9) (N := 8) hx hb hts in_X9 hown hK hP hT h_h0 rfl 1 (by decide) (hts _ kl_RX9_12) (fun _ h9 => h9) rfl dX9_clear_6 (fun _ hv_2 hf_3 => ?_)
  obtain ⟨a_4, rfl, ha_5⟩ := hv_2
  refine ty_kv (wr := []) (wc := ([] ++ ws_1)) (va_runVN (As := []) (rest := []) ⟨hx, hb, hml, hown, hts⟩ (t_X7_clear l D ct S ws_1 ph xx a_4 _ hT ha_5 hph hy1 hy7) (cm_VN 0 hts kc_X7_clear ki_RX7 kl_RX9_57 kv_X7_clear kx_X7_clear kd_X7_clear ⟨Nat.le_of_ble_eq_true rfl, Nat.le_of_ble_eq_true rfl⟩) (ty_preV (wr := []) (E := []) (ws := ws_1) (ci := 7) hP hK hD hS hA hX hT rfl ha_5) rfl rfl hl.1 rfl (lv_room (Nat.le_of_ble_eq_true rfl)) dX9_clear_9 ⟨Nat.le_of_ble_eq_true rfl, Nat.le_of_ble_eq_true rfl⟩) hP hD hS hA (fun u H locs hw_7 hP hD hS => ?_)
  obtain ⟨ws_8, rfl⟩ : ∃ z, z = u := ⟨_, rfl⟩
  have hT := hw_7
  have hP : va_P D vwCl ([] ++ ws_8) H := hP
  have hD : va_D A ([] ++ ws_8) := hD
  refine lv_aload_n hx hb dX9_clear_12 rfl (lv_at hl 0 rfl) ?_
  refine ty_get (E := []) (ws := ws_8) (D := D) (ci := 9) (C := RX9) (T := TX9) (N := 8) hx hb hts in_X9 hown hK hP hT h_h0 rfl 2 (by decide) (hts _ kl_RX9_21) (fun _ h9 => h9) rfl dX9_clear_13 (fun _ hv_9 hf_10 => ?_)
  obtain ⟨a_11, rfl, ha_12⟩ := hv_9
  refine lv_iconst (v := 0) hx hb dX9_clear_16 (by decide) ?_
  refine ty_putN (v := .int 0) (ty := .int) (E := []) (ws := ws_8) (D := D) (ci := 2) (C := RX2) (T := TX2) (N := 4) hx hb hts in_X2 tyX2 tyX2_ok nmX2 hown hK hP hD hS hT ha_12 rfl 0 (by decide) (hts _ kl_RX9_60) (fun _ h9 => h9) rfl (by decide +kernel) rfl rfl rfl ⟨_, rfl⟩ dX9_clear_17 hph (hy2 a_11) (fun ws_13 H locs hT hP hD hS => ?_)
  refine lv_aload_n hx hb dX9_clear_20 rfl (lv_at hl 0 rfl) ?_
  refine ty_get (E := []) (ws := ws_13) (D := D) (ci := 9) (C := RX9) (T := TX9) (N := 8) hx hb hts in_X9 hown hK hP hT h_h0 rfl 3 (by decide) (hts _ kl_RX9_28) (fun _ h9 => h9) rfl dX9_clear_21 (fun _ hv_14 hf_15 => ?_)
  obtain ⟨a_16, rfl, ha_17⟩ := hv_14
  refine lv_iconst (v := 0) hx hb dX9_clear_24 (by decide) ?_
  refine ty_putN (v := .int 0) (ty := .int) (E := []) (ws := ws_13) (D := D) (ci := 5) (C := RX5) (T := TX5) (N := 5) hx hb hts in_X5 tyX5 tyX5_ok nmX5 hown hK hP hD hS hT ha_17 rfl 0 (by decide) (hts _ kl_RX9_63) (fun _ h9 => h9) rfl (by decide +kernel) rfl rfl rfl ⟨_, rfl, by decide⟩ dX9_clear_25 hph (hy5 a_16) (fun ws_18 H locs hT hP hD hS => ?_)
  refine lv_aload_n hx hb dX9_clear_28 rfl (lv_at hl 0 rfl) ?_
  refine lv_iconst (v := 0) hx hb dX9_clear_29 (by decide) ?_
  refine ty_put (v := .int 0) (ty := .int) (E := []) (ws := ws_18) (D := D) (ci := 9) (C := RX9) (T := TX9) (N := 8) hx hb hts in_X9 tyX9 tyX9_ok nmX9 hown hK hP hD hS hT h_h0 rfl 4 (by decide) (hts _ kl_RX9_64) (fun _ h9 => h9) rfl (by decide +kernel) rfl rfl rfl ⟨_, rfl⟩ dX9_clear_30 hph hyh.2 (fun ws_19 H locs hT hP hD hS => ?_)
  refine lv_aload_n hx hb dX9_clear_33 rfl (lv_at hl 0 rfl) ?_
  refine ty_get (E := []) (ws := ws_19) (D := D) (ci := 9) (C := RX9) (T := TX9) (N := 8) hx hb hts in_X9 hown hK hP hT h_h0 rfl 6 (by decide) (hts _ kl_RX9_46) (fun _ h9 => h9) rfl dX9_clear_34 (fun _ hv_20 hf_21 => ?_)
  obtain ⟨a_22, rfl, ha_23⟩ := hv_20
  refine ty_kv (wr := []) (wc := ([] ++ ws_19)) (va_runVN (As := []) (rest := []) ⟨hx, hb, hml, hown, hts⟩ (t_X8_clear l D ct S ws_19 ph xx a_22 _ hT ha_23 hph hy1) (cm_VN 0 hts kc_X8_clear ki_RX8 kl_RX9_67 kv_X8_clear kx_X8_clear kd_X8_clear ⟨Nat.le_of_ble_eq_true rfl, Nat.le_of_ble_eq_true rfl⟩) (ty_preV (wr := []) (E := []) (ws := ws_19) (ci := 8) hP hK hD hS hA hX hT rfl ha_23) rfl rfl hl.1 rfl (lv_room (Nat.le_of_ble_eq_true rfl)) dX9_clear_37 ⟨Nat.le_of_ble_eq_true rfl, Nat.le_of_ble_eq_true rfl⟩) hP hD hS hA (fun u H locs hw_25 hP hD hS => ?_)
  obtain ⟨ws_26, rfl⟩ : ∃ z, z = u := ⟨_, rfl⟩
  have hT := hw_25
  have hP : va_P D vwCl ([] ++ ws_26) H := hP
  have hD : va_D A ([] ++ ws_26) := hD
  refine lv_aload_n hx hb dX9_clear_40 rfl (lv_at hl 0 rfl) ?_
  refine ty_get (E := []) (ws := ws_26) (D := D) (ci := 9) (C := RX9) (T := TX9) (N := 8) hx hb hts in_X9 hown hK hP hT h_h0 rfl 7 (by decide) (hts _ kl_RX9_50) (fun _ h9 => h9) rfl dX9_clear_41 (fun _ hv_27 hf_28 => ?_)
  obtain ⟨a_29, rfl, ha_30⟩ := hv_27
  refine ty_kv (wr := []) (wc := ([] ++ ws_26)) (va_runVN (As := []) (rest := []) ⟨hx, hb, hml, hown, hts⟩ (t_X8_clear l D ct S ws_26 ph xx a_29 _ hT ha_30 hph hy1) (cm_VN 0 hts kc_X8_clear ki_RX8 kl_RX9_67 kv_X8_clear kx_X8_clear kd_X8_clear ⟨Nat.le_of_ble_eq_true rfl, Nat.le_of_ble_eq_true rfl⟩) (ty_preV (wr := []) (E := []) (ws := ws_26) (ci := 8) hP hK hD hS hA hX hT rfl ha_30) rfl rfl hl.1 rfl (lv_room (Nat.le_of_ble_eq_true rfl)) dX9_clear_44 ⟨Nat.le_of_ble_eq_true rfl, Nat.le_of_ble_eq_true rfl⟩) hP hD hS hA (fun u H locs hw_32 hP hD hS => ?_)
  obtain ⟨ws_33, rfl⟩ : ∃ z, z = u := ⟨_, rfl⟩
  have hT := hw_32
  have hP : va_P D vwCl ([] ++ ws_33) H := hP
  have hD : va_D A ([] ++ ws_33) := hD
  exact W.vret hx hb hr (fun t ht hW => ⟨⟨ws_33, rfl, hT, by rw [ht]; exact hP, by rw [hAe]; exact hD⟩, hS.F ht⟩) hS.2.2 dX9_clear_47
