theorem dX1_trip_0 : decode cX1_trip 0 = .ok (.aload_n 0, 1) := by decide +kernel
theorem dX1_trip_1 : decode cX1_trip 1 = .ok (.iconst 4, 1) := by decide +kernel
theorem dX1_trip_2 : decode cX1_trip 2 = .ok (.putfield 43, 3) := by decide +kernel
theorem dX1_trip_5 : decode cX1_trip 5 = .ok (.aload_n 0, 1) := by decide +kernel
theorem dX1_trip_6 : decode cX1_trip 6 = .ok (.getfield 25, 3) := by decide +kernel
theorem dX1_trip_9 : decode cX1_trip 9 = .ok (.iload_n 1, 1) := by decide +kernel
theorem dX1_trip_10 : decode cX1_trip 10 = .ok (.putfield 94, 3) := by decide +kernel
theorem dX1_trip_13 : decode cX1_trip 13 = .ok (.aload_n 2, 1) := by decide +kernel
theorem dX1_trip_14 : decode cX1_trip 14 = .ok (.aload_n 0, 1) := by decide +kernel
theorem dX1_trip_15 : decode cX1_trip 15 = .ok (.getfield 9, 3) := by decide +kernel
theorem dX1_trip_18 : decode cX1_trip 18 = .ok (.iconst 3, 1) := by decide +kernel
theorem dX1_trip_19 : decode cX1_trip 19 = .ok (.iload_n 1, 1) := by decide +kernel
theorem dX1_trip_20 : decode cX1_trip 20 = .ok (.invokevirtual 100, 3) := by decide +kernel
theorem dX1_trip_23 : decode cX1_trip 23 = .ok (.return_, 1) := by decide +kernel
set_option maxRecDepth 100000 in
set_option maxHeartbeats 4000000 in
theorem t_X1_trip (l : Launch) (D : va_G) (ct : Nat → ClassId) (S : ty_S) (ws : va_W) (ph : va_W → Prop) (xx : Nat → Nat → Nat → Prop) (h0 : Nat) (p1 : Int32) (p2 : Nat) (sz : Nat) (hT : ty_V ct S ph ws) (h_h0 : S h0 = some (.inl 1)) (h_p2 : S p2 = some (.inl 9)) (hph : ty_C ph xx) (hy1 : ty_y1 xx) : Met l yX1_trip (ws_ yX1_trip cX1_trip 3 none) ({ frames := 2, cells := 0, slots := 0, locals := 46 } : Room) (va_Pc [.ref h0, .int p1, .ref p2] (cmP D ct sz ([] ++ ws))) (va_Qv (fun (u9 : va_W) => ty_V ct S ph u9) (cmB D ([] ++ ws) sz (fun (u9 : va_W) => ([] ++ u9))) (va_A ([] ++ ws) sz)) 0 0 (va_A ([] ++ ws) sz) := by
  refine Met.ofW (cc := cX1_trip) (maxL := 3) (ret := none) (by decide) rfl ?_
  intro p e s m args below meth c s₁ B hml hv
  obtain ⟨rfl, hsz, hP, hK, hD0, hX⟩ := hv
  have hx := B.exec
  have hb := B.bytes
  have hr := B.returns
  have hts := ws_all (atoms_spec (ws := ws_ yX1_trip cX1_trip 3 none) B.pre)
  have hown : s.vm.findClass RX1 = some m.cls := findClass_of_methodNamed B.named
  have hlocks := B.notSynchronized
  subst hsz
  have hD := hD0.self (sz := s.heap.size)
  generalize hAe : va_A ([] ++ ws) s.heap.size = A at hD hX ⊢
  have hA : ∀ q : Nat, s.heap.size ≤ q → A q := fun q h => by rw [← hAe]; exact Or.inr h
  have hS : va_S A s.heap s.heap [] := va_S.rf
  have hl := lv_entry ([.ref h0, .int p1, .ref p2]) (n := 3) (Nat.le_of_ble_eq_true rfl)
  rw [lg_entry_eq]
  generalize (lg_sl ([.ref h0, .int p1, .ref p2]) ++ List.replicate (3 - (lg_sl ([.ref h0, .int p1, .ref p2])).length) Slot.unset).toArray = ls at hl ⊢
  have hl : lv_has ls 3 [(0, .ref h0), (1, .int p1), (2, .ref p2)] := hl
  refine lv_aload_n hx hb dX1_trip_0 rfl (lv_at hl 0 rfl) ?_
  refine lv_iconst (v := 4) hx hb dX1_trip_1 (by decide) ?_
  refine ty_put (v := .int 4) (ty := .int) (E := []) (ws := ws) (D := D) (ci := 1) (C := RX1) (T := TX1) (N := 14) hx hb hts in_X1 tyX1 tyX1_ok nmX1 hown hK hP hD hS hT h_h0 rfl 3 (by decide) (hts _ kl_RX1_43) (fun _ h9 => h9) rfl (by decide +kernel) rfl rfl rfl ⟨_, rfl⟩ dX1_trip_2 hph (hy1 1 3 h0 rfl) (fun ws_1 H locs hT hP hD hS => ?_)
  refine lv_aload_n hx hb dX1_trip_5 rfl (lv_at hl 0 rfl) ?_
  refine ty_get (E := []) (ws := ws_1) (D := D) (ci := 1) (C := RX1) (T := TX1) (N := 14) hx hb hts in_X1 hown hK hP hT h_h0 rfl 2 (by decide) (hts _ kl_RX1_25) (fun _ h9 => h9) rfl dX1_trip_6 (fun _ hv_2 hf_3 => ?_)
  obtain ⟨a_4, rfl, ha_5⟩ := hv_2
  refine lv_iload_n hx hb dX1_trip_9 rfl (lv_at hl 1 rfl) ?_
  refine ty_putN (v := .int p1) (ty := .int) (E := []) (ws := ws_1) (D := D) (ci := 4) (C := RX4) (T := TX4) (N := 7) hx hb hts in_X4 tyX4 tyX4_ok nmX4 hown hK hP hD hS hT ha_5 rfl 3 (by decide) (hts _ kl_RX1_94) (fun _ h9 => h9) rfl (by decide +kernel) rfl rfl rfl ⟨_, rfl⟩ dX1_trip_10 hph (hy1 4 3 a_4 rfl) (fun ws_6 H locs hT hP hD hS => ?_)
  refine lv_aload_n hx hb dX1_trip_13 rfl (lv_at hl 2 rfl) ?_
  refine lv_aload_n hx hb dX1_trip_14 rfl (lv_at hl 0 rfl) ?_
  refine ty_get (E := []) (ws := ws_6) (D := D) (ci := 1) (C := RX1) (T := TX1) (N := 14) hx hb hts in_X1 hown hK hP hT h_h0 rfl 0 (by decide) (hts _ kl_RX1_9) (fun _ h9 => h9) rfl dX1_trip_15 (fun _ hv_7 hf_8 => ?_)
  obtain ⟨x_9, rfl⟩ := hv_7
  refine lv_iconst (v := 3) hx hb dX1_trip_18 (by decide) ?_
  refine lv_iload_n hx hb dX1_trip_19 rfl (lv_at hl 1 rfl) ?_
  refine ty_kv (wr := []) (wc := ([] ++ ws_6)) (va_runVN (As := [.int x_9, .int 3, .int p1]) (rest := []) ⟨hx, hb, hml, hown, hts⟩ (t_X9_note l D ct S ws_6 ph xx p2 x_9 (3 : Int32) p1 _ hT h_p2 hph hy1) (cm_VN 3 hts kc_X9_note ki_RX9 kl_RX1_100 kv_X9_note kx_X9_note kd_X9_note ⟨Nat.le_of_ble_eq_true rfl, Nat.le_of_ble_eq_true rfl⟩) (ty_preV (wr := []) (E := []) (ws := ws_6) (ci := 9) hP hK hD hS hA hX hT rfl h_p2) rfl rfl hl.1 rfl (lv_room (Nat.le_of_ble_eq_true rfl)) dX1_trip_20 ⟨Nat.le_of_ble_eq_true rfl, Nat.le_of_ble_eq_true rfl⟩) hP hD hS hA (fun u H locs hw_11 hP hD hS => ?_)
  obtain ⟨ws_12, rfl⟩ : ∃ z, z = u := ⟨_, rfl⟩
  have hT := hw_11
  have hP : va_P D vwCl ([] ++ ws_12) H := hP
  have hD : va_D A ([] ++ ws_12) := hD
  exact W.vret hx hb hr (fun t ht hW => ⟨⟨ws_12, rfl, hT, by rw [ht]; exact hP, by rw [hAe]; exact hD⟩, hS.F ht⟩) hS.2.2 dX1_trip_23
theorem dX1_stepEnds_0 : decode cX1_stepEnds 0 = .ok (.aload_n 1, 1) := by decide +kernel
theorem dX1_stepEnds_1 : decode cX1_stepEnds 1 = .ok (.aload_n 0, 1) := by decide +kernel
theorem dX1_stepEnds_2 : decode cX1_stepEnds 2 = .ok (.getfield 46, 3) := by decide +kernel
theorem dX1_stepEnds_5 : decode cX1_stepEnds 5 = .ok (.aload_n 0, 1) := by decide +kernel
theorem dX1_stepEnds_6 : decode cX1_stepEnds 6 = .ok (.getfield 49, 3) := by decide +kernel
theorem dX1_stepEnds_9 : decode cX1_stepEnds 9 = .ok (.invokevirtual 196, 3) := by decide +kernel
theorem dX1_stepEnds_12 : decode cX1_stepEnds 12 = .ok (.istore_n 2, 1) := by decide +kernel
theorem dX1_stepEnds_13 : decode cX1_stepEnds 13 = .ok (.aload_n 1, 1) := by decide +kernel
theorem dX1_stepEnds_14 : decode cX1_stepEnds 14 = .ok (.aload_n 0, 1) := by decide +kernel
theorem dX1_stepEnds_15 : decode cX1_stepEnds 15 = .ok (.getfield 46, 3) := by decide +kernel
theorem dX1_stepEnds_18 : decode cX1_stepEnds 18 = .ok (.aload_n 0, 1) := by decide +kernel
theorem dX1_stepEnds_19 : decode cX1_stepEnds 19 = .ok (.getfield 49, 3) := by decide +kernel
theorem dX1_stepEnds_22 : decode cX1_stepEnds 22 = .ok (.invokevirtual 231, 3) := by decide +kernel
theorem dX1_stepEnds_25 : decode cX1_stepEnds 25 = .ok (.istore_n 3, 1) := by decide +kernel
theorem dX1_stepEnds_26 : decode cX1_stepEnds 26 = .ok (.aload_n 1, 1) := by decide +kernel
theorem dX1_stepEnds_27 : decode cX1_stepEnds 27 = .ok (.aload_n 0, 1) := by decide +kernel
theorem dX1_stepEnds_28 : decode cX1_stepEnds 28 = .ok (.getfield 46, 3) := by decide +kernel
theorem dX1_stepEnds_31 : decode cX1_stepEnds 31 = .ok (.aload_n 0, 1) := by decide +kernel
theorem dX1_stepEnds_32 : decode cX1_stepEnds 32 = .ok (.getfield 49, 3) := by decide +kernel
theorem dX1_stepEnds_35 : decode cX1_stepEnds 35 = .ok (.invokevirtual 201, 3) := by decide +kernel
theorem dX1_stepEnds_38 : decode cX1_stepEnds 38 = .ok (.tableswitch 87 0 2 #[26, 43, 60], 26) := by decide +kernel
theorem dX1_stepEnds_64 : decode cX1_stepEnds 64 = .ok (.aload_n 0, 1) := by decide +kernel
theorem dX1_stepEnds_65 : decode cX1_stepEnds 65 = .ok (.getfield 18, 3) := by decide +kernel
theorem dX1_stepEnds_68 : decode cX1_stepEnds 68 = .ok (.getfield 79, 3) := by decide +kernel
theorem dX1_stepEnds_71 : decode cX1_stepEnds 71 = .ok (.iload_n 3, 1) := by decide +kernel
theorem dX1_stepEnds_72 : decode cX1_stepEnds 72 = .ok (.if_icmp .lt 7, 3) := by decide +kernel
theorem dX1_stepEnds_75 : decode cX1_stepEnds 75 = .ok (.iconst 1, 1) := by decide +kernel
theorem dX1_stepEnds_76 : decode cX1_stepEnds 76 = .ok (.goto 4, 3) := by decide +kernel
theorem dX1_stepEnds_79 : decode cX1_stepEnds 79 = .ok (.iconst 0, 1) := by decide +kernel
theorem dX1_stepEnds_80 : decode cX1_stepEnds 80 = .ok (.ireturn, 1) := by decide +kernel
theorem dX1_stepEnds_81 : decode cX1_stepEnds 81 = .ok (.aload_n 0, 1) := by decide +kernel
theorem dX1_stepEnds_82 : decode cX1_stepEnds 82 = .ok (.getfield 18, 3) := by decide +kernel
theorem dX1_stepEnds_85 : decode cX1_stepEnds 85 = .ok (.getfield 76, 3) := by decide +kernel
theorem dX1_stepEnds_88 : decode cX1_stepEnds 88 = .ok (.iload_n 3, 1) := by decide +kernel
theorem dX1_stepEnds_89 : decode cX1_stepEnds 89 = .ok (.if_icmp .gt 7, 3) := by decide +kernel
theorem dX1_stepEnds_92 : decode cX1_stepEnds 92 = .ok (.iconst 1, 1) := by decide +kernel
theorem dX1_stepEnds_93 : decode cX1_stepEnds 93 = .ok (.goto 4, 3) := by decide +kernel
theorem dX1_stepEnds_96 : decode cX1_stepEnds 96 = .ok (.iconst 0, 1) := by decide +kernel
theorem dX1_stepEnds_97 : decode cX1_stepEnds 97 = .ok (.ireturn, 1) := by decide +kernel
theorem dX1_stepEnds_98 : decode cX1_stepEnds 98 = .ok (.aload_n 0, 1) := by decide +kernel
theorem dX1_stepEnds_99 : decode cX1_stepEnds 99 = .ok (.getfield 18, 3) := by decide +kernel
theorem dX1_stepEnds_102 : decode cX1_stepEnds 102 = .ok (.getfield 79, 3) := by decide +kernel
theorem dX1_stepEnds_105 : decode cX1_stepEnds 105 = .ok (.iload_n 3, 1) := by decide +kernel
theorem dX1_stepEnds_106 : decode cX1_stepEnds 106 = .ok (.if_icmp .le 13, 3) := by decide +kernel
theorem dX1_stepEnds_109 : decode cX1_stepEnds 109 = .ok (.aload_n 0, 1) := by decide +kernel
theorem dX1_stepEnds_110 : decode cX1_stepEnds 110 = .ok (.getfield 18, 3) := by decide +kernel
theorem dX1_stepEnds_113 : decode cX1_stepEnds 113 = .ok (.getfield 82, 3) := by decide +kernel
theorem dX1_stepEnds_116 : decode cX1_stepEnds 116 = .ok (.ifCond .ne 7, 3) := by decide +kernel
theorem dX1_stepEnds_119 : decode cX1_stepEnds 119 = .ok (.iconst 1, 1) := by decide +kernel
theorem dX1_stepEnds_120 : decode cX1_stepEnds 120 = .ok (.goto 4, 3) := by decide +kernel
theorem dX1_stepEnds_123 : decode cX1_stepEnds 123 = .ok (.iconst 0, 1) := by decide +kernel
theorem dX1_stepEnds_124 : decode cX1_stepEnds 124 = .ok (.ireturn, 1) := by decide +kernel
theorem dX1_stepEnds_125 : decode cX1_stepEnds 125 = .ok (.aload_n 0, 1) := by decide +kernel
theorem dX1_stepEnds_126 : decode cX1_stepEnds 126 = .ok (.getfield 52, 3) := by decide +kernel
theorem dX1_stepEnds_129 : decode cX1_stepEnds 129 = .ok (.iload_n 2, 1) := by decide +kernel
theorem dX1_stepEnds_130 : decode cX1_stepEnds 130 = .ok (.if_icmp .lt 7, 3) := by decide +kernel
theorem dX1_stepEnds_133 : decode cX1_stepEnds 133 = .ok (.iconst 1, 1) := by decide +kernel
theorem dX1_stepEnds_134 : decode cX1_stepEnds 134 = .ok (.goto 4, 3) := by decide +kernel
theorem dX1_stepEnds_137 : decode cX1_stepEnds 137 = .ok (.iconst 0, 1) := by decide +kernel
theorem dX1_stepEnds_138 : decode cX1_stepEnds 138 = .ok (.ireturn, 1) := by decide +kernel
set_option maxRecDepth 100000 in
set_option maxHeartbeats 4000000 in
theorem t_X1_stepEnds (l : Launch) (D : va_G) (ct : Nat → ClassId) (S : ty_S) (ws : va_W) (ph : va_W → Prop) (xx : Nat → Nat → Nat → Prop) (h0 : Nat) (p1 : Nat) (sz : Nat) (hT : ty_V ct S ph ws) (h_h0 : S h0 = some (.inl 1)) (h_p1 : S p1 = some (.inl 5)) (hph : ty_C ph xx) (hy1 : ty_y1 xx) : Met l yX1_stepEnds (ws_ yX1_stepEnds cX1_stepEnds 4 (some .boolean)) ({ frames := 2, cells := 0, slots := 0, locals := 43 } : Room) (va_Pc [.ref h0, .ref p1] (cmP D ct sz ([] ++ ws))) (va_Qi (fun (r : Int32) (u9 : va_W) => ty_V ct S ph u9 ∧ vp_nar .boolean r = r) (cmB D ([] ++ ws) sz (fun (u9 : va_W) => ([] ++ u9))) (va_A ([] ++ ws) sz)) 0 0 (va_A ([] ++ ws) sz) := by
  refine Met.ofW (cc := cX1_stepEnds) (maxL := 4) (ret := (some .boolean)) (by decide) rfl ?_
  intro p e s m args below meth c s₁ B hml hv
  obtain ⟨rfl, hsz, hP, hK, hD0, hX⟩ := hv
  have hx := B.exec
  have hb := B.bytes
  have hr := B.returns
  have hts := ws_all (atoms_spec (ws := ws_ yX1_stepEnds cX1_stepEnds 4 (some .boolean)) B.pre)
  have hown : s.vm.findClass RX1 = some m.cls := findClass_of_methodNamed B.named
  have hlocks := B.notSynchronized
  subst hsz
  have hD := hD0.self (sz := s.heap.size)
  generalize hAe : va_A ([] ++ ws) s.heap.size = A at hD hX ⊢
  have hA : ∀ q : Nat, s.heap.size ≤ q → A q := fun q h => by rw [← hAe]; exact Or.inr h
  have hS : va_S A s.heap s.heap [] := va_S.rf
  have hl := lv_entry ([.ref h0, .ref p1]) (n := 4) (Nat.le_of_ble_eq_true rfl)
  rw [lg_entry_eq]
  generalize (lg_sl ([.ref h0, .ref p1]) ++ List.replicate (4 - (lg_sl ([.ref h0, .ref p1])).length) Slot.unset).toArray = ls at hl ⊢
  have hl : lv_has ls 4 [(0, .ref h0), (1, .ref p1)] := hl
  refine lv_aload_n hx hb dX1_stepEnds_0 rfl (lv_at hl 1 rfl) ?_
  refine lv_aload_n hx hb dX1_stepEnds_1 rfl (lv_at hl 0 rfl) ?_
  refine ty_get (E := []) (ws := ws) (D := D) (ci := 1) (C := RX1) (T := TX1) (N := 14) hx hb hts in_X1 hown hK hP hT h_h0 rfl 4 (by decide) (hts _ kl_RX1_46) (fun _ h9 => h9) rfl dX1_stepEnds_2 (fun _ hv_1 hf_2 => ?_)
  obtain ⟨x_3, rfl⟩ := hv_1
  refine lv_aload_n hx hb dX1_stepEnds_5 rfl (lv_at hl 0 rfl) ?_
  refine ty_get (E := []) (ws := ws) (D := D) (ci := 1) (C := RX1) (T := TX1) (N := 14) hx hb hts in_X1 hown hK hP hT h_h0 rfl 5 (by decide) (hts _ kl_RX1_49) (fun _ h9 => h9) rfl dX1_stepEnds_6 (fun _ hv_4 hf_5 => ?_)
  obtain ⟨x_6, rfl⟩ := hv_4
  refine ty_ki (wr := []) (wc := ([] ++ ws)) (va_runVN (As := [.int x_3, .int x_6]) (rest := []) ⟨hx, hb, hml, hown, hts⟩ (t_X5_firstOf l D ct S ws ph xx p1 x_3 x_6 _ hT h_p1 hph hy1) (cm_VN 2 hts kc_X5_firstOf ki_RX5 kl_RX1_196 kv_X5_firstOf kx_X5_firstOf kd_X5_firstOf ⟨Nat.le_of_ble_eq_true rfl, Nat.le_of_ble_eq_true rfl⟩) (ty_preV (wr := []) (E := []) (ws := ws) (ci := 5) hP hK hD hS hA hX hT rfl h_p1) rfl rfl hl.1 rfl (lv_room (Nat.le_of_ble_eq_true rfl)) dX1_stepEnds_9 ⟨Nat.le_of_ble_eq_true rfl, Nat.le_of_ble_eq_true rfl⟩) hP hD hS hA (fun r_7 u H locs hw_8 hP hD hS => ?_)
  obtain ⟨ws_9, rfl⟩ : ∃ z, z = u := ⟨_, rfl⟩
  have hT := hw_8
  have hP : va_P D vwCl ([] ++ ws_9) H := hP
  have hD : va_D A ([] ++ ws_9) := hD
  refine lv_istore_n (lv' := [(2, .int r_7), (0, .ref h0), (1, .ref p1)]) hx hb dX1_stepEnds_12 rfl hl (by decide) rfl (fun ls hl => ?_)
  refine lv_aload_n hx hb dX1_stepEnds_13 rfl (lv_at hl 2 rfl) ?_
  refine lv_aload_n hx hb dX1_stepEnds_14 rfl (lv_at hl 1 rfl) ?_
  refine ty_get (E := []) (ws := ws_9) (D := D) (ci := 1) (C := RX1) (T := TX1) (N := 14) hx hb hts in_X1 hown hK hP hT h_h0 rfl 4 (by decide) (hts _ kl_RX1_46) (fun _ h9 => h9) rfl dX1_stepEnds_15 (fun _ hv_10 hf_11 => ?_)
  obtain ⟨x_12, rfl⟩ := hv_10
  refine lv_aload_n hx hb dX1_stepEnds_18 rfl (lv_at hl 1 rfl) ?_
  refine ty_get (E := []) (ws := ws_9) (D := D) (ci := 1) (C := RX1) (T := TX1) (N := 14) hx hb hts in_X1 hown hK hP hT h_h0 rfl 5 (by decide) (hts _ kl_RX1_49) (fun _ h9 => h9) rfl dX1_stepEnds_19 (fun _ hv_13 hf_14 => ?_)
  obtain ⟨x_15, rfl⟩ := hv_13
  refine ty_ki (wr := []) (wc := ([] ++ ws_9)) (va_runVN (As := [.int x_12, .int x_15]) (rest := []) ⟨hx, hb, hml, hown, hts⟩ (t_X5_secondOf l D ct S ws_9 ph xx p1 x_12 x_15 _ hT h_p1 hph hy1) (cm_VN 2 hts kc_X5_secondOf ki_RX5 kl_RX1_231 kv_X5_secondOf kx_X5_secondOf kd_X5_secondOf ⟨Nat.le_of_ble_eq_true rfl, Nat.le_of_ble_eq_true rfl⟩) (ty_preV (wr := []) (E := []) (ws := ws_9) (ci := 5) hP hK hD hS hA hX hT rfl h_p1) rfl rfl hl.1 rfl (lv_room (Nat.le_of_ble_eq_true rfl)) dX1_stepEnds_22 ⟨Nat.le_of_ble_eq_true rfl, Nat.le_of_ble_eq_true rfl⟩) hP hD hS hA (fun r_16 u H locs hw_17 hP hD hS => ?_)
  obtain ⟨ws_18, rfl⟩ : ∃ z, z = u := ⟨_, rfl⟩
  have hT := hw_17
  have hP : va_P D vwCl ([] ++ ws_18) H := hP
  have hD : va_D A ([] ++ ws_18) := hD
  refine lv_istore_n (lv' := [(3, .int r_16), (2, .int r_7), (0, .ref h0), (1, .ref p1)]) hx hb dX1_stepEnds_25 rfl hl (by decide) rfl (fun ls hl => ?_)
  refine lv_aload_n hx hb dX1_stepEnds_26 rfl (lv_at hl 3 rfl) ?_
  refine lv_aload_n hx hb dX1_stepEnds_27 rfl (lv_at hl 2 rfl) ?_
  refine ty_get (E := []) (ws := ws_18) (D := D) (ci := 1) (C := RX1) (T := TX1) (N := 14) hx hb hts in_X1 hown hK hP hT h_h0 rfl 4 (by decide) (hts _ kl_RX1_46) (fun _ h9 => h9) rfl dX1_stepEnds_28 (fun _ hv_19 hf_20 => ?_)
  obtain ⟨x_21, rfl⟩ := hv_19
  refine lv_aload_n hx hb dX1_stepEnds_31 rfl (lv_at hl 2 rfl) ?_
  refine ty_get (E := []) (ws := ws_18) (D := D) (ci := 1) (C := RX1) (T := TX1) (N := 14) hx hb hts in_X1 hown hK hP hT h_h0 rfl 5 (by decide) (hts _ kl_RX1_49) (fun _ h9 => h9) rfl dX1_stepEnds_32 (fun _ hv_22 hf_23 => ?_)
  obtain ⟨x_24, rfl⟩ := hv_22
  refine ty_ki (wr := []) (wc := ([] ++ ws_18)) (va_runVN (As := [.int x_21, .int x_24]) (rest := []) ⟨hx, hb, hml, hown, hts⟩ (t_X5_kindOf l D ct S ws_18 ph xx p1 x_21 x_24 _ hT h_p1 hph hy1) (cm_VN 2 hts kc_X5_kindOf ki_RX5 kl_RX1_201 kv_X5_kindOf kx_X5_kindOf kd_X5_kindOf ⟨Nat.le_of_ble_eq_true rfl, Nat.le_of_ble_eq_true rfl⟩) (ty_preV (wr := []) (E := []) (ws := ws_18) (ci := 5) hP hK hD hS hA hX hT rfl h_p1) rfl rfl hl.1 rfl (lv_room (Nat.le_of_ble_eq_true rfl)) dX1_stepEnds_35 ⟨Nat.le_of_ble_eq_true rfl, Nat.le_of_ble_eq_true rfl⟩) hP hD hS hA (fun r_25 u H locs hw_26 hP hD hS => ?_)
  obtain ⟨ws_27, rfl⟩ : ∃ z, z = u := ⟨_, rfl⟩
  have hT := hw_26
  have hP : va_P D vwCl ([] ++ ws_27) H := hP
  have hD : va_D A ([] ++ ws_27) := hD
  by_cases hk_28 : r_25 = 0
  · refine cm_cst hk_28 (lv_tableIn (off := 26) (tgt := 64) hx hb dX1_stepEnds_38 (by decide) (by decide) (by decide) (by decide) ?_)
    refine lv_aload_n hx hb dX1_stepEnds_64 rfl (lv_at hl 2 rfl) ?_
    refine ty_get (E := []) (ws := ws_27) (D := D) (ci := 1) (C := RX1) (T := TX1) (N := 14) hx hb hts in_X1 hown hK hP hT h_h0 rfl 1 (by decide) (hts _ kl_RX1_18) (fun _ h9 => h9) rfl dX1_stepEnds_65 (fun _ hv_29 hf_30 => ?_)
    obtain ⟨a_31, rfl, ha_32⟩ := hv_29
    refine ty_getN (E := []) (ws := ws_27) (D := D) (ci := 0) (C := RX0) (T := TX0) (N := 16) hx hb hts in_X0 hown hK hP hT ha_32 rfl 14 (by decide) (hts _ kl_RX1_79) (fun _ h9 => h9) rfl dX1_stepEnds_68 (fun _ hv_33 hf_34 => ?_)
    obtain ⟨x_35, rfl⟩ := hv_33
    refine lv_iload_n hx hb dX1_stepEnds_71 rfl (lv_at hl 0 rfl) ?_
    refine lv_icmp_lt (tgt := 79) hx hb dX1_stepEnds_72 (by decide) (fun hc_36 => ?_) (fun hc_36 => ?_)
    · refine lv_iconst (v := 0) hx hb dX1_stepEnds_79 (by decide) ?_
      exact W.zret (v := 0) hx hb hr (by decide) (fun t ht hW => ⟨⟨0, ws_27, rfl, ⟨hT, (by decide)⟩, by rw [ht]; exact hP, by rw [hAe]; exact hD⟩, hS.F ht⟩) hS.2.2 dX1_stepEnds_80
    · refine lv_iconst (v := 1) hx hb dX1_stepEnds_75 (by decide) ?_
      refine lv_goto (tgt := 80) hx hb dX1_stepEnds_76 (by decide) ?_
      exact W.zret (v := 1) hx hb hr (by decide) (fun t ht hW => ⟨⟨1, ws_27, rfl, ⟨hT, (by decide)⟩, by rw [ht]; exact hP, by rw [hAe]; exact hD⟩, hS.F ht⟩) hS.2.2 dX1_stepEnds_80
  by_cases hk_37 : r_25 = 1
  · refine cm_cst hk_37 (lv_tableIn (off := 43) (tgt := 81) hx hb dX1_stepEnds_38 (by decide) (by decide) (by decide) (by decide) ?_)
    refine lv_aload_n hx hb dX1_stepEnds_81 rfl (lv_at hl 2 rfl) ?_
    refine ty_get (E := []) (ws := ws_27) (D := D) (ci := 1) (C := RX1) (T := TX1) (N := 14) hx hb hts in_X1 hown hK hP hT h_h0 rfl 1 (by decide) (hts _ kl_RX1_18) (fun _ h9 => h9) rfl dX1_stepEnds_82 (fun _ hv_38 hf_39 => ?_)
    obtain ⟨a_40, rfl, ha_41⟩ := hv_38
    refine ty_getN (E := []) (ws := ws_27) (D := D) (ci := 0) (C := RX0) (T := TX0) (N := 16) hx hb hts in_X0 hown hK hP hT ha_41 rfl 13 (by decide) (hts _ kl_RX1_76) (fun _ h9 => h9) rfl dX1_stepEnds_85 (fun _ hv_42 hf_43 => ?_)
    obtain ⟨x_44, rfl⟩ := hv_42
    refine lv_iload_n hx hb dX1_stepEnds_88 rfl (lv_at hl 0 rfl) ?_
    refine lv_icmp_gt (tgt := 96) hx hb dX1_stepEnds_89 (by decide) (fun hc_45 => ?_) (fun hc_45 => ?_)
    · refine lv_iconst (v := 0) hx hb dX1_stepEnds_96 (by decide) ?_
      exact W.zret (v := 0) hx hb hr (by decide) (fun t ht hW => ⟨⟨0, ws_27, rfl, ⟨hT, (by decide)⟩, by rw [ht]; exact hP, by rw [hAe]; exact hD⟩, hS.F ht⟩) hS.2.2 dX1_stepEnds_97
    · refine lv_iconst (v := 1) hx hb dX1_stepEnds_92 (by decide) ?_
      refine lv_goto (tgt := 97) hx hb dX1_stepEnds_93 (by decide) ?_
      exact W.zret (v := 1) hx hb hr (by decide) (fun t ht hW => ⟨⟨1, ws_27, rfl, ⟨hT, (by decide)⟩, by rw [ht]; exact hP, by rw [hAe]; exact hD⟩, hS.F ht⟩) hS.2.2 dX1_stepEnds_97
  by_cases hk_46 : r_25 = 2
  · refine cm_cst hk_46 (lv_tableIn (off := 60) (tgt := 98) hx hb dX1_stepEnds_38 (by decide) (by decide) (by decide) (by decide) ?_)
    refine lv_aload_n hx hb dX1_stepEnds_98 rfl (lv_at hl 2 rfl) ?_
    refine ty_get (E := []) (ws := ws_27) (D := D) (ci := 1) (C := RX1) (T := TX1) (N := 14) hx hb hts in_X1 hown hK hP hT h_h0 rfl 1 (by decide) (hts _ kl_RX1_18) (fun _ h9 => h9) rfl dX1_stepEnds_99 (fun _ hv_47 hf_48 => ?_)
    obtain ⟨a_49, rfl, ha_50⟩ := hv_47
    refine ty_getN (E := []) (ws := ws_27) (D := D) (ci := 0) (C := RX0) (T := TX0) (N := 16) hx hb hts in_X0 hown hK hP hT ha_50 rfl 14 (by decide) (hts _ kl_RX1_79) (fun _ h9 => h9) rfl dX1_stepEnds_102 (fun _ hv_51 hf_52 => ?_)
    obtain ⟨x_53, rfl⟩ := hv_51
    refine lv_iload_n hx hb dX1_stepEnds_105 rfl (lv_at hl 0 rfl) ?_
    refine lv_icmp_le (tgt := 119) hx hb dX1_stepEnds_106 (by decide) (fun hc_54 => ?_) (fun hc_54 => ?_)
    · refine lv_iconst (v := 1) hx hb dX1_stepEnds_119 (by decide) ?_
      refine lv_goto (tgt := 124) hx hb dX1_stepEnds_120 (by decide) ?_
      exact W.zret (v := 1) hx hb hr (by decide) (fun t ht hW => ⟨⟨1, ws_27, rfl, ⟨hT, (by decide)⟩, by rw [ht]; exact hP, by rw [hAe]; exact hD⟩, hS.F ht⟩) hS.2.2 dX1_stepEnds_124
    · refine lv_aload_n hx hb dX1_stepEnds_109 rfl (lv_at hl 2 rfl) ?_
      refine ty_get (E := []) (ws := ws_27) (D := D) (ci := 1) (C := RX1) (T := TX1) (N := 14) hx hb hts in_X1 hown hK hP hT h_h0 rfl 1 (by decide) (hts _ kl_RX1_18) (fun _ h9 => h9) rfl dX1_stepEnds_110 (fun _ hv_55 hf_56 => ?_)
      obtain ⟨a_57, rfl, ha_58⟩ := hv_55
      refine ty_getN (E := []) (ws := ws_27) (D := D) (ci := 0) (C := RX0) (T := TX0) (N := 16) hx hb hts in_X0 hown hK hP hT ha_58 rfl 6 (by decide) (hts _ kl_RX1_82) (fun _ h9 => h9) rfl dX1_stepEnds_113 (fun _ hv_59 hf_60 => ?_)
      obtain ⟨x_61, rfl⟩ := hv_59
      refine lv_if_ne (tgt := 123) hx hb dX1_stepEnds_116 (by decide) (fun hc_62 => ?_) (fun hc_62 => ?_)
      · refine lv_iconst (v := 0) hx hb dX1_stepEnds_123 (by decide) ?_
        exact W.zret (v := 0) hx hb hr (by decide) (fun t ht hW => ⟨⟨0, ws_27, rfl, ⟨hT, (by decide)⟩, by rw [ht]; exact hP, by rw [hAe]; exact hD⟩, hS.F ht⟩) hS.2.2 dX1_stepEnds_124
      · refine lv_iconst (v := 1) hx hb dX1_stepEnds_119 (by decide) ?_
        refine lv_goto (tgt := 124) hx hb dX1_stepEnds_120 (by decide) ?_
        exact W.zret (v := 1) hx hb hr (by decide) (fun t ht hW => ⟨⟨1, ws_27, rfl, ⟨hT, (by decide)⟩, by rw [ht]; exact hP, by rw [hAe]; exact hD⟩, hS.F ht⟩) hS.2.2 dX1_stepEnds_124
  refine lv_tableOut (tgt := 125) hx hb dX1_stepEnds_38 (ty_sw0_2 hk_28 hk_37 hk_46) (by decide) ?_
  refine lv_aload_n hx hb dX1_stepEnds_125 rfl (lv_at hl 2 rfl) ?_
  refine ty_get (E := []) (ws := ws_27) (D := D) (ci := 1) (C := RX1) (T := TX1) (N := 14) hx hb hts in_X1 hown hK hP hT h_h0 rfl 6 (by decide) (hts _ kl_RX1_52) (fun _ h9 => h9) rfl dX1_stepEnds_126 (fun _ hv_63 hf_64 => ?_)
  obtain ⟨x_65, rfl⟩ := hv_63
  refine lv_iload_n hx hb dX1_stepEnds_129 rfl (lv_at hl 1 rfl) ?_
  refine lv_icmp_lt (tgt := 137) hx hb dX1_stepEnds_130 (by decide) (fun hc_66 => ?_) (fun hc_66 => ?_)
  · refine lv_iconst (v := 0) hx hb dX1_stepEnds_137 (by decide) ?_
    exact W.zret (v := 0) hx hb hr (by decide) (fun t ht hW => ⟨⟨0, ws_27, rfl, ⟨hT, (by decide)⟩, by rw [ht]; exact hP, by rw [hAe]; exact hD⟩, hS.F ht⟩) hS.2.2 dX1_stepEnds_138
  · refine lv_iconst (v := 1) hx hb dX1_stepEnds_133 (by decide) ?_
    refine lv_goto (tgt := 138) hx hb dX1_stepEnds_134 (by decide) ?_
    exact W.zret (v := 1) hx hb hr (by decide) (fun t ht hW => ⟨⟨1, ws_27, rfl, ⟨hT, (by decide)⟩, by rw [ht]; exact hP, by rw [hAe]; exact hD⟩, hS.F ht⟩) hS.2.2 dX1_stepEnds_138
theorem dX1_makeRecord_0 : decode cX1_makeRecord 0 = .ok (.aload_n 0, 1) := by decide +kernel
theorem dX1_makeRecord_1 : decode cX1_makeRecord 1 = .ok (.getfield 18, 3) := by decide +kernel
theorem dX1_makeRecord_4 : decode cX1_makeRecord 4 = .ok (.getfield 110, 3) := by decide +kernel
theorem dX1_makeRecord_7 : decode cX1_makeRecord 7 = .ok (.astore_n 2, 1) := by decide +kernel
theorem dX1_makeRecord_8 : decode cX1_makeRecord 8 = .ok (.aload_n 0, 1) := by decide +kernel
theorem dX1_makeRecord_9 : decode cX1_makeRecord 9 = .ok (.getfield 18, 3) := by decide +kernel
theorem dX1_makeRecord_12 : decode cX1_makeRecord 12 = .ok (.getfield 79, 3) := by decide +kernel
theorem dX1_makeRecord_15 : decode cX1_makeRecord 15 = .ok (.aload_n 1, 1) := by decide +kernel
theorem dX1_makeRecord_16 : decode cX1_makeRecord 16 = .ok (.getfield 175, 3) := by decide +kernel
theorem dX1_makeRecord_19 : decode cX1_makeRecord 19 = .ok (.aload_n 0, 1) := by decide +kernel
theorem dX1_makeRecord_20 : decode cX1_makeRecord 20 = .ok (.getfield 46, 3) := by decide +kernel
theorem dX1_makeRecord_23 : decode cX1_makeRecord 23 = .ok (.aload_n 0, 1) := by decide +kernel
theorem dX1_makeRecord_24 : decode cX1_makeRecord 24 = .ok (.getfield 49, 3) := by decide +kernel
theorem dX1_makeRecord_27 : decode cX1_makeRecord 27 = .ok (.invokevirtual 231, 3) := by decide +kernel
theorem dX1_makeRecord_30 : decode cX1_makeRecord 30 = .ok (.if_icmp .gt 7, 3) := by decide +kernel
theorem dX1_makeRecord_33 : decode cX1_makeRecord 33 = .ok (.iconst 1, 1) := by decide +kernel
theorem dX1_makeRecord_34 : decode cX1_makeRecord 34 = .ok (.goto 4, 3) := by decide +kernel
theorem dX1_makeRecord_37 : decode cX1_makeRecord 37 = .ok (.iconst 0, 1) := by decide +kernel
theorem dX1_makeRecord_38 : decode cX1_makeRecord 38 = .ok (.istore_n 3, 1) := by decide +kernel
theorem dX1_makeRecord_39 : decode cX1_makeRecord 39 = .ok (.aload_n 0, 1) := by decide +kernel
theorem dX1_makeRecord_40 : decode cX1_makeRecord 40 = .ok (.getfield 69, 3) := by decide +kernel
theorem dX1_makeRecord_43 : decode cX1_makeRecord 43 = .ok (.ifCond .eq 11, 3) := by decide +kernel
theorem dX1_makeRecord_46 : decode cX1_makeRecord 46 = .ok (.iload_n 3, 1) := by decide +kernel
theorem dX1_makeRecord_47 : decode cX1_makeRecord 47 = .ok (.ifCond .eq 7, 3) := by decide +kernel
theorem dX1_makeRecord_50 : decode cX1_makeRecord 50 = .ok (.iconst 1, 1) := by decide +kernel
theorem dX1_makeRecord_51 : decode cX1_makeRecord 51 = .ok (.goto 4, 3) := by decide +kernel
theorem dX1_makeRecord_54 : decode cX1_makeRecord 54 = .ok (.iconst 0, 1) := by decide +kernel
theorem dX1_makeRecord_55 : decode cX1_makeRecord 55 = .ok (.istore 4, 2) := by decide +kernel
theorem dX1_makeRecord_57 : decode cX1_makeRecord 57 = .ok (.aload_n 1, 1) := by decide +kernel
theorem dX1_makeRecord_58 : decode cX1_makeRecord 58 = .ok (.getfield 240, 3) := by decide +kernel
theorem dX1_makeRecord_61 : decode cX1_makeRecord 61 = .ok (.astore 5, 2) := by decide +kernel
theorem dX1_makeRecord_63 : decode cX1_makeRecord 63 = .ok (.aload 5, 2) := by decide +kernel
theorem dX1_makeRecord_65 : decode cX1_makeRecord 65 = .ok (.invokevirtual 244, 3) := by decide +kernel
theorem dX1_makeRecord_68 : decode cX1_makeRecord 68 = .ok (.aload 5, 2) := by decide +kernel
theorem dX1_makeRecord_70 : decode cX1_makeRecord 70 = .ok (.getfield 249, 3) := by decide +kernel
theorem dX1_makeRecord_73 : decode cX1_makeRecord 73 = .ok (.astore 6, 2) := by decide +kernel
theorem dX1_makeRecord_75 : decode cX1_makeRecord 75 = .ok (.aload 5, 2) := by decide +kernel
theorem dX1_makeRecord_77 : decode cX1_makeRecord 77 = .ok (.aload 5, 2) := by decide +kernel
theorem dX1_makeRecord_79 : decode cX1_makeRecord 79 = .ok (.getfield 252, 3) := by decide +kernel
theorem dX1_makeRecord_82 : decode cX1_makeRecord 82 = .ok (.iconst 1, 1) := by decide +kernel
theorem dX1_makeRecord_83 : decode cX1_makeRecord 83 = .ok (.isub, 1) := by decide +kernel
theorem dX1_makeRecord_84 : decode cX1_makeRecord 84 = .ok (.invokevirtual 255, 3) := by decide +kernel
theorem dX1_makeRecord_87 : decode cX1_makeRecord 87 = .ok (.istore 7, 2) := by decide +kernel
theorem dX1_makeRecord_89 : decode cX1_makeRecord 89 = .ok (.aload 6, 2) := by decide +kernel
theorem dX1_makeRecord_91 : decode cX1_makeRecord 91 = .ok (.iload 7, 2) := by decide +kernel
theorem dX1_makeRecord_93 : decode cX1_makeRecord 93 = .ok (.iconst 0, 1) := by decide +kernel
theorem dX1_makeRecord_94 : decode cX1_makeRecord 94 = .ok (.iadd, 1) := by decide +kernel
theorem dX1_makeRecord_95 : decode cX1_makeRecord 95 = .ok (.aload_n 0, 1) := by decide +kernel
theorem dX1_makeRecord_96 : decode cX1_makeRecord 96 = .ok (.getfield 9, 3) := by decide +kernel
theorem dX1_makeRecord_99 : decode cX1_makeRecord 99 = .ok (.invokestatic 126, 3) := by decide +kernel
theorem dX1_makeRecord_102 : decode cX1_makeRecord 102 = .ok (.aload 6, 2) := by decide +kernel
theorem dX1_makeRecord_104 : decode cX1_makeRecord 104 = .ok (.iload 7, 2) := by decide +kernel
theorem dX1_makeRecord_106 : decode cX1_makeRecord 106 = .ok (.iconst 1, 1) := by decide +kernel
theorem dX1_makeRecord_107 : decode cX1_makeRecord 107 = .ok (.iadd, 1) := by decide +kernel
theorem dX1_makeRecord_108 : decode cX1_makeRecord 108 = .ok (.aload_n 2, 1) := by decide +kernel
theorem dX1_makeRecord_109 : decode cX1_makeRecord 109 = .ok (.getfield 114, 3) := by decide +kernel
theorem dX1_makeRecord_112 : decode cX1_makeRecord 112 = .ok (.aload_n 0, 1) := by decide +kernel
theorem dX1_makeRecord_113 : decode cX1_makeRecord 113 = .ok (.getfield 62, 3) := by decide +kernel
theorem dX1_makeRecord_116 : decode cX1_makeRecord 116 = .ok (.lsub, 1) := by decide +kernel
theorem dX1_makeRecord_117 : decode cX1_makeRecord 117 = .ok (.l2i, 1) := by decide +kernel
theorem dX1_makeRecord_118 : decode cX1_makeRecord 118 = .ok (.invokestatic 126, 3) := by decide +kernel
theorem dX1_makeRecord_121 : decode cX1_makeRecord 121 = .ok (.aload 6, 2) := by decide +kernel
theorem dX1_makeRecord_123 : decode cX1_makeRecord 123 = .ok (.iload 7, 2) := by decide +kernel
theorem dX1_makeRecord_125 : decode cX1_makeRecord 125 = .ok (.iconst 2, 1) := by decide +kernel
theorem dX1_makeRecord_126 : decode cX1_makeRecord 126 = .ok (.iadd, 1) := by decide +kernel
theorem dX1_makeRecord_127 : decode cX1_makeRecord 127 = .ok (.aload_n 2, 1) := by decide +kernel
theorem dX1_makeRecord_128 : decode cX1_makeRecord 128 = .ok (.getfield 119, 3) := by decide +kernel
theorem dX1_makeRecord_131 : decode cX1_makeRecord 131 = .ok (.aload_n 0, 1) := by decide +kernel
theorem dX1_makeRecord_132 : decode cX1_makeRecord 132 = .ok (.getfield 66, 3) := by decide +kernel
theorem dX1_makeRecord_135 : decode cX1_makeRecord 135 = .ok (.lsub, 1) := by decide +kernel
theorem dX1_makeRecord_136 : decode cX1_makeRecord 136 = .ok (.l2i, 1) := by decide +kernel
theorem dX1_makeRecord_137 : decode cX1_makeRecord 137 = .ok (.invokestatic 126, 3) := by decide +kernel
theorem dX1_makeRecord_140 : decode cX1_makeRecord 140 = .ok (.aload 6, 2) := by decide +kernel
theorem dX1_makeRecord_142 : decode cX1_makeRecord 142 = .ok (.iload 7, 2) := by decide +kernel
theorem dX1_makeRecord_144 : decode cX1_makeRecord 144 = .ok (.iconst 3, 1) := by decide +kernel
theorem dX1_makeRecord_145 : decode cX1_makeRecord 145 = .ok (.iadd, 1) := by decide +kernel
theorem dX1_makeRecord_146 : decode cX1_makeRecord 146 = .ok (.aload_n 1, 1) := by decide +kernel
theorem dX1_makeRecord_147 : decode cX1_makeRecord 147 = .ok (.getfield 258, 3) := by decide +kernel
theorem dX1_makeRecord_150 : decode cX1_makeRecord 150 = .ok (.invokestatic 126, 3) := by decide +kernel
theorem dX1_makeRecord_153 : decode cX1_makeRecord 153 = .ok (.aload 6, 2) := by decide +kernel
theorem dX1_makeRecord_155 : decode cX1_makeRecord 155 = .ok (.iload 7, 2) := by decide +kernel
theorem dX1_makeRecord_157 : decode cX1_makeRecord 157 = .ok (.iconst 4, 1) := by decide +kernel
theorem dX1_makeRecord_158 : decode cX1_makeRecord 158 = .ok (.iadd, 1) := by decide +kernel
theorem dX1_makeRecord_159 : decode cX1_makeRecord 159 = .ok (.iload 4, 2) := by decide +kernel
theorem dX1_makeRecord_161 : decode cX1_makeRecord 161 = .ok (.ifCond .eq 7, 3) := by decide +kernel
theorem dX1_makeRecord_164 : decode cX1_makeRecord 164 = .ok (.iconst 1, 1) := by decide +kernel
theorem dX1_makeRecord_165 : decode cX1_makeRecord 165 = .ok (.goto 4, 3) := by decide +kernel
theorem dX1_makeRecord_168 : decode cX1_makeRecord 168 = .ok (.iconst 0, 1) := by decide +kernel
theorem dX1_makeRecord_169 : decode cX1_makeRecord 169 = .ok (.invokestatic 126, 3) := by decide +kernel
theorem dX1_makeRecord_172 : decode cX1_makeRecord 172 = .ok (.iload 4, 2) := by decide +kernel
theorem dX1_makeRecord_174 : decode cX1_makeRecord 174 = .ok (.ifCond .eq 20, 3) := by decide +kernel
theorem dX1_makeRecord_177 : decode cX1_makeRecord 177 = .ok (.aload_n 0, 1) := by decide +kernel
theorem dX1_makeRecord_178 : decode cX1_makeRecord 178 = .ok (.getfield 25, 3) := by decide +kernel
theorem dX1_makeRecord_181 : decode cX1_makeRecord 181 = .ok (.aload_n 2, 1) := by decide +kernel
theorem dX1_makeRecord_182 : decode cX1_makeRecord 182 = .ok (.getfield 119, 3) := by decide +kernel
theorem dX1_makeRecord_185 : decode cX1_makeRecord 185 = .ok (.aload_n 0, 1) := by decide +kernel
theorem dX1_makeRecord_186 : decode cX1_makeRecord 186 = .ok (.getfield 73, 3) := by decide +kernel
theorem dX1_makeRecord_189 : decode cX1_makeRecord 189 = .ok (.lsub, 1) := by decide +kernel
theorem dX1_makeRecord_190 : decode cX1_makeRecord 190 = .ok (.l2i, 1) := by decide +kernel
theorem dX1_makeRecord_191 : decode cX1_makeRecord 191 = .ok (.putfield 261, 3) := by decide +kernel
theorem dX1_makeRecord_194 : decode cX1_makeRecord 194 = .ok (.aload_n 0, 1) := by decide +kernel
theorem dX1_makeRecord_195 : decode cX1_makeRecord 195 = .ok (.invokevirtual 97, 3) := by decide +kernel
theorem dX1_makeRecord_198 : decode cX1_makeRecord 198 = .ok (.return_, 1) := by decide +kernel
set_option maxRecDepth 100000 in
set_option maxHeartbeats 4000000 in
theorem t_X1_makeRecord (l : Launch) (D : va_G) (ct : Nat → ClassId) (S : ty_S) (ws : va_W) (ph : va_W → Prop) (xx : Nat → Nat → Nat → Prop) (h0 : Nat) (p1 : Nat) (sz : Nat) (hT : ty_V ct S ph ws) (h_h0 : S h0 = some (.inl 1)) (h_p1 : S p1 = some (.inl 9)) (hph : ty_C ph xx) (hy1 : ty_y1 xx) : Met l yX1_makeRecord (ws_ yX1_makeRecord cX1_makeRecord 8 none) ({ frames := 2, cells := 0, slots := 0, locals := 43 } : Room) (va_Pc [.ref h0, .ref p1] (cmP D ct sz ([] ++ ws))) (va_Qv (fun (u9 : va_W) => ty_V ct S ph u9) (cmB D ([] ++ ws) sz (fun (u9 : va_W) => ([] ++ u9))) (va_A ([] ++ ws) sz)) 0 0 (va_A ([] ++ ws) sz) := by
  refine Met.ofW (cc := cX1_makeRecord) (maxL := 8) (ret := none) (by decide) rfl ?_
  intro p e s m args below meth c s₁ B hml hv
  obtain ⟨rfl, hsz, hP, hK, hD0, hX⟩ := hv
  have hx := B.exec
  have hb := B.bytes
  have hr := B.returns
  have hts := ws_all (atoms_spec (ws := ws_ yX1_makeRecord cX1_makeRecord 8 none) B.pre)
  have hown : s.vm.findClass RX1 = some m.cls := findClass_of_methodNamed B.named
  have hlocks := B.notSynchronized
  subst hsz
  have hD := hD0.self (sz := s.heap.size)
  generalize hAe : va_A ([] ++ ws) s.heap.size = A at hD hX ⊢
  have hA : ∀ q : Nat, s.heap.size ≤ q → A q := fun q h => by rw [← hAe]; exact Or.inr h
  have hS : va_S A s.heap s.heap [] := va_S.rf
  have hl := lv_entry ([.ref h0, .ref p1]) (n := 8) (Nat.le_of_ble_eq_true rfl)
  rw [lg_entry_eq]
  generalize (lg_sl ([.ref h0, .ref p1]) ++ List.replicate (8 - (lg_sl ([.ref h0, .ref p1])).length) Slot.unset).toArray = ls at hl ⊢
  have hl : lv_has ls 8 [(0, .ref h0), (1, .ref p1)] := hl
  refine lv_aload_n hx hb dX1_makeRecord_0 rfl (lv_at hl 0 rfl) ?_
  refine ty_get (E := []) (ws := ws) (D := D) (ci := 1) (C := RX1) (T := TX1) (N := 14) hx hb hts in_X1 hown hK hP hT h_h0 rfl 1 (by decide) (hts _ kl_RX1_18) (fun _ h9 => h9) rfl dX1_makeRecord_1 (fun _ hv_1 hf_2 => ?_)
  obtain ⟨a_3, rfl, ha_4⟩ := hv_1
  refine ty_getN (E := []) (ws := ws) (D := D) (ci := 0) (C := RX0) (T := TX0) (N := 16) hx hb hts in_X0 hown hK hP hT ha_4 rfl 15 (by decide) (hts _ kl_RX1_110) (fun _ h9 => h9) rfl dX1_makeRecord_4 (fun _ hv_5 hf_6 => ?_)
  obtain ⟨a_7, rfl, ha_8⟩ := hv_5
  refine lv_astore_n (lv' := [(2, .ref a_7), (0, .ref h0), (1, .ref p1)]) hx hb dX1_makeRecord_7 rfl hl (by decide) rfl (fun ls hl => ?_)
  refine lv_aload_n hx hb dX1_makeRecord_8 rfl (lv_at hl 1 rfl) ?_
  refine ty_get (E := []) (ws := ws) (D := D) (ci := 1) (C := RX1) (T := TX1) (N := 14) hx hb hts in_X1 hown hK hP hT h_h0 rfl 1 (by decide) (hts _ kl_RX1_18) (fun _ h9 => h9) rfl dX1_makeRecord_9 (fun _ hv_9 hf_10 => ?_)
  obtain ⟨a_11, rfl, ha_12⟩ := hv_9
  refine ty_getN (E := []) (ws := ws) (D := D) (ci := 0) (C := RX0) (T := TX0) (N := 16) hx hb hts in_X0 hown hK hP hT ha_12 rfl 14 (by decide) (hts _ kl_RX1_79) (fun _ h9 => h9) rfl dX1_makeRecord_12 (fun _ hv_13 hf_14 => ?_)
  obtain ⟨x_15, rfl⟩ := hv_13
  refine lv_aload_n hx hb dX1_makeRecord_15 rfl (lv_at hl 2 rfl) ?_
  refine ty_getN (E := []) (ws := ws) (D := D) (ci := 9) (C := RX9) (T := TX9) (N := 8) hx hb hts in_X9 hown hK hP hT h_p1 rfl 3 (by decide) (hts _ kl_RX1_175) (fun _ h9 => h9) rfl dX1_makeRecord_16 (fun _ hv_16 hf_17 => ?_)
  obtain ⟨a_18, rfl, ha_19⟩ := hv_16
  refine lv_aload_n hx hb dX1_makeRecord_19 rfl (lv_at hl 1 rfl) ?_
  refine ty_get (E := []) (ws := ws) (D := D) (ci := 1) (C := RX1) (T := TX1) (N := 14) hx hb hts in_X1 hown hK hP hT h_h0 rfl 4 (by decide) (hts _ kl_RX1_46) (fun _ h9 => h9) rfl dX1_makeRecord_20 (fun _ hv_20 hf_21 => ?_)
  obtain ⟨x_22, rfl⟩ := hv_20
  refine lv_aload_n hx hb dX1_makeRecord_23 rfl (lv_at hl 1 rfl) ?_
  refine ty_get (E := []) (ws := ws) (D := D) (ci := 1) (C := RX1) (T := TX1) (N := 14) hx hb hts in_X1 hown hK hP hT h_h0 rfl 5 (by decide) (hts _ kl_RX1_49) (fun _ h9 => h9) rfl dX1_makeRecord_24 (fun _ hv_23 hf_24 => ?_)
  obtain ⟨x_25, rfl⟩ := hv_23
  refine ty_ki (wr := []) (wc := ([] ++ ws)) (va_runVN (As := [.int x_22, .int x_25]) (rest := [.int x_15]) ⟨hx, hb, hml, hown, hts⟩ (t_X5_secondOf l D ct S ws ph xx a_18 x_22 x_25 _ hT ha_19 hph hy1) (cm_VN 2 hts kc_X5_secondOf ki_RX5 kl_RX1_231 kv_X5_secondOf kx_X5_secondOf kd_X5_secondOf ⟨Nat.le_of_ble_eq_true rfl, Nat.le_of_ble_eq_true rfl⟩) (ty_preV (wr := []) (E := []) (ws := ws) (ci := 5) hP hK hD hS hA hX hT rfl ha_19) rfl rfl hl.1 rfl (lv_room (Nat.le_of_ble_eq_true rfl)) dX1_makeRecord_27 ⟨Nat.le_of_ble_eq_true rfl, Nat.le_of_ble_eq_true rfl⟩) hP hD hS hA (fun r_26 u H locs hw_27 hP hD hS => ?_)
  obtain ⟨ws_28, rfl⟩ : ∃ z, z = u := ⟨_, rfl⟩
  have hT := hw_27
  have hP : va_P D vwCl ([] ++ ws_28) H := hP
  have hD : va_D A ([] ++ ws_28) := hD
  refine lv_icmp_gt (tgt := 37) hx hb dX1_makeRecord_30 (by decide) (fun hc_29 => ?_) (fun hc_29 => ?_)
  · refine lv_iconst (v := 0) hx hb dX1_makeRecord_37 (by decide) ?_
    refine lv_istore_n (lv' := [(3, .int 0), (2, .ref a_7), (0, .ref h0), (1, .ref p1)]) hx hb dX1_makeRecord_38 rfl hl (by decide) rfl (fun ls hl => ?_)
    refine lv_aload_n hx hb dX1_makeRecord_39 rfl (lv_at hl 2 rfl) ?_
    refine ty_get (E := []) (ws := ws_28) (D := D) (ci := 1) (C := RX1) (T := TX1) (N := 14) hx hb hts in_X1 hown hK hP hT h_h0 rfl 12 (by decide) (hts _ kl_RX1_69) (fun _ h9 => h9) rfl dX1_makeRecord_40 (fun _ hv_30 hf_31 => ?_)
    obtain ⟨x_32, rfl, hz_33⟩ := hv_30
    refine lv_if_eq (tgt := 54) hx hb dX1_makeRecord_43 (by decide) (fun hc_34 => ?_) (fun hc_34 => ?_)
    · refine lv_iconst (v := 0) hx hb dX1_makeRecord_54 (by decide) ?_
      refine lv_istore (lv' := [(4, .int 0), (3, .int 0), (2, .ref a_7), (0, .ref h0), (1, .ref p1)]) hx hb dX1_makeRecord_55 hl (by decide) rfl (fun ls hl => ?_)
      refine lv_aload_n hx hb dX1_makeRecord_57 rfl (lv_at hl 4 rfl) ?_
      refine ty_getN (E := []) (ws := ws_28) (D := D) (ci := 9) (C := RX9) (T := TX9) (N := 8) hx hb hts in_X9 hown hK hP hT h_p1 rfl 6 (by decide) (hts _ kl_RX1_240) (fun _ h9 => h9) rfl dX1_makeRecord_58 (fun _ hv_35 hf_36 => ?_)
      obtain ⟨a_37, rfl, ha_38⟩ := hv_35
      refine lv_astore (lv' := [(5, .ref a_37), (4, .int 0), (3, .int 0), (2, .ref a_7), (0, .ref h0), (1, .ref p1)]) hx hb dX1_makeRecord_61 hl (by decide) rfl (fun ls hl => ?_)
      refine lv_aload hx hb dX1_makeRecord_63 (lv_at hl 0 rfl) ?_
      refine ty_kv (wr := []) (wc := ([] ++ ws_28)) (va_runVN (As := []) (rest := []) ⟨hx, hb, hml, hown, hts⟩ (t_X8_addRow l D ct S ws_28 ph xx a_37 _ hT ha_38 hph hy1) (cm_VN 0 hts kc_X8_addRow ki_RX8 kl_RX1_244 kv_X8_addRow kx_X8_addRow kd_X8_addRow ⟨Nat.le_of_ble_eq_true rfl, Nat.le_of_ble_eq_true rfl⟩) (ty_preV (wr := []) (E := []) (ws := ws_28) (ci := 8) hP hK hD hS hA hX hT rfl ha_38) rfl rfl hl.1 rfl (lv_room (Nat.le_of_ble_eq_true rfl)) dX1_makeRecord_65 ⟨Nat.le_of_ble_eq_true rfl, Nat.le_of_ble_eq_true rfl⟩) hP hD hS hA (fun u H locs hw_40 hP hD hS => ?_)
      obtain ⟨ws_41, rfl⟩ : ∃ z, z = u := ⟨_, rfl⟩
      have hT := hw_40
      have hP : va_P D vwCl ([] ++ ws_41) H := hP
      have hD : va_D A ([] ++ ws_41) := hD
      refine lv_aload hx hb dX1_makeRecord_68 (lv_at hl 0 rfl) ?_
      refine ty_getN (E := []) (ws := ws_41) (D := D) (ci := 8) (C := RX8) (T := TX8) (N := 5) hx hb hts in_X8 hown hK hP hT ha_38 rfl 2 (by decide) (hts _ kl_RX1_249) (fun _ h9 => h9) rfl dX1_makeRecord_70 (fun _ hv_42 hf_43 => ?_)
      obtain ⟨a_44, n_45, rfl, ha_46⟩ := hv_42
      refine lv_astore (lv' := [(6, .ref a_44), (5, .ref a_37), (4, .int 0), (3, .int 0), (2, .ref a_7), (0, .ref h0), (1, .ref p1)]) hx hb dX1_makeRecord_73 hl (by decide) rfl (fun ls hl => ?_)
      refine lv_aload hx hb dX1_makeRecord_75 (lv_at hl 1 rfl) ?_
      refine lv_aload hx hb dX1_makeRecord_77 (lv_at hl 1 rfl) ?_
      refine ty_getN (E := []) (ws := ws_41) (D := D) (ci := 8) (C := RX8) (T := TX8) (N := 5) hx hb hts in_X8 hown hK hP hT ha_38 rfl 4 (by decide) (hts _ kl_RX1_252) (fun _ h9 => h9) rfl dX1_makeRecord_79 (fun _ hv_47 hf_48 => ?_)
      obtain ⟨x_49, rfl⟩ := hv_47
      refine lv_iconst (v := 1) hx hb dX1_makeRecord_82 (by decide) ?_
      refine lv_isub hx hb dX1_makeRecord_83 ?_
      refine lv_topi (fun x_50 _ => ?_)
      refine ty_ki (wr := []) (wc := ([] ++ ws_41)) (va_runVN (As := [.int x_50]) (rest := []) ⟨hx, hb, hml, hown, hts⟩ (t_X8_placeOf l D ct S ws_41 ph xx a_37 x_50 _ hT ha_38 hph hy1) (cm_VN 1 hts kc_X8_placeOf ki_RX8 kl_RX1_255 kv_X8_placeOf kx_X8_placeOf kd_X8_placeOf ⟨Nat.le_of_ble_eq_true rfl, Nat.le_of_ble_eq_true rfl⟩) (ty_preV (wr := []) (E := []) (ws := ws_41) (ci := 8) hP hK hD hS hA hX hT rfl ha_38) rfl rfl hl.1 rfl (lv_room (Nat.le_of_ble_eq_true rfl)) dX1_makeRecord_84 ⟨Nat.le_of_ble_eq_true rfl, Nat.le_of_ble_eq_true rfl⟩) hP hD hS hA (fun r_51 u H locs hw_52 hP hD hS => ?_)
      obtain ⟨ws_53, rfl⟩ : ∃ z, z = u := ⟨_, rfl⟩
      have hT := hw_52
      have hP : va_P D vwCl ([] ++ ws_53) H := hP
      have hD : va_D A ([] ++ ws_53) := hD
      refine lv_istore (lv' := [(7, .int r_51), (6, .ref a_44), (5, .ref a_37), (4, .int 0), (3, .int 0), (2, .ref a_7), (0, .ref h0), (1, .ref p1)]) hx hb dX1_makeRecord_87 hl (by decide) rfl (fun ls hl => ?_)
      refine lv_aload hx hb dX1_makeRecord_89 (lv_at hl 1 rfl) ?_
      refine lv_iload hx hb dX1_makeRecord_91 (lv_at hl 0 rfl) ?_
      refine lv_iconst (v := 0) hx hb dX1_makeRecord_93 (by decide) ?_
      refine lv_iadd hx hb dX1_makeRecord_94 ?_
      refine lv_topi (fun x_54 _ => ?_)
      refine lv_aload_n hx hb dX1_makeRecord_95 rfl (lv_at hl 6 rfl) ?_
      refine ty_get (E := []) (ws := ws_53) (D := D) (ci := 1) (C := RX1) (T := TX1) (N := 14) hx hb hts in_X1 hown hK hP hT h_h0 rfl 0 (by decide) (hts _ kl_RX1_9) (fun _ h9 => h9) rfl dX1_makeRecord_96 (fun _ hv_55 hf_56 => ?_)
      obtain ⟨x_57, rfl⟩ := hv_55
      refine ty_kv (wr := []) (wc := ([] ++ ws_53)) (va_runSN (As := [.ref a_44, .int x_54, .int x_57]) (rest := []) ⟨hx, hb, hml, hown, hts⟩ (t_X10_put l D ct S ws_53 ph xx a_44 n_45 x_54 x_57 _ hT ha_46 hph hy1) (cm_SN 3 hts kc_X10_put ki_RX10 kl_RX1_126 ks_X10_put kd_X10_put ⟨Nat.le_of_ble_eq_true rfl, Nat.le_of_ble_eq_true rfl⟩) (ty_preS (wr := []) (wc := ([] ++ ws_53)) hP hK hD hS hA hX) rfl rfl hl.1 rfl (lv_room (Nat.le_of_ble_eq_true rfl)) dX1_makeRecord_99 ⟨Nat.le_of_ble_eq_true rfl, Nat.le_of_ble_eq_true rfl⟩) hP hD hS hA (fun u H locs hw_59 hP hD hS => ?_)
      obtain ⟨ws_60, rfl⟩ : ∃ z, z = u := ⟨_, rfl⟩
      obtain ⟨hT, hp_61⟩ := hw_59
      have hp_61 : ty_fdle ws_53 ws_60 := hp_61
      have hP : va_P D vwCl ([] ++ ws_60) H := hP
      have hD : va_D A ([] ++ ws_60) := hD
      refine lv_aload hx hb dX1_makeRecord_102 (lv_at hl 1 rfl) ?_
      refine lv_iload hx hb dX1_makeRecord_104 (lv_at hl 0 rfl) ?_
      refine lv_iconst (v := 1) hx hb dX1_makeRecord_106 (by decide) ?_
      refine lv_iadd hx hb dX1_makeRecord_107 ?_
      refine lv_topi (fun x_62 _ => ?_)
      refine lv_aload_n hx hb dX1_makeRecord_108 rfl (lv_at hl 5 rfl) ?_
      refine ty_getN (E := []) (ws := ws_60) (D := D) (ci := 3) (C := RX3) (T := TX3) (N := 4) hx hb hts in_X3 hown hK hP hT ha_8 rfl 0 (by decide) (hts _ kl_RX1_114) (fun _ h9 => h9) rfl dX1_makeRecord_109 (fun _ hv_63 hf_64 => ?_)
      obtain ⟨x_65, rfl⟩ := hv_63
      refine lv_aload_n hx hb dX1_makeRecord_112 rfl (lv_at hl 6 rfl) ?_
      refine ty_get (E := []) (ws := ws_60) (D := D) (ci := 1) (C := RX1) (T := TX1) (N := 14) hx hb hts in_X1 hown hK hP hT h_h0 rfl 10 (by decide) (hts _ kl_RX1_62) (fun _ h9 => h9) rfl dX1_makeRecord_113 (fun _ hv_66 hf_67 => ?_)
      obtain ⟨x_68, rfl⟩ := hv_66
      refine lv_lsub hx hb dX1_makeRecord_116 ?_
      refine lv_topl (fun x_69 _ => ?_)
      refine lv_l2i hx hb dX1_makeRecord_117 rfl ?_
      refine lv_topi (fun x_70 _ => ?_)
      refine ty_kv (wr := []) (wc := ([] ++ ws_60)) (va_runSN (As := [.ref a_44, .int x_62, .int x_70]) (rest := []) ⟨hx, hb, hml, hown, hts⟩ (t_X10_put l D ct S ws_60 ph xx a_44 n_45 x_62 x_70 _ hT ha_46 hph hy1) (cm_SN 3 hts kc_X10_put ki_RX10 kl_RX1_126 ks_X10_put kd_X10_put ⟨Nat.le_of_ble_eq_true rfl, Nat.le_of_ble_eq_true rfl⟩) (ty_preS (wr := []) (wc := ([] ++ ws_60)) hP hK hD hS hA hX) rfl rfl hl.1 rfl (lv_room (Nat.le_of_ble_eq_true rfl)) dX1_makeRecord_118 ⟨Nat.le_of_ble_eq_true rfl, Nat.le_of_ble_eq_true rfl⟩) hP hD hS hA (fun u H locs hw_72 hP hD hS => ?_)
      obtain ⟨ws_73, rfl⟩ : ∃ z, z = u := ⟨_, rfl⟩
      obtain ⟨hT, hp_74⟩ := hw_72
      have hp_74 : ty_fdle ws_60 ws_73 := hp_74
      have hP : va_P D vwCl ([] ++ ws_73) H := hP
      have hD : va_D A ([] ++ ws_73) := hD
      refine lv_aload hx hb dX1_makeRecord_121 (lv_at hl 1 rfl) ?_
      refine lv_iload hx hb dX1_makeRecord_123 (lv_at hl 0 rfl) ?_
      refine lv_iconst (v := 2) hx hb dX1_makeRecord_125 (by decide) ?_
      refine lv_iadd hx hb dX1_makeRecord_126 ?_
      refine lv_topi (fun x_75 _ => ?_)
      refine lv_aload_n hx hb dX1_makeRecord_127 rfl (lv_at hl 5 rfl) ?_
      refine ty_getN (E := []) (ws := ws_73) (D := D) (ci := 3) (C := RX3) (T := TX3) (N := 4) hx hb hts in_X3 hown hK hP hT ha_8 rfl 1 (by decide) (hts _ kl_RX1_119) (fun _ h9 => h9) rfl dX1_makeRecord_128 (fun _ hv_76 hf_77 => ?_)
      obtain ⟨x_78, rfl⟩ := hv_76
      refine lv_aload_n hx hb dX1_makeRecord_131 rfl (lv_at hl 6 rfl) ?_
      refine ty_get (E := []) (ws := ws_73) (D := D) (ci := 1) (C := RX1) (T := TX1) (N := 14) hx hb hts in_X1 hown hK hP hT h_h0 rfl 11 (by decide) (hts _ kl_RX1_66) (fun _ h9 => h9) rfl dX1_makeRecord_132 (fun _ hv_79 hf_80 => ?_)
      obtain ⟨x_81, rfl⟩ := hv_79
      refine lv_lsub hx hb dX1_makeRecord_135 ?_
      refine lv_topl (fun x_82 _ => ?_)
      refine lv_l2i hx hb dX1_makeRecord_136 rfl ?_
      refine lv_topi (fun x_83 _ => ?_)
      refine ty_kv (wr := []) (wc := ([] ++ ws_73)) (va_runSN (As := [.ref a_44, .int x_75, .int x_83]) (rest := []) ⟨hx, hb, hml, hown, hts⟩ (t_X10_put l D ct S ws_73 ph xx a_44 n_45 x_75 x_83 _ hT ha_46 hph hy1) (cm_SN 3 hts kc_X10_put ki_RX10 kl_RX1_126 ks_X10_put kd_X10_put ⟨Nat.le_of_ble_eq_true rfl, Nat.le_of_ble_eq_true rfl⟩) (ty_preS (wr := []) (wc := ([] ++ ws_73)) hP hK hD hS hA hX) rfl rfl hl.1 rfl (lv_room (Nat.le_of_ble_eq_true rfl)) dX1_makeRecord_137 ⟨Nat.le_of_ble_eq_true rfl, Nat.le_of_ble_eq_true rfl⟩) hP hD hS hA (fun u H locs hw_85 hP hD hS => ?_)
      obtain ⟨ws_86, rfl⟩ : ∃ z, z = u := ⟨_, rfl⟩
      obtain ⟨hT, hp_87⟩ := hw_85
      have hp_87 : ty_fdle ws_73 ws_86 := hp_87
      have hP : va_P D vwCl ([] ++ ws_86) H := hP
      have hD : va_D A ([] ++ ws_86) := hD
      refine lv_aload hx hb dX1_makeRecord_140 (lv_at hl 1 rfl) ?_
      refine lv_iload hx hb dX1_makeRecord_142 (lv_at hl 0 rfl) ?_
      refine lv_iconst (v := 3) hx hb dX1_makeRecord_144 (by decide) ?_
      refine lv_iadd hx hb dX1_makeRecord_145 ?_
      refine lv_topi (fun x_88 _ => ?_)
      refine lv_aload_n hx hb dX1_makeRecord_146 rfl (lv_at hl 7 rfl) ?_
      refine ty_getN (E := []) (ws := ws_86) (D := D) (ci := 9) (C := RX9) (T := TX9) (N := 8) hx hb hts in_X9 hown hK hP hT h_p1 rfl 0 (by decide) (hts _ kl_RX1_258) (fun _ h9 => h9) rfl dX1_makeRecord_147 (fun _ hv_89 hf_90 => ?_)
      obtain ⟨x_91, rfl⟩ := hv_89
      refine ty_kv (wr := []) (wc := ([] ++ ws_86)) (va_runSN (As := [.ref a_44, .int x_88, .int x_91]) (rest := []) ⟨hx, hb, hml, hown, hts⟩ (t_X10_put l D ct S ws_86 ph xx a_44 n_45 x_88 x_91 _ hT ha_46 hph hy1) (cm_SN 3 hts kc_X10_put ki_RX10 kl_RX1_126 ks_X10_put kd_X10_put ⟨Nat.le_of_ble_eq_true rfl, Nat.le_of_ble_eq_true rfl⟩) (ty_preS (wr := []) (wc := ([] ++ ws_86)) hP hK hD hS hA hX) rfl rfl hl.1 rfl (lv_room (Nat.le_of_ble_eq_true rfl)) dX1_makeRecord_150 ⟨Nat.le_of_ble_eq_true rfl, Nat.le_of_ble_eq_true rfl⟩) hP hD hS hA (fun u H locs hw_93 hP hD hS => ?_)
      obtain ⟨ws_94, rfl⟩ : ∃ z, z = u := ⟨_, rfl⟩
      obtain ⟨hT, hp_95⟩ := hw_93
      have hp_95 : ty_fdle ws_86 ws_94 := hp_95
      have hP : va_P D vwCl ([] ++ ws_94) H := hP
      have hD : va_D A ([] ++ ws_94) := hD
      refine lv_aload hx hb dX1_makeRecord_153 (lv_at hl 1 rfl) ?_
      refine lv_iload hx hb dX1_makeRecord_155 (lv_at hl 0 rfl) ?_
      refine lv_iconst (v := 4) hx hb dX1_makeRecord_157 (by decide) ?_
      refine lv_iadd hx hb dX1_makeRecord_158 ?_
      refine lv_topi (fun x_96 _ => ?_)
      refine lv_iload hx hb dX1_makeRecord_159 (lv_at hl 3 rfl) ?_
      refine lv_if_eq (tgt := 168) hx hb dX1_makeRecord_161 (by decide) (fun _ => ?_) (fun hc => absurd (by decide) hc)
      refine lv_iconst (v := 0) hx hb dX1_makeRecord_168 (by decide) ?_
      refine ty_kv (wr := []) (wc := ([] ++ ws_94)) (va_runSN (As := [.ref a_44, .int x_96, .int 0]) (rest := []) ⟨hx, hb, hml, hown, hts⟩ (t_X10_put l D ct S ws_94 ph xx a_44 n_45 x_96 (0 : Int32) _ hT ha_46 hph hy1) (cm_SN 3 hts kc_X10_put ki_RX10 kl_RX1_126 ks_X10_put kd_X10_put ⟨Nat.le_of_ble_eq_true rfl, Nat.le_of_ble_eq_true rfl⟩) (ty_preS (wr := []) (wc := ([] ++ ws_94)) hP hK hD hS hA hX) rfl rfl hl.1 rfl (lv_room (Nat.le_of_ble_eq_true rfl)) dX1_makeRecord_169 ⟨Nat.le_of_ble_eq_true rfl, Nat.le_of_ble_eq_true rfl⟩) hP hD hS hA (fun u H locs hw_98 hP hD hS => ?_)
      obtain ⟨ws_99, rfl⟩ : ∃ z, z = u := ⟨_, rfl⟩
      obtain ⟨hT, hp_100⟩ := hw_98
      have hp_100 : ty_fdle ws_94 ws_99 := hp_100
      have hP : va_P D vwCl ([] ++ ws_99) H := hP
      have hD : va_D A ([] ++ ws_99) := hD
      refine lv_iload hx hb dX1_makeRecord_172 (lv_at hl 3 rfl) ?_
      refine lv_if_eq (tgt := 194) hx hb dX1_makeRecord_174 (by decide) (fun _ => ?_) (fun hc => absurd (by decide) hc)
      refine lv_aload_n hx hb dX1_makeRecord_194 rfl (lv_at hl 6 rfl) ?_
      refine ty_kv (wr := []) (wc := ([] ++ ws_99)) (va_runV (As := []) (rest := []) ⟨hx, hb, hml, hown, hts⟩ (t_X1_countFromHere l D ct S ws_99 ph xx h0 _ hT h_h0 hph hy1) (cm_V 0 hts kc_X1_countFromHere ki_RX1 kl_RX1_97 kv_X1_countFromHere kx_X1_countFromHere kd_X1_countFromHere ⟨Nat.le_of_ble_eq_true rfl, Nat.le_of_ble_eq_true rfl⟩) (ty_preV (wr := []) (E := []) (ws := ws_99) (ci := 1) hP hK hD hS hA hX hT rfl h_h0) rfl rfl hl.1 rfl (lv_room (Nat.le_of_ble_eq_true rfl)) dX1_makeRecord_195 ⟨Nat.le_of_ble_eq_true rfl, Nat.le_of_ble_eq_true rfl⟩) hP hD hS hA (fun u H locs hw_102 hP hD hS => ?_)
      obtain ⟨ws_103, rfl⟩ : ∃ z, z = u := ⟨_, rfl⟩
      have hT := hw_102
      have hP : va_P D vwCl ([] ++ ws_103) H := hP
      have hD : va_D A ([] ++ ws_103) := hD
      exact W.vret hx hb hr (fun t ht hW => ⟨⟨ws_103, rfl, hT, by rw [ht]; exact hP, by rw [hAe]; exact hD⟩, hS.F ht⟩) hS.2.2 dX1_makeRecord_198
    · refine lv_iload_n hx hb dX1_makeRecord_46 rfl (lv_at hl 0 rfl) ?_
      refine lv_if_eq (tgt := 54) hx hb dX1_makeRecord_47 (by decide) (fun _ => ?_) (fun hc => absurd (by decide) hc)
      refine lv_iconst (v := 0) hx hb dX1_makeRecord_54 (by decide) ?_
      refine lv_istore (lv' := [(4, .int 0), (3, .int 0), (2, .ref a_7), (0, .ref h0), (1, .ref p1)]) hx hb dX1_makeRecord_55 hl (by decide) rfl (fun ls hl => ?_)
      refine lv_aload_n hx hb dX1_makeRecord_57 rfl (lv_at hl 4 rfl) ?_
      refine ty_getN (E := []) (ws := ws_28) (D := D) (ci := 9) (C := RX9) (T := TX9) (N := 8) hx hb hts in_X9 hown hK hP hT h_p1 rfl 6 (by decide) (hts _ kl_RX1_240) (fun _ h9 => h9) rfl dX1_makeRecord_58 (fun _ hv_104 hf_105 => ?_)
      obtain ⟨a_106, rfl, ha_107⟩ := hv_104
      refine lv_astore (lv' := [(5, .ref a_106), (4, .int 0), (3, .int 0), (2, .ref a_7), (0, .ref h0), (1, .ref p1)]) hx hb dX1_makeRecord_61 hl (by decide) rfl (fun ls hl => ?_)
      refine lv_aload hx hb dX1_makeRecord_63 (lv_at hl 0 rfl) ?_
      refine ty_kv (wr := []) (wc := ([] ++ ws_28)) (va_runVN (As := []) (rest := []) ⟨hx, hb, hml, hown, hts⟩ (t_X8_addRow l D ct S ws_28 ph xx a_106 _ hT ha_107 hph hy1) (cm_VN 0 hts kc_X8_addRow ki_RX8 kl_RX1_244 kv_X8_addRow kx_X8_addRow kd_X8_addRow ⟨Nat.le_of_ble_eq_true rfl, Nat.le_of_ble_eq_true rfl⟩) (ty_preV (wr := []) (E := []) (ws := ws_28) (ci := 8) hP hK hD hS hA hX hT rfl ha_107) rfl rfl hl.1 rfl (lv_room (Nat.le_of_ble_eq_true rfl)) dX1_makeRecord_65 ⟨Nat.le_of_ble_eq_true rfl, Nat.le_of_ble_eq_true rfl⟩) hP hD hS hA (fun u H locs hw_109 hP hD hS => ?_)
      obtain ⟨ws_110, rfl⟩ : ∃ z, z = u := ⟨_, rfl⟩
      have hT := hw_109
      have hP : va_P D vwCl ([] ++ ws_110) H := hP
      have hD : va_D A ([] ++ ws_110) := hD
      refine lv_aload hx hb dX1_makeRecord_68 (lv_at hl 0 rfl) ?_
      refine ty_getN (E := []) (ws := ws_110) (D := D) (ci := 8) (C := RX8) (T := TX8) (N := 5) hx hb hts in_X8 hown hK hP hT ha_107 rfl 2 (by decide) (hts _ kl_RX1_249) (fun _ h9 => h9) rfl dX1_makeRecord_70 (fun _ hv_111 hf_112 => ?_)
      obtain ⟨a_113, n_114, rfl, ha_115⟩ := hv_111
      refine lv_astore (lv' := [(6, .ref a_113), (5, .ref a_106), (4, .int 0), (3, .int 0), (2, .ref a_7), (0, .ref h0), (1, .ref p1)]) hx hb dX1_makeRecord_73 hl (by decide) rfl (fun ls hl => ?_)
      refine lv_aload hx hb dX1_makeRecord_75 (lv_at hl 1 rfl) ?_
      refine lv_aload hx hb dX1_makeRecord_77 (lv_at hl 1 rfl) ?_
      refine ty_getN (E := []) (ws := ws_110) (D := D) (ci := 8) (C := RX8) (T := TX8) (N := 5) hx hb hts in_X8 hown hK hP hT ha_107 rfl 4 (by decide) (hts _ kl_RX1_252) (fun _ h9 => h9) rfl dX1_makeRecord_79 (fun _ hv_116 hf_117 => ?_)
      obtain ⟨x_118, rfl⟩ := hv_116
      refine lv_iconst (v := 1) hx hb dX1_makeRecord_82 (by decide) ?_
      refine lv_isub hx hb dX1_makeRecord_83 ?_
      refine lv_topi (fun x_119 _ => ?_)
      refine ty_ki (wr := []) (wc := ([] ++ ws_110)) (va_runVN (As := [.int x_119]) (rest := []) ⟨hx, hb, hml, hown, hts⟩ (t_X8_placeOf l D ct S ws_110 ph xx a_106 x_119 _ hT ha_107 hph hy1) (cm_VN 1 hts kc_X8_placeOf ki_RX8 kl_RX1_255 kv_X8_placeOf kx_X8_placeOf kd_X8_placeOf ⟨Nat.le_of_ble_eq_true rfl, Nat.le_of_ble_eq_true rfl⟩) (ty_preV (wr := []) (E := []) (ws := ws_110) (ci := 8) hP hK hD hS hA hX hT rfl ha_107) rfl rfl hl.1 rfl (lv_room (Nat.le_of_ble_eq_true rfl)) dX1_makeRecord_84 ⟨Nat.le_of_ble_eq_true rfl, Nat.le_of_ble_eq_true rfl⟩) hP hD hS hA (fun r_120 u H locs hw_121 hP hD hS => ?_)
      obtain ⟨ws_122, rfl⟩ : ∃ z, z = u := ⟨_, rfl⟩
      have hT := hw_121
      have hP : va_P D vwCl ([] ++ ws_122) H := hP
      have hD : va_D A ([] ++ ws_122) := hD
      refine lv_istore (lv' := [(7, .int r_120), (6, .ref a_113), (5, .ref a_106), (4, .int 0), (3, .int 0), (2, .ref a_7), (0, .ref h0), (1, .ref p1)]) hx hb dX1_makeRecord_87 hl (by decide) rfl (fun ls hl => ?_)
      refine lv_aload hx hb dX1_makeRecord_89 (lv_at hl 1 rfl) ?_
      refine lv_iload hx hb dX1_makeRecord_91 (lv_at hl 0 rfl) ?_
      refine lv_iconst (v := 0) hx hb dX1_makeRecord_93 (by decide) ?_
      refine lv_iadd hx hb dX1_makeRecord_94 ?_
      refine lv_topi (fun x_123 _ => ?_)
      refine lv_aload_n hx hb dX1_makeRecord_95 rfl (lv_at hl 6 rfl) ?_
      refine ty_get (E := []) (ws := ws_122) (D := D) (ci := 1) (C := RX1) (T := TX1) (N := 14) hx hb hts in_X1 hown hK hP hT h_h0 rfl 0 (by decide) (hts _ kl_RX1_9) (fun _ h9 => h9) rfl dX1_makeRecord_96 (fun _ hv_124 hf_125 => ?_)
      obtain ⟨x_126, rfl⟩ := hv_124
      refine ty_kv (wr := []) (wc := ([] ++ ws_122)) (va_runSN (As := [.ref a_113, .int x_123, .int x_126]) (rest := []) ⟨hx, hb, hml, hown, hts⟩ (t_X10_put l D ct S ws_122 ph xx a_113 n_114 x_123 x_126 _ hT ha_115 hph hy1) (cm_SN 3 hts kc_X10_put ki_RX10 kl_RX1_126 ks_X10_put kd_X10_put ⟨Nat.le_of_ble_eq_true rfl, Nat.le_of_ble_eq_true rfl⟩) (ty_preS (wr := []) (wc := ([] ++ ws_122)) hP hK hD hS hA hX) rfl rfl hl.1 rfl (lv_room (Nat.le_of_ble_eq_true rfl)) dX1_makeRecord_99 ⟨Nat.le_of_ble_eq_true rfl, Nat.le_of_ble_eq_true rfl⟩) hP hD hS hA (fun u H locs hw_128 hP hD hS => ?_)
      obtain ⟨ws_129, rfl⟩ : ∃ z, z = u := ⟨_, rfl⟩
      obtain ⟨hT, hp_130⟩ := hw_128
      have hp_130 : ty_fdle ws_122 ws_129 := hp_130
      have hP : va_P D vwCl ([] ++ ws_129) H := hP
      have hD : va_D A ([] ++ ws_129) := hD
      refine lv_aload hx hb dX1_makeRecord_102 (lv_at hl 1 rfl) ?_
      refine lv_iload hx hb dX1_makeRecord_104 (lv_at hl 0 rfl) ?_
      refine lv_iconst (v := 1) hx hb dX1_makeRecord_106 (by decide) ?_
      refine lv_iadd hx hb dX1_makeRecord_107 ?_
      refine lv_topi (fun x_131 _ => ?_)
      refine lv_aload_n hx hb dX1_makeRecord_108 rfl (lv_at hl 5 rfl) ?_
      refine ty_getN (E := []) (ws := ws_129) (D := D) (ci := 3) (C := RX3) (T := TX3) (N := 4) hx hb hts in_X3 hown hK hP hT ha_8 rfl 0 (by decide) (hts _ kl_RX1_114) (fun _ h9 => h9) rfl dX1_makeRecord_109 (fun _ hv_132 hf_133 => ?_)
      obtain ⟨x_134, rfl⟩ := hv_132
      refine lv_aload_n hx hb dX1_makeRecord_112 rfl (lv_at hl 6 rfl) ?_
      refine ty_get (E := []) (ws := ws_129) (D := D) (ci := 1) (C := RX1) (T := TX1) (N := 14) hx hb hts in_X1 hown hK hP hT h_h0 rfl 10 (by decide) (hts _ kl_RX1_62) (fun _ h9 => h9) rfl dX1_makeRecord_113 (fun _ hv_135 hf_136 => ?_)
      obtain ⟨x_137, rfl⟩ := hv_135
      refine lv_lsub hx hb dX1_makeRecord_116 ?_
      refine lv_topl (fun x_138 _ => ?_)
      refine lv_l2i hx hb dX1_makeRecord_117 rfl ?_
      refine lv_topi (fun x_139 _ => ?_)
      refine ty_kv (wr := []) (wc := ([] ++ ws_129)) (va_runSN (As := [.ref a_113, .int x_131, .int x_139]) (rest := []) ⟨hx, hb, hml, hown, hts⟩ (t_X10_put l D ct S ws_129 ph xx a_113 n_114 x_131 x_139 _ hT ha_115 hph hy1) (cm_SN 3 hts kc_X10_put ki_RX10 kl_RX1_126 ks_X10_put kd_X10_put ⟨Nat.le_of_ble_eq_true rfl, Nat.le_of_ble_eq_true rfl⟩) (ty_preS (wr := []) (wc := ([] ++ ws_129)) hP hK hD hS hA hX) rfl rfl hl.1 rfl (lv_room (Nat.le_of_ble_eq_true rfl)) dX1_makeRecord_118 ⟨Nat.le_of_ble_eq_true rfl, Nat.le_of_ble_eq_true rfl⟩) hP hD hS hA (fun u H locs hw_141 hP hD hS => ?_)
      obtain ⟨ws_142, rfl⟩ : ∃ z, z = u := ⟨_, rfl⟩
      obtain ⟨hT, hp_143⟩ := hw_141
      have hp_143 : ty_fdle ws_129 ws_142 := hp_143
      have hP : va_P D vwCl ([] ++ ws_142) H := hP
      have hD : va_D A ([] ++ ws_142) := hD
      refine lv_aload hx hb dX1_makeRecord_121 (lv_at hl 1 rfl) ?_
      refine lv_iload hx hb dX1_makeRecord_123 (lv_at hl 0 rfl) ?_
      refine lv_iconst (v := 2) hx hb dX1_makeRecord_125 (by decide) ?_
      refine lv_iadd hx hb dX1_makeRecord_126 ?_
      refine lv_topi (fun x_144 _ => ?_)
      refine lv_aload_n hx hb dX1_makeRecord_127 rfl (lv_at hl 5 rfl) ?_
      refine ty_getN (E := []) (ws := ws_142) (D := D) (ci := 3) (C := RX3) (T := TX3) (N := 4) hx hb hts in_X3 hown hK hP hT ha_8 rfl 1 (by decide) (hts _ kl_RX1_119) (fun _ h9 => h9) rfl dX1_makeRecord_128 (fun _ hv_145 hf_146 => ?_)
      obtain ⟨x_147, rfl⟩ := hv_145
      refine lv_aload_n hx hb dX1_makeRecord_131 rfl (lv_at hl 6 rfl) ?_
      refine ty_get (E := []) (ws := ws_142) (D := D) (ci := 1) (C := RX1) (T := TX1) (N := 14) hx hb hts in_X1 hown hK hP hT h_h0 rfl 11 (by decide) (hts _ kl_RX1_66) (fun _ h9 => h9) rfl dX1_makeRecord_132 (fun _ hv_148 hf_149 => ?_)
      obtain ⟨x_150, rfl⟩ := hv_148
      refine lv_lsub hx hb dX1_makeRecord_135 ?_
      refine lv_topl (fun x_151 _ => ?_)
      refine lv_l2i hx hb dX1_makeRecord_136 rfl ?_
      refine lv_topi (fun x_152 _ => ?_)
      refine ty_kv (wr := []) (wc := ([] ++ ws_142)) (va_runSN (As := [.ref a_113, .int x_144, .int x_152]) (rest := []) ⟨hx, hb, hml, hown, hts⟩ (t_X10_put l D ct S ws_142 ph xx a_113 n_114 x_144 x_152 _ hT ha_115 hph hy1) (cm_SN 3 hts kc_X10_put ki_RX10 kl_RX1_126 ks_X10_put kd_X10_put ⟨Nat.le_of_ble_eq_true rfl, Nat.le_of_ble_eq_true rfl⟩) (ty_preS (wr := []) (wc := ([] ++ ws_142)) hP hK hD hS hA hX) rfl rfl hl.1 rfl (lv_room (Nat.le_of_ble_eq_true rfl)) dX1_makeRecord_137 ⟨Nat.le_of_ble_eq_true rfl, Nat.le_of_ble_eq_true rfl⟩) hP hD hS hA (fun u H locs hw_154 hP hD hS => ?_)
      obtain ⟨ws_155, rfl⟩ : ∃ z, z = u := ⟨_, rfl⟩
      obtain ⟨hT, hp_156⟩ := hw_154
      have hp_156 : ty_fdle ws_142 ws_155 := hp_156
      have hP : va_P D vwCl ([] ++ ws_155) H := hP
      have hD : va_D A ([] ++ ws_155) := hD
      refine lv_aload hx hb dX1_makeRecord_140 (lv_at hl 1 rfl) ?_
      refine lv_iload hx hb dX1_makeRecord_142 (lv_at hl 0 rfl) ?_
      refine lv_iconst (v := 3) hx hb dX1_makeRecord_144 (by decide) ?_
      refine lv_iadd hx hb dX1_makeRecord_145 ?_
      refine lv_topi (fun x_157 _ => ?_)
      refine lv_aload_n hx hb dX1_makeRecord_146 rfl (lv_at hl 7 rfl) ?_
      refine ty_getN (E := []) (ws := ws_155) (D := D) (ci := 9) (C := RX9) (T := TX9) (N := 8) hx hb hts in_X9 hown hK hP hT h_p1 rfl 0 (by decide) (hts _ kl_RX1_258) (fun _ h9 => h9) rfl dX1_makeRecord_147 (fun _ hv_158 hf_159 => ?_)
      obtain ⟨x_160, rfl⟩ := hv_158
      refine ty_kv (wr := []) (wc := ([] ++ ws_155)) (va_runSN (As := [.ref a_113, .int x_157, .int x_160]) (rest := []) ⟨hx, hb, hml, hown, hts⟩ (t_X10_put l D ct S ws_155 ph xx a_113 n_114 x_157 x_160 _ hT ha_115 hph hy1) (cm_SN 3 hts kc_X10_put ki_RX10 kl_RX1_126 ks_X10_put kd_X10_put ⟨Nat.le_of_ble_eq_true rfl, Nat.le_of_ble_eq_true rfl⟩) (ty_preS (wr := []) (wc := ([] ++ ws_155)) hP hK hD hS hA hX) rfl rfl hl.1 rfl (lv_room (Nat.le_of_ble_eq_true rfl)) dX1_makeRecord_150 ⟨Nat.le_of_ble_eq_true rfl, Nat.le_of_ble_eq_true rfl⟩) hP hD hS hA (fun u H locs hw_162 hP hD hS => ?_)
      obtain ⟨ws_163, rfl⟩ : ∃ z, z = u := ⟨_, rfl⟩
      obtain ⟨hT, hp_164⟩ := hw_162
      have hp_164 : ty_fdle ws_155 ws_163 := hp_164
      have hP : va_P D vwCl ([] ++ ws_163) H := hP
      have hD : va_D A ([] ++ ws_163) := hD
      refine lv_aload hx hb dX1_makeRecord_153 (lv_at hl 1 rfl) ?_
      refine lv_iload hx hb dX1_makeRecord_155 (lv_at hl 0 rfl) ?_
      refine lv_iconst (v := 4) hx hb dX1_makeRecord_157 (by decide) ?_
      refine lv_iadd hx hb dX1_makeRecord_158 ?_
      refine lv_topi (fun x_165 _ => ?_)
      refine lv_iload hx hb dX1_makeRecord_159 (lv_at hl 3 rfl) ?_
      refine lv_if_eq (tgt := 168) hx hb dX1_makeRecord_161 (by decide) (fun _ => ?_) (fun hc => absurd (by decide) hc)
      refine lv_iconst (v := 0) hx hb dX1_makeRecord_168 (by decide) ?_
      refine ty_kv (wr := []) (wc := ([] ++ ws_163)) (va_runSN (As := [.ref a_113, .int x_165, .int 0]) (rest := []) ⟨hx, hb, hml, hown, hts⟩ (t_X10_put l D ct S ws_163 ph xx a_113 n_114 x_165 (0 : Int32) _ hT ha_115 hph hy1) (cm_SN 3 hts kc_X10_put ki_RX10 kl_RX1_126 ks_X10_put kd_X10_put ⟨Nat.le_of_ble_eq_true rfl, Nat.le_of_ble_eq_true rfl⟩) (ty_preS (wr := []) (wc := ([] ++ ws_163)) hP hK hD hS hA hX) rfl rfl hl.1 rfl (lv_room (Nat.le_of_ble_eq_true rfl)) dX1_makeRecord_169 ⟨Nat.le_of_ble_eq_true rfl, Nat.le_of_ble_eq_true rfl⟩) hP hD hS hA (fun u H locs hw_167 hP hD hS => ?_)
      obtain ⟨ws_168, rfl⟩ : ∃ z, z = u := ⟨_, rfl⟩
      obtain ⟨hT, hp_169⟩ := hw_167
      have hp_169 : ty_fdle ws_163 ws_168 := hp_169
      have hP : va_P D vwCl ([] ++ ws_168) H := hP
      have hD : va_D A ([] ++ ws_168) := hD
      refine lv_iload hx hb dX1_makeRecord_172 (lv_at hl 3 rfl) ?_
      refine lv_if_eq (tgt := 194) hx hb dX1_makeRecord_174 (by decide) (fun _ => ?_) (fun hc => absurd (by decide) hc)
      refine lv_aload_n hx hb dX1_makeRecord_194 rfl (lv_at hl 6 rfl) ?_
      refine ty_kv (wr := []) (wc := ([] ++ ws_168)) (va_runV (As := []) (rest := []) ⟨hx, hb, hml, hown, hts⟩ (t_X1_countFromHere l D ct S ws_168 ph xx h0 _ hT h_h0 hph hy1) (cm_V 0 hts kc_X1_countFromHere ki_RX1 kl_RX1_97 kv_X1_countFromHere kx_X1_countFromHere kd_X1_countFromHere ⟨Nat.le_of_ble_eq_true rfl, Nat.le_of_ble_eq_true rfl⟩) (ty_preV (wr := []) (E := []) (ws := ws_168) (ci := 1) hP hK hD hS hA hX hT rfl h_h0) rfl rfl hl.1 rfl (lv_room (Nat.le_of_ble_eq_true rfl)) dX1_makeRecord_195 ⟨Nat.le_of_ble_eq_true rfl, Nat.le_of_ble_eq_true rfl⟩) hP hD hS hA (fun u H locs hw_171 hP hD hS => ?_)
      obtain ⟨ws_172, rfl⟩ : ∃ z, z = u := ⟨_, rfl⟩
      have hT := hw_171
      have hP : va_P D vwCl ([] ++ ws_172) H := hP
      have hD : va_D A ([] ++ ws_172) := hD
      exact W.vret hx hb hr (fun t ht hW => ⟨⟨ws_172, rfl, hT, by rw [ht]; exact hP, by rw [hAe]; exact hD⟩, hS.F ht⟩) hS.2.2 dX1_makeRecord_198
  · refine lv_iconst (v := 1) hx hb dX1_makeRecord_33 (by decide) ?_
    refine lv_goto (tgt := 38) hx hb dX1_makeRecord_34 (by decide) ?_
    refine lv_istore_n (lv' := [(3, .int 1), (2, .ref a_7), (0, .ref h0), (1, .ref p1)]) hx hb dX1_makeRecord_38 rfl hl (by decide) rfl (fun ls hl => ?_)
    refine lv_aload_n hx hb dX1_makeRecord_39 rfl (lv_at hl 2 rfl) ?_
    refine ty_get (E := []) (ws := ws_28) (D := D) (ci := 1) (C := RX1) (T := TX1) (N := 14) hx hb hts in_X1 hown hK hP hT h_h0 rfl 12 (by decide) (hts _ kl_RX1_69) (fun _ h9 => h9) rfl dX1_makeRecord_40 (fun _ hv_173 hf_174 => ?_)
    obtain ⟨x_175, rfl, hz_176⟩ := hv_173
    refine lv_if_eq (tgt := 54) hx hb dX1_makeRecord_43 (by decide) (fun hc_177 => ?_) (fun hc_177 => ?_)
    · refine lv_iconst (v := 0) hx hb dX1_makeRecord_54 (by decide) ?_
      refine lv_istore (lv' := [(4, .int 0), (3, .int 1), (2, .ref a_7), (0, .ref h0), (1, .ref p1)]) hx hb dX1_makeRecord_55 hl (by decide) rfl (fun ls hl => ?_)
      refine lv_aload_n hx hb dX1_makeRecord_57 rfl (lv_at hl 4 rfl) ?_
      refine ty_getN (E := []) (ws := ws_28) (D := D) (ci := 9) (C := RX9) (T := TX9) (N := 8) hx hb hts in_X9 hown hK hP hT h_p1 rfl 6 (by decide) (hts _ kl_RX1_240) (fun _ h9 => h9) rfl dX1_makeRecord_58 (fun _ hv_178 hf_179 => ?_)
      obtain ⟨a_180, rfl, ha_181⟩ := hv_178
      refine lv_astore (lv' := [(5, .ref a_180), (4, .int 0), (3, .int 1), (2, .ref a_7), (0, .ref h0), (1, .ref p1)]) hx hb dX1_makeRecord_61 hl (by decide) rfl (fun ls hl => ?_)
      refine lv_aload hx hb dX1_makeRecord_63 (lv_at hl 0 rfl) ?_
      refine ty_kv (wr := []) (wc := ([] ++ ws_28)) (va_runVN (As := []) (rest := []) ⟨hx, hb, hml, hown, hts⟩ (t_X8_addRow l D ct S ws_28 ph xx a_180 _ hT ha_181 hph hy1) (cm_VN 0 hts kc_X8_addRow ki_RX8 kl_RX1_244 kv_X8_addRow kx_X8_addRow kd_X8_addRow ⟨Nat.le_of_ble_eq_true rfl, Nat.le_of_ble_eq_true rfl⟩) (ty_preV (wr := []) (E := []) (ws := ws_28) (ci := 8) hP hK hD hS hA hX hT rfl ha_181) rfl rfl hl.1 rfl (lv_room (Nat.le_of_ble_eq_true rfl)) dX1_makeRecord_65 ⟨Nat.le_of_ble_eq_true rfl, Nat.le_of_ble_eq_true rfl⟩) hP hD hS hA (fun u H locs hw_183 hP hD hS => ?_)
      obtain ⟨ws_184, rfl⟩ : ∃ z, z = u := ⟨_, rfl⟩
      have hT := hw_183
      have hP : va_P D vwCl ([] ++ ws_184) H := hP
      have hD : va_D A ([] ++ ws_184) := hD
      refine lv_aload hx hb dX1_makeRecord_68 (lv_at hl 0 rfl) ?_
      refine ty_getN (E := []) (ws := ws_184) (D := D) (ci := 8) (C := RX8) (T := TX8) (N := 5) hx hb hts in_X8 hown hK hP hT ha_181 rfl 2 (by decide) (hts _ kl_RX1_249) (fun _ h9 => h9) rfl dX1_makeRecord_70 (fun _ hv_185 hf_186 => ?_)
      obtain ⟨a_187, n_188, rfl, ha_189⟩ := hv_185
      refine lv_astore (lv' := [(6, .ref a_187), (5, .ref a_180), (4, .int 0), (3, .int 1), (2, .ref a_7), (0, .ref h0), (1, .ref p1)]) hx hb dX1_makeRecord_73 hl (by decide) rfl (fun ls hl => ?_)
      refine lv_aload hx hb dX1_makeRecord_75 (lv_at hl 1 rfl) ?_
      refine lv_aload hx hb dX1_makeRecord_77 (lv_at hl 1 rfl) ?_
      refine ty_getN (E := []) (ws := ws_184) (D := D) (ci := 8) (C := RX8) (T := TX8) (N := 5) hx hb hts in_X8 hown hK hP hT ha_181 rfl 4 (by decide) (hts _ kl_RX1_252) (fun _ h9 => h9) rfl dX1_makeRecord_79 (fun _ hv_190 hf_191 => ?_)
      obtain ⟨x_192, rfl⟩ := hv_190
      refine lv_iconst (v := 1) hx hb dX1_makeRecord_82 (by decide) ?_
      refine lv_isub hx hb dX1_makeRecord_83 ?_
      refine lv_topi (fun x_193 _ => ?_)
      refine ty_ki (wr := []) (wc := ([] ++ ws_184)) (va_runVN (As := [.int x_193]) (rest := []) ⟨hx, hb, hml, hown, hts⟩ (t_X8_placeOf l D ct S ws_184 ph xx a_180 x_193 _ hT ha_181 hph hy1) (cm_VN 1 hts kc_X8_placeOf ki_RX8 kl_RX1_255 kv_X8_placeOf kx_X8_placeOf kd_X8_placeOf ⟨Nat.le_of_ble_eq_true rfl, Nat.le_of_ble_eq_true rfl⟩) (ty_preV (wr := []) (E := []) (ws := ws_184) (ci := 8) hP hK hD hS hA hX hT rfl ha_181) rfl rfl hl.1 rfl (lv_room (Nat.le_of_ble_eq_true rfl)) dX1_makeRecord_84 ⟨Nat.le_of_ble_eq_true rfl, Nat.le_of_ble_eq_true rfl⟩) hP hD hS hA (fun r_194 u H locs hw_195 hP hD hS => ?_)
      obtain ⟨ws_196, rfl⟩ : ∃ z, z = u := ⟨_, rfl⟩
      have hT := hw_195
      have hP : va_P D vwCl ([] ++ ws_196) H := hP
      have hD : va_D A ([] ++ ws_196) := hD
      refine lv_istore (lv' := [(7, .int r_194), (6, .ref a_187), (5, .ref a_180), (4, .int 0), (3, .int 1), (2, .ref a_7), (0, .ref h0), (1, .ref p1)]) hx hb dX1_makeRecord_87 hl (by decide) rfl (fun ls hl => ?_)
      refine lv_aload hx hb dX1_makeRecord_89 (lv_at hl 1 rfl) ?_
      refine lv_iload hx hb dX1_makeRecord_91 (lv_at hl 0 rfl) ?_
      refine lv_iconst (v := 0) hx hb dX1_makeRecord_93 (by decide) ?_
      refine lv_iadd hx hb dX1_makeRecord_94 ?_
      refine lv_topi (fun x_197 _ => ?_)
      refine lv_aload_n hx hb dX1_makeRecord_95 rfl (lv_at hl 6 rfl) ?_
      refine ty_get (E := []) (ws := ws_196) (D := D) (ci := 1) (C := RX1) (T := TX1) (N := 14) hx hb hts in_X1 hown hK hP hT h_h0 rfl 0 (by decide) (hts _ kl_RX1_9) (fun _ h9 => h9) rfl dX1_makeRecord_96 (fun _ hv_198 hf_199 => ?_)
      obtain ⟨x_200, rfl⟩ := hv_198
      refine ty_kv (wr := []) (wc := ([] ++ ws_196)) (va_runSN (As := [.ref a_187, .int x_197, .int x_200]) (rest := []) ⟨hx, hb, hml, hown, hts⟩ (t_X10_put l D ct S ws_196 ph xx a_187 n_188 x_197 x_200 _ hT ha_189 hph hy1) (cm_SN 3 hts kc_X10_put ki_RX10 kl_RX1_126 ks_X10_put kd_X10_put ⟨Nat.le_of_ble_eq_true rfl, Nat.le_of_ble_eq_true rfl⟩) (ty_preS (wr := []) (wc := ([] ++ ws_196)) hP hK hD hS hA hX) rfl rfl hl.1 rfl (lv_room (Nat.le_of_ble_eq_true rfl)) dX1_makeRecord_99 ⟨Nat.le_of_ble_eq_true rfl, Nat.le_of_ble_eq_true rfl⟩) hP hD hS hA (fun u H locs hw_202 hP hD hS => ?_)
      obtain ⟨ws_203, rfl⟩ : ∃ z, z = u := ⟨_, rfl⟩
      obtain ⟨hT, hp_204⟩ := hw_202
      have hp_204 : ty_fdle ws_196 ws_203 := hp_204
      have hP : va_P D vwCl ([] ++ ws_203) H := hP
      have hD : va_D A ([] ++ ws_203) := hD
      refine lv_aload hx hb dX1_makeRecord_102 (lv_at hl 1 rfl) ?_
      refine lv_iload hx hb dX1_makeRecord_104 (lv_at hl 0 rfl) ?_
      refine lv_iconst (v := 1) hx hb dX1_makeRecord_106 (by decide) ?_
      refine lv_iadd hx hb dX1_makeRecord_107 ?_
      refine lv_topi (fun x_205 _ => ?_)
      refine lv_aload_n hx hb dX1_makeRecord_108 rfl (lv_at hl 5 rfl) ?_
      refine ty_getN (E := []) (ws := ws_203) (D := D) (ci := 3) (C := RX3) (T := TX3) (N := 4) hx hb hts in_X3 hown hK hP hT ha_8 rfl 0 (by decide) (hts _ kl_RX1_114) (fun _ h9 => h9) rfl dX1_makeRecord_109 (fun _ hv_206 hf_207 => ?_)
      obtain ⟨x_208, rfl⟩ := hv_206
      refine lv_aload_n hx hb dX1_makeRecord_112 rfl (lv_at hl 6 rfl) ?_
      refine ty_get (E := []) (ws := ws_203) (D := D) (ci := 1) (C := RX1) (T := TX1) (N := 14) hx hb hts in_X1 hown hK hP hT h_h0 rfl 10 (by decide) (hts _ kl_RX1_62) (fun _ h9 => h9) rfl dX1_makeRecord_113 (fun _ hv_209 hf_210 => ?_)
      obtain ⟨x_211, rfl⟩ := hv_209
      refine lv_lsub hx hb dX1_makeRecord_116 ?_
      refine lv_topl (fun x_212 _ => ?_)
      refine lv_l2i hx hb dX1_makeRecord_117 rfl ?_
      refine lv_topi (fun x_213 _ => ?_)
      refine ty_kv (wr := []) (wc := ([] ++ ws_203)) (va_runSN (As := [.ref a_187, .int x_205, .int x_213]) (rest := []) ⟨hx, hb, hml, hown, hts⟩ (t_X10_put l D ct S ws_203 ph xx a_187 n_188 x_205 x_213 _ hT ha_189 hph hy1) (cm_SN 3 hts kc_X10_put ki_RX10 kl_RX1_126 ks_X10_put kd_X10_put ⟨Nat.le_of_ble_eq_true rfl, Nat.le_of_ble_eq_true rfl⟩) (ty_preS (wr := []) (wc := ([] ++ ws_203)) hP hK hD hS hA hX) rfl rfl hl.1 rfl (lv_room (Nat.le_of_ble_eq_true rfl)) dX1_makeRecord_118 ⟨Nat.le_of_ble_eq_true rfl, Nat.le_of_ble_eq_true rfl⟩) hP hD hS hA (fun u H locs hw_215 hP hD hS => ?_)
      obtain ⟨ws_216, rfl⟩ : ∃ z, z = u := ⟨_, rfl⟩
      obtain ⟨hT, hp_217⟩ := hw_215
      have hp_217 : ty_fdle ws_203 ws_216 := hp_217
      have hP : va_P D vwCl ([] ++ ws_216) H := hP
      have hD : va_D A ([] ++ ws_216) := hD
      refine lv_aload hx hb dX1_makeRecord_121 (lv_at hl 1 rfl) ?_
      refine lv_iload hx hb dX1_makeRecord_123 (lv_at hl 0 rfl) ?_
      refine lv_iconst (v := 2) hx hb dX1_makeRecord_125 (by decide) ?_
      refine lv_iadd hx hb dX1_makeRecord_126 ?_
      refine lv_topi (fun x_218 _ => ?_)
      refine lv_aload_n hx hb dX1_makeRecord_127 rfl (lv_at hl 5 rfl) ?_
      refine ty_getN (E := []) (ws := ws_216) (D := D) (ci := 3) (C := RX3) (T := TX3) (N := 4) hx hb hts in_X3 hown hK hP hT ha_8 rfl 1 (by decide) (hts _ kl_RX1_119) (fun _ h9 => h9) rfl dX1_makeRecord_128 (fun _ hv_219 hf_220 => ?_)
      obtain ⟨x_221, rfl⟩ := hv_219
      refine lv_aload_n hx hb dX1_makeRecord_131 rfl (lv_at hl 6 rfl) ?_
      refine ty_get (E := []) (ws := ws_216) (D := D) (ci := 1) (C := RX1) (T := TX1) (N := 14) hx hb hts in_X1 hown hK hP hT h_h0 rfl 11 (by decide) (hts _ kl_RX1_66) (fun _ h9 => h9) rfl dX1_makeRecord_132 (fun _ hv_222 hf_223 => ?_)
      obtain ⟨x_224, rfl⟩ := hv_222
      refine lv_lsub hx hb dX1_makeRecord_135 ?_
      refine lv_topl (fun x_225 _ => ?_)
      refine lv_l2i hx hb dX1_makeRecord_136 rfl ?_
      refine lv_topi (fun x_226 _ => ?_)
      refine ty_kv (wr := []) (wc := ([] ++ ws_216)) (va_runSN (As := [.ref a_187, .int x_218, .int x_226]) (rest := []) ⟨hx, hb, hml, hown, hts⟩ (t_X10_put l D ct S ws_216 ph xx a_187 n_188 x_218 x_226 _ hT ha_189 hph hy1) (cm_SN 3 hts kc_X10_put ki_RX10 kl_RX1_126 ks_X10_put kd_X10_put ⟨Nat.le_of_ble_eq_true rfl, Nat.le_of_ble_eq_true rfl⟩) (ty_preS (wr := []) (wc := ([] ++ ws_216)) hP hK hD hS hA hX) rfl rfl hl.1 rfl (lv_room (Nat.le_of_ble_eq_true rfl)) dX1_makeRecord_137 ⟨Nat.le_of_ble_eq_true rfl, Nat.le_of_ble_eq_true rfl⟩) hP hD hS hA (fun u H locs hw_228 hP hD hS => ?_)
      obtain ⟨ws_229, rfl⟩ : ∃ z, z = u := ⟨_, rfl⟩
      obtain ⟨hT, hp_230⟩ := hw_228
      have hp_230 : ty_fdle ws_216 ws_229 := hp_230
      have hP : va_P D vwCl ([] ++ ws_229) H := hP
      have hD : va_D A ([] ++ ws_229) := hD
      refine lv_aload hx hb dX1_makeRecord_140 (lv_at hl 1 rfl) ?_
      refine lv_iload hx hb dX1_makeRecord_142 (lv_at hl 0 rfl) ?_
      refine lv_iconst (v := 3) hx hb dX1_makeRecord_144 (by decide) ?_
      refine lv_iadd hx hb dX1_makeRecord_145 ?_
      refine lv_topi (fun x_231 _ => ?_)
      refine lv_aload_n hx hb dX1_makeRecord_146 rfl (lv_at hl 7 rfl) ?_
      refine ty_getN (E := []) (ws := ws_229) (D := D) (ci := 9) (C := RX9) (T := TX9) (N := 8) hx hb hts in_X9 hown hK hP hT h_p1 rfl 0 (by decide) (hts _ kl_RX1_258) (fun _ h9 => h9) rfl dX1_makeRecord_147 (fun _ hv_232 hf_233 => ?_)
      obtain ⟨x_234, rfl⟩ := hv_232
      refine ty_kv (wr := []) (wc := ([] ++ ws_229)) (va_runSN (As := [.ref a_187, .int x_231, .int x_234]) (rest := []) ⟨hx, hb, hml, hown, hts⟩ (t_X10_put l D ct S ws_229 ph xx a_187 n_188 x_231 x_234 _ hT ha_189 hph hy1) (cm_SN 3 hts kc_X10_put ki_RX10 kl_RX1_126 ks_X10_put kd_X10_put ⟨Nat.le_of_ble_eq_true rfl, Nat.le_of_ble_eq_true rfl⟩) (ty_preS (wr := []) (wc := ([] ++ ws_229)) hP hK hD hS hA hX) rfl rfl hl.1 rfl (lv_room (Nat.le_of_ble_eq_true rfl)) dX1_makeRecord_150 ⟨Nat.le_of_ble_eq_true rfl, Nat.le_of_ble_eq_true rfl⟩) hP hD hS hA (fun u H locs hw_236 hP hD hS => ?_)
      obtain ⟨ws_237, rfl⟩ : ∃ z, z = u := ⟨_, rfl⟩
      obtain ⟨hT, hp_238⟩ := hw_236
      have hp_238 : ty_fdle ws_229 ws_237 := hp_238
      have hP : va_P D vwCl ([] ++ ws_237) H := hP
      have hD : va_D A ([] ++ ws_237) := hD
      refine lv_aload hx hb dX1_makeRecord_153 (lv_at hl 1 rfl) ?_
      refine lv_iload hx hb dX1_makeRecord_155 (lv_at hl 0 rfl) ?_
      refine lv_iconst (v := 4) hx hb dX1_makeRecord_157 (by decide) ?_
      refine lv_iadd hx hb dX1_makeRecord_158 ?_
      refine lv_topi (fun x_239 _ => ?_)
      refine lv_iload hx hb dX1_makeRecord_159 (lv_at hl 3 rfl) ?_
      refine lv_if_eq (tgt := 168) hx hb dX1_makeRecord_161 (by decide) (fun _ => ?_) (fun hc => absurd (by decide) hc)
      refine lv_iconst (v := 0) hx hb dX1_makeRecord_168 (by decide) ?_
      refine ty_kv (wr := []) (wc := ([] ++ ws_237)) (va_runSN (As := [.ref a_187, .int x_239, .int 0]) (rest := []) ⟨hx, hb, hml, hown, hts⟩ (t_X10_put l D ct S ws_237 ph xx a_187 n_188 x_239 (0 : Int32) _ hT ha_189 hph hy1) (cm_SN 3 hts kc_X10_put ki_RX10 kl_RX1_126 ks_X10_put kd_X10_put ⟨Nat.le_of_ble_eq_true rfl, Nat.le_of_ble_eq_true rfl⟩) (ty_preS (wr := []) (wc := ([] ++ ws_237)) hP hK hD hS hA hX) rfl rfl hl.1 rfl (lv_room (Nat.le_of_ble_eq_true rfl)) dX1_makeRecord_169 ⟨Nat.le_of_ble_eq_true rfl, Nat.le_of_ble_eq_true rfl⟩) hP hD hS hA (fun u H locs hw_241 hP hD hS => ?_)
      obtain ⟨ws_242, rfl⟩ : ∃ z, z = u := ⟨_, rfl⟩
      obtain ⟨hT, hp_243⟩ := hw_241
      have hp_243 : ty_fdle ws_237 ws_242 := hp_243
      have hP : va_P D vwCl ([] ++ ws_242) H := hP
      have hD : va_D A ([] ++ ws_242) := hD
      refine lv_iload hx hb dX1_makeRecord_172 (lv_at hl 3 rfl) ?_
      refine lv_if_eq (tgt := 194) hx hb dX1_makeRecord_174 (by decide) (fun _ => ?_) (fun hc => absurd (by decide) hc)
      refine lv_aload_n hx hb dX1_makeRecord_194 rfl (lv_at hl 6 rfl) ?_
      refine ty_kv (wr := []) (wc := ([] ++ ws_242)) (va_runV (As := []) (rest := []) ⟨hx, hb, hml, hown, hts⟩ (t_X1_countFromHere l D ct S ws_242 ph xx h0 _ hT h_h0 hph hy1) (cm_V 0 hts kc_X1_countFromHere ki_RX1 kl_RX1_97 kv_X1_countFromHere kx_X1_countFromHere kd_X1_countFromHere ⟨Nat.le_of_ble_eq_true rfl, Nat.le_of_ble_eq_true rfl⟩) (ty_preV (wr := []) (E := []) (ws := ws_242) (ci := 1) hP hK hD hS hA hX hT rfl h_h0) rfl rfl hl.1 rfl (lv_room (Nat.le_of_ble_eq_true rfl)) dX1_makeRecord_195 ⟨Nat.le_of_ble_eq_true rfl, Nat.le_of_ble_eq_true rfl⟩) hP hD hS hA (fun u H locs hw_245 hP hD hS => ?_)
      obtain ⟨ws_246, rfl⟩ : ∃ z, z = u := ⟨_, rfl⟩
      have hT := hw_245
      have hP : va_P D vwCl ([] ++ ws_246) H := hP
      have hD : va_D A ([] ++ ws_246) := hD
      exact W.vret hx hb hr (fun t ht hW => ⟨⟨ws_246, rfl, hT, by rw [ht]; exact hP, by rw [hAe]; exact hD⟩, hS.F ht⟩) hS.2.2 dX1_makeRecord_198
    · refine lv_iload_n hx hb dX1_makeRecord_46 rfl (lv_at hl 0 rfl) ?_
      refine lv_if_eq (tgt := 54) hx hb dX1_makeRecord_47 (by decide) (fun hc => absurd hc (by decide)) (fun _ => ?_)
      refine lv_iconst (v := 1) hx hb dX1_makeRecord_50 (by decide) ?_
      refine lv_goto (tgt := 55) hx hb dX1_makeRecord_51 (by decide) ?_
      refine lv_istore (lv' := [(4, .int 1), (3, .int 1), (2, .ref a_7), (0, .ref h0), (1, .ref p1)]) hx hb dX1_makeRecord_55 hl (by decide) rfl (fun ls hl => ?_)
      refine lv_aload_n hx hb dX1_makeRecord_57 rfl (lv_at hl 4 rfl) ?_
      refine ty_getN (E := []) (ws := ws_28) (D := D) (ci := 9) (C := RX9) (T := TX9) (N := 8) hx hb hts in_X9 hown hK hP hT h_p1 rfl 6 (by decide) (hts _ kl_RX1_240) (fun _ h9 => h9) rfl dX1_makeRecord_58 (fun _ hv_247 hf_248 => ?_)
      obtain ⟨a_249, rfl, ha_250⟩ := hv_247
      refine lv_astore (lv' := [(5, .ref a_249), (4, .int 1), (3, .int 1), (2, .ref a_7), (0, .ref h0), (1, .ref p1)]) hx hb dX1_makeRecord_61 hl (by decide) rfl (fun ls hl => ?_)
      refine lv_aload hx hb dX1_makeRecord_63 (lv_at hl 0 rfl) ?_
      refine ty_kv (wr := []) (wc := ([] ++ ws_28)) (va_runVN (As := []) (rest := []) ⟨hx, hb, hml, hown, hts⟩ (t_X8_addRow l D ct S ws_28 ph xx a_249 _ hT ha_250 hph hy1) (cm_VN 0 hts kc_X8_addRow ki_RX8 kl_RX1_244 kv_X8_addRow kx_X8_addRow kd_X8_addRow ⟨Nat.le_of_ble_eq_true rfl, Nat.le_of_ble_eq_true rfl⟩) (ty_preV (wr := []) (E := []) (ws := ws_28) (ci := 8) hP hK hD hS hA hX hT rfl ha_250) rfl rfl hl.1 rfl (lv_room (Nat.le_of_ble_eq_true rfl)) dX1_makeRecord_65 ⟨Nat.le_of_ble_eq_true rfl, Nat.le_of_ble_eq_true rfl⟩) hP hD hS hA (fun u H locs hw_252 hP hD hS => ?_)
      obtain ⟨ws_253, rfl⟩ : ∃ z, z = u := ⟨_, rfl⟩
      have hT := hw_252
      have hP : va_P D vwCl ([] ++ ws_253) H := hP
      have hD : va_D A ([] ++ ws_253) := hD
      refine lv_aload hx hb dX1_makeRecord_68 (lv_at hl 0 rfl) ?_
      refine ty_getN (E := []) (ws := ws_253) (D := D) (ci := 8) (C := RX8) (T := TX8) (N := 5) hx hb hts in_X8 hown hK hP hT ha_250 rfl 2 (by decide) (hts _ kl_RX1_249) (fun _ h9 => h9) rfl dX1_makeRecord_70 (fun _ hv_254 hf_255 => ?_)
      obtain ⟨a_256, n_257, rfl, ha_258⟩ := hv_254
      refine lv_astore (lv' := [(6, .ref a_256), (5, .ref a_249), (4, .int 1), (3, .int 1), (2, .ref a_7), (0, .ref h0), (1, .ref p1)]) hx hb dX1_makeRecord_73 hl (by decide) rfl (fun ls hl => ?_)
      refine lv_aload hx hb dX1_makeRecord_75 (lv_at hl 1 rfl) ?_
      refine lv_aload hx hb dX1_makeRecord_77 (lv_at hl 1 rfl) ?_
      refine ty_getN (E := []) (ws := ws_253) (D := D) (ci := 8) (C := RX8) (T := TX8) (N := 5) hx hb hts in_X8 hown hK hP hT ha_250 rfl 4 (by decide) (hts _ kl_RX1_252) (fun _ h9 => h9) rfl dX1_makeRecord_79 (fun _ hv_259 hf_260 => ?_)
      obtain ⟨x_261, rfl⟩ := hv_259
      refine lv_iconst (v := 1) hx hb dX1_makeRecord_82 (by decide) ?_
      refine lv_isub hx hb dX1_makeRecord_83 ?_
      refine lv_topi (fun x_262 _ => ?_)
      refine ty_ki (wr := []) (wc := ([] ++ ws_253)) (va_runVN (As := [.int x_262]) (rest := []) ⟨hx, hb, hml, hown, hts⟩ (t_X8_placeOf l D ct S ws_253 ph xx a_249 x_262 _ hT ha_250 hph hy1) (cm_VN 1 hts kc_X8_placeOf ki_RX8 kl_RX1_255 kv_X8_placeOf kx_X8_placeOf kd_X8_placeOf ⟨Nat.le_of_ble_eq_true rfl, Nat.le_of_ble_eq_true rfl⟩) (ty_preV (wr := []) (E := []) (ws := ws_253) (ci := 8) hP hK hD hS hA hX hT rfl ha_250) rfl rfl hl.1 rfl (lv_room (Nat.le_of_ble_eq_true rfl)) dX1_makeRecord_84 ⟨Nat.le_of_ble_eq_true rfl, Nat.le_of_ble_eq_true rfl⟩) hP hD hS hA (fun r_263 u H locs hw_264 hP hD hS => ?_)
      obtain ⟨ws_265, rfl⟩ : ∃ z, z = u := ⟨_, rfl⟩
      have hT := hw_264
      have hP : va_P D vwCl ([] ++ ws_265) H := hP
      have hD : va_D A ([] ++ ws_265) := hD
      refine lv_istore (lv' := [(7, .int r_263), (6, .ref a_256), (5, .ref a_249), (4, .int 1), (3, .int 1), (2, .ref a_7), (0, .ref h0), (1, .ref p1)]) hx hb dX1_makeRecord_87 hl (by decide) rfl (fun ls hl => ?_)
      refine lv_aload hx hb dX1_makeRecord_89 (lv_at hl 1 rfl) ?_
      refine lv_iload hx hb dX1_makeRecord_91 (lv_at hl 0 rfl) ?_
      refine lv_iconst (v := 0) hx hb dX1_makeRecord_93 (by decide) ?_
      refine lv_iadd hx hb dX1_makeRecord_94 ?_
      refine lv_topi (fun x_266 _ => ?_)
      refine lv_aload_n hx hb dX1_makeRecord_95 rfl (lv_at hl 6 rfl) ?_
      refine ty_get (E := []) (ws := ws_265) (D := D) (ci := 1) (C := RX1) (T := TX1) (N := 14) hx hb hts in_X1 hown hK hP hT h_h0 rfl 0 (by decide) (hts _ kl_RX1_9) (fun _ h9 => h9) rfl dX1_makeRecord_96 (fun _ hv_267 hf_268 => ?_)
      obtain ⟨x_269, rfl⟩ := hv_267
      refine ty_kv (wr := []) (wc := ([] ++ ws_265)) (va_runSN (As := [.ref a_256, .int x_266, .int x_269]) (rest := []) ⟨hx, hb, hml, hown, hts⟩ (t_X10_put l D ct S ws_265 ph xx a_256 n_257 x_266 x_269 _ hT ha_258 hph hy1) (cm_SN 3 hts kc_X10_put ki_RX10 kl_RX1_126 ks_X10_put kd_X10_put ⟨Nat.le_of_ble_eq_true rfl, Nat.le_of_ble_eq_true rfl⟩) (ty_preS (wr := []) (wc := ([] ++ ws_265)) hP hK hD hS hA hX) rfl rfl hl.1 rfl (lv_room (Nat.le_of_ble_eq_true rfl)) dX1_makeRecord_99 ⟨Nat.le_of_ble_eq_true rfl, Nat.le_of_ble_eq_true rfl⟩) hP hD hS hA (fun u H locs hw_271 hP hD hS => ?_)
      obtain ⟨ws_272, rfl⟩ : ∃ z, z = u := ⟨_, rfl⟩
      obtain ⟨hT, hp_273⟩ := hw_271
      have hp_273 : ty_fdle ws_265 ws_272 := hp_273
      have hP : va_P D vwCl ([] ++ ws_272) H := hP
      have hD : va_D A ([] ++ ws_272) := hD
      refine lv_aload hx hb dX1_makeRecord_102 (lv_at hl 1 rfl) ?_
      refine lv_iload hx hb dX1_makeRecord_104 (lv_at hl 0 rfl) ?_
      refine lv_iconst (v := 1) hx hb dX1_makeRecord_106 (by decide) ?_
      refine lv_iadd hx hb dX1_makeRecord_107 ?_
      refine lv_topi (fun x_274 _ => ?_)
      refine lv_aload_n hx hb dX1_makeRecord_108 rfl (lv_at hl 5 rfl) ?_
      refine ty_getN (E := []) (ws := ws_272) (D := D) (ci := 3) (C := RX3) (T := TX3) (N := 4) hx hb hts in_X3 hown hK hP hT ha_8 rfl 0 (by decide) (hts _ kl_RX1_114) (fun _ h9 => h9) rfl dX1_makeRecord_109 (fun _ hv_275 hf_276 => ?_)
      obtain ⟨x_277, rfl⟩ := hv_275
      refine lv_aload_n hx hb dX1_makeRecord_112 rfl (lv_at hl 6 rfl) ?_
      refine ty_get (E := []) (ws := ws_272) (D := D) (ci := 1) (C := RX1) (T := TX1) (N := 14) hx hb hts in_X1 hown hK hP hT h_h0 rfl 10 (by decide) (hts _ kl_RX1_62) (fun _ h9 => h9) rfl dX1_makeRecord_113 (fun _ hv_278 hf_279 => ?_)
      obtain ⟨x_280, rfl⟩ := hv_278
      refine lv_lsub hx hb dX1_makeRecord_116 ?_
      refine lv_topl (fun x_281 _ => ?_)
      refine lv_l2i hx hb dX1_makeRecord_117 rfl ?_
      refine lv_topi (fun x_282 _ => ?_)
      refine ty_kv (wr := []) (wc := ([] ++ ws_272)) (va_runSN (As := [.ref a_256, .int x_274, .int x_282]) (rest := []) ⟨hx, hb, hml, hown, hts⟩ (t_X10_put l D ct S ws_272 ph xx a_256 n_257 x_274 x_282 _ hT ha_258 hph hy1) (cm_SN 3 hts kc_X10_put ki_RX10 kl_RX1_126 ks_X10_put kd_X10_put ⟨Nat.le_of_ble_eq_true rfl, Nat.le_of_ble_eq_true rfl⟩) (ty_preS (wr := []) (wc := ([] ++ ws_272)) hP hK hD hS hA hX) rfl rfl hl.1 rfl (lv_room (Nat.le_of_ble_eq_true rfl)) dX1_makeRecord_118 ⟨Nat.le_of_ble_eq_true rfl, Nat.le_of_ble_eq_true rfl⟩) hP hD hS hA (fun u H locs hw_284 hP hD hS => ?_)
      obtain ⟨ws_285, rfl⟩ : ∃ z, z = u := ⟨_, rfl⟩
      obtain ⟨hT, hp_286⟩ := hw_284
      have hp_286 : ty_fdle ws_272 ws_285 := hp_286
      have hP : va_P D vwCl ([] ++ ws_285) H := hP
      have hD : va_D A ([] ++ ws_285) := hD
      refine lv_aload hx hb dX1_makeRecord_121 (lv_at hl 1 rfl) ?_
      refine lv_iload hx hb dX1_makeRecord_123 (lv_at hl 0 rfl) ?_
      refine lv_iconst (v := 2) hx hb dX1_makeRecord_125 (by decide) ?_
      refine lv_iadd hx hb dX1_makeRecord_126 ?_
      refine lv_topi (fun x_287 _ => ?_)
      refine lv_aload_n hx hb dX1_makeRecord_127 rfl (lv_at hl 5 rfl) ?_
      refine ty_getN (E := []) (ws := ws_285) (D := D) (ci := 3) (C := RX3) (T := TX3) (N := 4) hx hb hts in_X3 hown hK hP hT ha_8 rfl 1 (by decide) (hts _ kl_RX1_119) (fun _ h9 => h9) rfl dX1_makeRecord_128 (fun _ hv_288 hf_289 => ?_)
      obtain ⟨x_290, rfl⟩ := hv_288
      refine lv_aload_n hx hb dX1_makeRecord_131 rfl (lv_at hl 6 rfl) ?_
      refine ty_get (E := []) (ws := ws_285) (D := D) (ci := 1) (C := RX1) (T := TX1) (N := 14) hx hb hts in_X1 hown hK hP hT h_h0 rfl 11 (by decide) (hts _ kl_RX1_66) (fun _ h9 => h9) rfl dX1_makeRecord_132 (fun _ hv_291 hf_292 => ?_)
      obtain ⟨x_293, rfl⟩ := hv_291
      refine lv_lsub hx hb dX1_makeRecord_135 ?_
      refine lv_topl (fun x_294 _ => ?_)
      refine lv_l2i hx hb dX1_makeRecord_136 rfl ?_
      refine lv_topi (fun x_295 _ => ?_)
      refine ty_kv (wr := []) (wc := ([] ++ ws_285)) (va_runSN (As := [.ref a_256, .int x_287, .int x_295]) (rest := []) ⟨hx, hb, hml, hown, hts⟩ (t_X10_put l D ct S ws_285 ph xx a_256 n_257 x_287 x_295 _ hT ha_258 hph hy1) (cm_SN 3 hts kc_X10_put ki_RX10 kl_RX1_126 ks_X10_put kd_X10_put ⟨Nat.le_of_ble_eq_true rfl, Nat.le_of_ble_eq_true rfl⟩) (ty_preS (wr := []) (wc := ([] ++ ws_285)) hP hK hD hS hA hX) rfl rfl hl.1 rfl (lv_room (Nat.le_of_ble_eq_true rfl)) dX1_makeRecord_137 ⟨Nat.le_of_ble_eq_true rfl, Nat.le_of_ble_eq_true rfl⟩) hP hD hS hA (fun u H locs hw_297 hP hD hS => ?_)
      obtain ⟨ws_298, rfl⟩ : ∃ z, z = u := ⟨_, rfl⟩
      obtain ⟨hT, hp_299⟩ := hw_297
      have hp_299 : ty_fdle ws_285 ws_298 := hp_299
      have hP : va_P D vwCl ([] ++ ws_298) H := hP
      have hD : va_D A ([] ++ ws_298) := hD
      refine lv_aload hx hb dX1_makeRecord_140 (lv_at hl 1 rfl) ?_
      refine lv_iload hx hb dX1_makeRecord_142 (lv_at hl 0 rfl) ?_
      refine lv_iconst (v := 3) hx hb dX1_makeRecord_144 (by decide) ?_
      refine lv_iadd hx hb dX1_makeRecord_145 ?_
      refine lv_topi (fun x_300 _ => ?_)
      refine lv_aload_n hx hb dX1_makeRecord_146 rfl (lv_at hl 7 rfl) ?_
      refine ty_getN (E := []) (ws := ws_298) (D := D) (ci := 9) (C := RX9) (T := TX9) (N := 8) hx hb hts in_X9 hown hK hP hT h_p1 rfl 0 (by decide) (hts _ kl_RX1_258) (fun _ h9 => h9) rfl dX1_makeRecord_147 (fun _ hv_301 hf_302 => ?_)
      obtain ⟨x_303, rfl⟩ := hv_301
      refine ty_kv (wr := []) (wc := ([] ++ ws_298)) (va_runSN (As := [.ref a_256, .int x_300, .int x_303]) (rest := []) ⟨hx, hb, hml, hown, hts⟩ (t_X10_put l D ct S ws_298 ph xx a_256 n_257 x_300 x_303 _ hT ha_258 hph hy1) (cm_SN 3 hts kc_X10_put ki_RX10 kl_RX1_126 ks_X10_put kd_X10_put ⟨Nat.le_of_ble_eq_true rfl, Nat.le_of_ble_eq_true rfl⟩) (ty_preS (wr := []) (wc := ([] ++ ws_298)) hP hK hD hS hA hX) rfl rfl hl.1 rfl (lv_room (Nat.le_of_ble_eq_true rfl)) dX1_makeRecord_150 ⟨Nat.le_of_ble_eq_true rfl, Nat.le_of_ble_eq_true rfl⟩) hP hD hS hA (fun u H locs hw_305 hP hD hS => ?_)
      obtain ⟨ws_306, rfl⟩ : ∃ z, z = u := ⟨_, rfl⟩
      obtain ⟨hT, hp_307⟩ := hw_305
      have hp_307 : ty_fdle ws_298 ws_306 := hp_307
      have hP : va_P D vwCl ([] ++ ws_306) H := hP
      have hD : va_D A ([] ++ ws_306) := hD
      refine lv_aload hx hb dX1_makeRecord_153 (lv_at hl 1 rfl) ?_
      refine lv_iload hx hb dX1_makeRecord_155 (lv_at hl 0 rfl) ?_
      refine lv_iconst (v := 4) hx hb dX1_makeRecord_157 (by decide) ?_
      refine lv_iadd hx hb dX1_makeRecord_158 ?_
      refine lv_topi (fun x_308 _ => ?_)
      refine lv_iload hx hb dX1_makeRecord_159 (lv_at hl 3 rfl) ?_
      refine lv_if_eq (tgt := 168) hx hb dX1_makeRecord_161 (by decide) (fun hc => absurd hc (by decide)) (fun _ => ?_)
      refine lv_iconst (v := 1) hx hb dX1_makeRecord_164 (by decide) ?_
      refine lv_goto (tgt := 169) hx hb dX1_makeRecord_165 (by decide) ?_
      refine ty_kv (wr := []) (wc := ([] ++ ws_306)) (va_runSN (As := [.ref a_256, .int x_308, .int 1]) (rest := []) ⟨hx, hb, hml, hown, hts⟩ (t_X10_put l D ct S ws_306 ph xx a_256 n_257 x_308 (1 : Int32) _ hT ha_258 hph hy1) (cm_SN 3 hts kc_X10_put ki_RX10 kl_RX1_126 ks_X10_put kd_X10_put ⟨Nat.le_of_ble_eq_true rfl, Nat.le_of_ble_eq_true rfl⟩) (ty_preS (wr := []) (wc := ([] ++ ws_306)) hP hK hD hS hA hX) rfl rfl hl.1 rfl (lv_room (Nat.le_of_ble_eq_true rfl)) dX1_makeRecord_169 ⟨Nat.le_of_ble_eq_true rfl, Nat.le_of_ble_eq_true rfl⟩) hP hD hS hA (fun u H locs hw_310 hP hD hS => ?_)
      obtain ⟨ws_311, rfl⟩ : ∃ z, z = u := ⟨_, rfl⟩
      obtain ⟨hT, hp_312⟩ := hw_310
      have hp_312 : ty_fdle ws_306 ws_311 := hp_312
      have hP : va_P D vwCl ([] ++ ws_311) H := hP
      have hD : va_D A ([] ++ ws_311) := hD
      refine lv_iload hx hb dX1_makeRecord_172 (lv_at hl 3 rfl) ?_
      refine lv_if_eq (tgt := 194) hx hb dX1_makeRecord_174 (by decide) (fun hc => absurd hc (by decide)) (fun _ => ?_)
      refine lv_aload_n hx hb dX1_makeRecord_177 rfl (lv_at hl 6 rfl) ?_
      refine ty_get (E := []) (ws := ws_311) (D := D) (ci := 1) (C := RX1) (T := TX1) (N := 14) hx hb hts in_X1 hown hK hP hT h_h0 rfl 2 (by decide) (hts _ kl_RX1_25) (fun _ h9 => h9) rfl dX1_makeRecord_178 (fun _ hv_313 hf_314 => ?_)
      obtain ⟨a_315, rfl, ha_316⟩ := hv_313
      refine lv_aload_n hx hb dX1_makeRecord_181 rfl (lv_at hl 5 rfl) ?_
      refine ty_getN (E := []) (ws := ws_311) (D := D) (ci := 3) (C := RX3) (T := TX3) (N := 4) hx hb hts in_X3 hown hK hP hT ha_8 rfl 1 (by decide) (hts _ kl_RX1_119) (fun _ h9 => h9) rfl dX1_makeRecord_182 (fun _ hv_317 hf_318 => ?_)
      obtain ⟨x_319, rfl⟩ := hv_317
      refine lv_aload_n hx hb dX1_makeRecord_185 rfl (lv_at hl 6 rfl) ?_
      refine ty_get (E := []) (ws := ws_311) (D := D) (ci := 1) (C := RX1) (T := TX1) (N := 14) hx hb hts in_X1 hown hK hP hT h_h0 rfl 13 (by decide) (hts _ kl_RX1_73) (fun _ h9 => h9) rfl dX1_makeRecord_186 (fun _ hv_320 hf_321 => ?_)
      obtain ⟨x_322, rfl⟩ := hv_320
      refine lv_lsub hx hb dX1_makeRecord_189 ?_
      refine lv_topl (fun x_323 _ => ?_)
      refine lv_l2i hx hb dX1_makeRecord_190 rfl ?_
      refine lv_topi (fun x_324 _ => ?_)
      refine ty_putN (v := .int x_324) (ty := .int) (E := []) (ws := ws_311) (D := D) (ci := 4) (C := RX4) (T := TX4) (N := 7) hx hb hts in_X4 tyX4 tyX4_ok nmX4 hown hK hP hD hS hT ha_316 rfl 1 (by decide) (hts _ kl_RX1_261) (fun _ h9 => h9) rfl (by decide +kernel) rfl rfl rfl ⟨_, rfl⟩ dX1_makeRecord_191 hph (hy1 4 1 a_315 rfl) (fun ws_325 H locs hT hP hD hS => ?_)
      refine lv_aload_n hx hb dX1_makeRecord_194 rfl (lv_at hl 6 rfl) ?_
      refine ty_kv (wr := []) (wc := ([] ++ ws_325)) (va_runV (As := []) (rest := []) ⟨hx, hb, hml, hown, hts⟩ (t_X1_countFromHere l D ct S ws_325 ph xx h0 _ hT h_h0 hph hy1) (cm_V 0 hts kc_X1_countFromHere ki_RX1 kl_RX1_97 kv_X1_countFromHere kx_X1_countFromHere kd_X1_countFromHere ⟨Nat.le_of_ble_eq_true rfl, Nat.le_of_ble_eq_true rfl⟩) (ty_preV (wr := []) (E := []) (ws := ws_325) (ci := 1) hP hK hD hS hA hX hT rfl h_h0) rfl rfl hl.1 rfl (lv_room (Nat.le_of_ble_eq_true rfl)) dX1_makeRecord_195 ⟨Nat.le_of_ble_eq_true rfl, Nat.le_of_ble_eq_true rfl⟩) hP hD hS hA (fun u H locs hw_327 hP hD hS => ?_)
      obtain ⟨ws_328, rfl⟩ : ∃ z, z = u := ⟨_, rfl⟩
      have hT := hw_327
      have hP : va_P D vwCl ([] ++ ws_328) H := hP
      have hD : va_D A ([] ++ ws_328) := hD
      exact W.vret hx hb hr (fun t ht hW => ⟨⟨ws_328, rfl, hT, by rw [ht]; exact hP, by rw [hAe]; exact hD⟩, hS.F ht⟩) hS.2.2 dX1_makeRecord_198
theorem dX1_stepBehind_0 : decode cX1_stepBehind 0 = .ok (.aload_n 0, 1) := by decide +kernel
theorem dX1_stepBehind_1 : decode cX1_stepBehind 1 = .ok (.getfield 49, 3) := by decide +kernel
theorem dX1_stepBehind_4 : decode cX1_stepBehind 4 = .ok (.iconst 1, 1) := by decide +kernel
theorem dX1_stepBehind_5 : decode cX1_stepBehind 5 = .ok (.iadd, 1) := by decide +kernel
theorem dX1_stepBehind_6 : decode cX1_stepBehind 6 = .ok (.istore_n 2, 1) := by decide +kernel
theorem dX1_stepBehind_7 : decode cX1_stepBehind 7 = .ok (.iconst 0, 1) := by decide +kernel
theorem dX1_stepBehind_8 : decode cX1_stepBehind 8 = .ok (.istore_n 3, 1) := by decide +kernel
theorem dX1_stepBehind_9 : decode cX1_stepBehind 9 = .ok (.iload_n 3, 1) := by decide +kernel
theorem dX1_stepBehind_10 : decode cX1_stepBehind 10 = .ok (.bipush 48, 2) := by decide +kernel
theorem dX1_stepBehind_12 : decode cX1_stepBehind 12 = .ok (.if_icmp .ge 98, 3) := by decide +kernel
theorem dX1_stepBehind_15 : decode cX1_stepBehind 15 = .ok (.iload_n 2, 1) := by decide +kernel
theorem dX1_stepBehind_16 : decode cX1_stepBehind 16 = .ok (.aload_n 1, 1) := by decide +kernel
theorem dX1_stepBehind_17 : decode cX1_stepBehind 17 = .ok (.aload_n 0, 1) := by decide +kernel
theorem dX1_stepBehind_18 : decode cX1_stepBehind 18 = .ok (.getfield 46, 3) := by decide +kernel
theorem dX1_stepBehind_21 : decode cX1_stepBehind 21 = .ok (.invokevirtual 266, 3) := by decide +kernel
theorem dX1_stepBehind_24 : decode cX1_stepBehind 24 = .ok (.if_icmp .ge 86, 3) := by decide +kernel
theorem dX1_stepBehind_27 : decode cX1_stepBehind 27 = .ok (.aload_n 1, 1) := by decide +kernel
theorem dX1_stepBehind_28 : decode cX1_stepBehind 28 = .ok (.aload_n 0, 1) := by decide +kernel
theorem dX1_stepBehind_29 : decode cX1_stepBehind 29 = .ok (.getfield 46, 3) := by decide +kernel
theorem dX1_stepBehind_32 : decode cX1_stepBehind 32 = .ok (.iload_n 2, 1) := by decide +kernel
theorem dX1_stepBehind_33 : decode cX1_stepBehind 33 = .ok (.invokevirtual 201, 3) := by decide +kernel
theorem dX1_stepBehind_36 : decode cX1_stepBehind 36 = .ok (.iconst 4, 1) := by decide +kernel
theorem dX1_stepBehind_37 : decode cX1_stepBehind 37 = .ok (.if_icmp .eq 6, 3) := by decide +kernel
theorem dX1_stepBehind_40 : decode cX1_stepBehind 40 = .ok (.goto 70, 3) := by decide +kernel
theorem dX1_stepBehind_43 : decode cX1_stepBehind 43 = .ok (.aload_n 0, 1) := by decide +kernel
theorem dX1_stepBehind_44 : decode cX1_stepBehind 44 = .ok (.getfield 29, 3) := by decide +kernel
theorem dX1_stepBehind_47 : decode cX1_stepBehind 47 = .ok (.iload_n 2, 1) := by decide +kernel
theorem dX1_stepBehind_48 : decode cX1_stepBehind 48 = .ok (.invokestatic 122, 3) := by decide +kernel
theorem dX1_stepBehind_51 : decode cX1_stepBehind 51 = .ok (.istore 4, 2) := by decide +kernel
theorem dX1_stepBehind_53 : decode cX1_stepBehind 53 = .ok (.iload 4, 2) := by decide +kernel
theorem dX1_stepBehind_55 : decode cX1_stepBehind 55 = .ok (.aload_n 1, 1) := by decide +kernel
theorem dX1_stepBehind_56 : decode cX1_stepBehind 56 = .ok (.aload_n 0, 1) := by decide +kernel
theorem dX1_stepBehind_57 : decode cX1_stepBehind 57 = .ok (.getfield 46, 3) := by decide +kernel
theorem dX1_stepBehind_60 : decode cX1_stepBehind 60 = .ok (.iload_n 2, 1) := by decide +kernel
theorem dX1_stepBehind_61 : decode cX1_stepBehind 61 = .ok (.invokevirtual 231, 3) := by decide +kernel
theorem dX1_stepBehind_64 : decode cX1_stepBehind 64 = .ok (.if_icmp .ge 28, 3) := by decide +kernel
theorem dX1_stepBehind_67 : decode cX1_stepBehind 67 = .ok (.aload_n 0, 1) := by decide +kernel
theorem dX1_stepBehind_68 : decode cX1_stepBehind 68 = .ok (.getfield 29, 3) := by decide +kernel
theorem dX1_stepBehind_71 : decode cX1_stepBehind 71 = .ok (.iload_n 2, 1) := by decide +kernel
theorem dX1_stepBehind_72 : decode cX1_stepBehind 72 = .ok (.iload 4, 2) := by decide +kernel
theorem dX1_stepBehind_74 : decode cX1_stepBehind 74 = .ok (.iconst 1, 1) := by decide +kernel
theorem dX1_stepBehind_75 : decode cX1_stepBehind 75 = .ok (.iadd, 1) := by decide +kernel
theorem dX1_stepBehind_76 : decode cX1_stepBehind 76 = .ok (.invokestatic 126, 3) := by decide +kernel
theorem dX1_stepBehind_79 : decode cX1_stepBehind 79 = .ok (.aload_n 1, 1) := by decide +kernel
theorem dX1_stepBehind_80 : decode cX1_stepBehind 80 = .ok (.aload_n 0, 1) := by decide +kernel
theorem dX1_stepBehind_81 : decode cX1_stepBehind 81 = .ok (.getfield 46, 3) := by decide +kernel
theorem dX1_stepBehind_84 : decode cX1_stepBehind 84 = .ok (.iload_n 2, 1) := by decide +kernel
theorem dX1_stepBehind_85 : decode cX1_stepBehind 85 = .ok (.invokevirtual 196, 3) := by decide +kernel
theorem dX1_stepBehind_88 : decode cX1_stepBehind 88 = .ok (.istore_n 2, 1) := by decide +kernel
theorem dX1_stepBehind_89 : decode cX1_stepBehind 89 = .ok (.goto 15, 3) := by decide +kernel
theorem dX1_stepBehind_92 : decode cX1_stepBehind 92 = .ok (.aload_n 0, 1) := by decide +kernel
theorem dX1_stepBehind_93 : decode cX1_stepBehind 93 = .ok (.getfield 29, 3) := by decide +kernel
theorem dX1_stepBehind_96 : decode cX1_stepBehind 96 = .ok (.iload_n 2, 1) := by decide +kernel
theorem dX1_stepBehind_97 : decode cX1_stepBehind 97 = .ok (.iconst 0, 1) := by decide +kernel
theorem dX1_stepBehind_98 : decode cX1_stepBehind 98 = .ok (.invokestatic 126, 3) := by decide +kernel
theorem dX1_stepBehind_101 : decode cX1_stepBehind 101 = .ok (.iinc 2 1, 3) := by decide +kernel
theorem dX1_stepBehind_104 : decode cX1_stepBehind 104 = .ok (.iinc 3 1, 3) := by decide +kernel
theorem dX1_stepBehind_107 : decode cX1_stepBehind 107 = .ok (.goto (-98), 3) := by decide +kernel
theorem dX1_stepBehind_110 : decode cX1_stepBehind 110 = .ok (.iload_n 2, 1) := by decide +kernel
theorem dX1_stepBehind_111 : decode cX1_stepBehind 111 = .ok (.ireturn, 1) := by decide +kernel
set_option maxRecDepth 100000 in
set_option maxHeartbeats 4000000 in
theorem t_X1_stepBehind (l : Launch) (D : va_G) (ct : Nat → ClassId) (S : ty_S) (ws : va_W) (ph : va_W → Prop) (xx : Nat → Nat → Nat → Prop) (h0 : Nat) (p1 : Nat) (sz : Nat) (hT : ty_V ct S ph ws) (h_h0 : S h0 = some (.inl 1)) (h_p1 : S p1 = some (.inl 5)) (hph : ty_C ph xx) (hy1 : ty_y1 xx) : Met l yX1_stepBehind (ws_ yX1_stepBehind cX1_stepBehind 5 (some .int)) ({ frames := 2, cells := 0, slots := 0, locals := 43 } : Room) (va_Pc [.ref h0, .ref p1] (cmP D ct sz ([] ++ ws))) (va_Qi (fun (r : Int32) (u9 : va_W) => ty_V ct S ph u9) (cmB D ([] ++ ws) sz (fun (u9 : va_W) => ([] ++ u9))) (va_A ([] ++ ws) sz)) 0 0 (va_A ([] ++ ws) sz) := by
  refine Met.ofW (cc := cX1_stepBehind) (maxL := 5) (ret := (some .int)) (by decide) rfl ?_
  intro p e s m args below meth c s₁ B hml hv
  obtain ⟨rfl, hsz, hP, hK, hD0, hX⟩ := hv
  have hx := B.exec
  have hb := B.bytes
  have hr := B.returns
  have hts := ws_all (atoms_spec (ws := ws_ yX1_stepBehind cX1_stepBehind 5 (some .int)) B.pre)
  have hown : s.vm.findClass RX1 = some m.cls := findClass_of_methodNamed B.named
  have hlocks := B.notSynchronized
  subst hsz
  have hD := hD0.self (sz := s.heap.size)
  generalize hAe : va_A ([] ++ ws) s.heap.size = A at hD hX ⊢
  have hA : ∀ q : Nat, s.heap.size ≤ q → A q := fun q h => by rw [← hAe]; exact Or.inr h
  have hS : va_S A s.heap s.heap [] := va_S.rf
  have hl := lv_entry ([.ref h0, .ref p1]) (n := 5) (Nat.le_of_ble_eq_true rfl)
  rw [lg_entry_eq]
  generalize (lg_sl ([.ref h0, .ref p1]) ++ List.replicate (5 - (lg_sl ([.ref h0, .ref p1])).length) Slot.unset).toArray = ls at hl ⊢
  have hl : lv_has ls 5 [(0, .ref h0), (1, .ref p1)] := hl
  refine lv_aload_n hx hb dX1_stepBehind_0 rfl (lv_at hl 0 rfl) ?_
  refine ty_get (E := []) (ws := ws) (D := D) (ci := 1) (C := RX1) (T := TX1) (N := 14) hx hb hts in_X1 hown hK hP hT h_h0 rfl 5 (by decide) (hts _ kl_RX1_49) (fun _ h9 => h9) rfl dX1_stepBehind_1 (fun _ hv_1 hf_2 => ?_)
  obtain ⟨x_3, rfl⟩ := hv_1
  refine lv_iconst (v := 1) hx hb dX1_stepBehind_4 (by decide) ?_
  refine lv_iadd hx hb dX1_stepBehind_5 ?_
  refine lv_topi (fun x_4 _ => ?_)
  refine lv_istore_n (lv' := [(2, .int x_4), (0, .ref h0), (1, .ref p1)]) hx hb dX1_stepBehind_6 rfl hl (by decide) rfl (fun ls hl => ?_)
  refine lv_iconst (v := 0) hx hb dX1_stepBehind_7 (by decide) ?_
  refine lv_istore_n (lv' := [(3, .int 0), (2, .int x_4), (0, .ref h0), (1, .ref p1)]) hx hb dX1_stepBehind_8 rfl hl (by decide) rfl (fun ls hl => ?_)
  refine ty_loop (I := fun μ H locs ls => ∃ (ws : va_W) (y_5 : Int32) (y_6 : Int32), μ = (2147483648 - y_6.toInt).toNat ∧ ty_V ct S ph ws ∧ va_P D vwCl ([] ++ ws) H ∧ va_D A ([] ++ ws) ∧ va_S A s.heap H locs ∧ lv_has ls 5 [(0, .ref h0), (1, .ref p1), (2, .int y_5), (3, .int y_6)]) ⟨_, ws, x_4, (0 : Int32), rfl, hT, hP, hD, hS, (lv_sub hl [2, 3, 1, 0] rfl)⟩ (fun μ H locs ls hI ih_9 => ?_)
  obtain ⟨ws, y_5, y_6, rfl, hT, hP, hD, hS, hl⟩ := hI
  refine lv_iload_n hx hb dX1_stepBehind_9 rfl (lv_at hl 3 rfl) ?_
  refine lv_bipush (v := 48) hx hb dX1_stepBehind_10 (by decide) ?_
  refine lv_icmp_ge (tgt := 110) hx hb dX1_stepBehind_12 (by decide) (fun hc_7 => ?_) (fun hc_7 => ?_)
  · refine lv_iload_n hx hb dX1_stepBehind_110 rfl (lv_at hl 2 rfl) ?_
    exact W.iret (v := y_5) hx hb hr (fun t ht hW => ⟨⟨y_5, ws, rfl, hT, by rw [ht]; exact hP, by rw [hAe]; exact hD⟩, hS.F ht⟩) hS.2.2 dX1_stepBehind_111
  · refine lv_iload_n hx hb dX1_stepBehind_15 rfl (lv_at hl 2 rfl) ?_
    refine lv_aload_n hx hb dX1_stepBehind_16 rfl (lv_at hl 1 rfl) ?_
    refine lv_aload_n hx hb dX1_stepBehind_17 rfl (lv_at hl 0 rfl) ?_
    refine ty_get (E := []) (ws := ws) (D := D) (ci := 1) (C := RX1) (T := TX1) (N := 14) hx hb hts in_X1 hown hK hP hT h_h0 rfl 4 (by decide) (hts _ kl_RX1_46) (fun _ h9 => h9) rfl dX1_stepBehind_18 (fun _ hv_8 hf_9 => ?_)
    obtain ⟨x_10, rfl⟩ := hv_8
    refine ty_ki (wr := []) (wc := ([] ++ ws)) (va_runVN (As := [.int x_10]) (rest := [.int y_5]) ⟨hx, hb, hml, hown, hts⟩ (t_X5_stepsOf l D ct S ws ph xx p1 x_10 _ hT h_p1 hph hy1) (cm_VN 1 hts kc_X5_stepsOf ki_RX5 kl_RX1_266 kv_X5_stepsOf kx_X5_stepsOf kd_X5_stepsOf ⟨Nat.le_of_ble_eq_true rfl, Nat.le_of_ble_eq_true rfl⟩) (ty_preV (wr := []) (E := []) (ws := ws) (ci := 5) hP hK hD hS hA hX hT rfl h_p1) rfl rfl hl.1 rfl (lv_room (Nat.le_of_ble_eq_true rfl)) dX1_stepBehind_21 ⟨Nat.le_of_ble_eq_true rfl, Nat.le_of_ble_eq_true rfl⟩) hP hD hS hA (fun r_11 u H locs hw_12 hP hD hS => ?_)
    obtain ⟨ws_13, rfl⟩ : ∃ z, z = u := ⟨_, rfl⟩
    have hT := hw_12
    have hP : va_P D vwCl ([] ++ ws_13) H := hP
    have hD : va_D A ([] ++ ws_13) := hD
    refine lv_icmp_ge (tgt := 110) hx hb dX1_stepBehind_24 (by decide) (fun hc_14 => ?_) (fun hc_14 => ?_)
    · refine lv_iload_n hx hb dX1_stepBehind_110 rfl (lv_at hl 2 rfl) ?_
      exact W.iret (v := y_5) hx hb hr (fun t ht hW => ⟨⟨y_5, ws_13, rfl, hT, by rw [ht]; exact hP, by rw [hAe]; exact hD⟩, hS.F ht⟩) hS.2.2 dX1_stepBehind_111
    · refine lv_aload_n hx hb dX1_stepBehind_27 rfl (lv_at hl 1 rfl) ?_
      refine lv_aload_n hx hb dX1_stepBehind_28 rfl (lv_at hl 0 rfl) ?_
      refine ty_get (E := []) (ws := ws_13) (D := D) (ci := 1) (C := RX1) (T := TX1) (N := 14) hx hb hts in_X1 hown hK hP hT h_h0 rfl 4 (by decide) (hts _ kl_RX1_46) (fun _ h9 => h9) rfl dX1_stepBehind_29 (fun _ hv_15 hf_16 => ?_)
      obtain ⟨x_17, rfl⟩ := hv_15
      refine lv_iload_n hx hb dX1_stepBehind_32 rfl (lv_at hl 2 rfl) ?_
      refine ty_ki (wr := []) (wc := ([] ++ ws_13)) (va_runVN (As := [.int x_17, .int y_5]) (rest := []) ⟨hx, hb, hml, hown, hts⟩ (t_X5_kindOf l D ct S ws_13 ph xx p1 x_17 y_5 _ hT h_p1 hph hy1) (cm_VN 2 hts kc_X5_kindOf ki_RX5 kl_RX1_201 kv_X5_kindOf kx_X5_kindOf kd_X5_kindOf ⟨Nat.le_of_ble_eq_true rfl, Nat.le_of_ble_eq_true rfl⟩) (ty_preV (wr := []) (E := []) (ws := ws_13) (ci := 5) hP hK hD hS hA hX hT rfl h_p1) rfl rfl hl.1 rfl (lv_room (Nat.le_of_ble_eq_true rfl)) dX1_stepBehind_33 ⟨Nat.le_of_ble_eq_true rfl, Nat.le_of_ble_eq_true rfl⟩) hP hD hS hA (fun r_18 u H locs hw_19 hP hD hS => ?_)
      obtain ⟨ws_20, rfl⟩ : ∃ z, z = u := ⟨_, rfl⟩
      have hT := hw_19
      have hP : va_P D vwCl ([] ++ ws_20) H := hP
      have hD : va_D A ([] ++ ws_20) := hD
      refine lv_iconst (v := 4) hx hb dX1_stepBehind_36 (by decide) ?_
      refine lv_icmp_eq (tgt := 43) hx hb dX1_stepBehind_37 (by decide) (fun hc_21 => ?_) (fun hc_21 => ?_)
      · refine lv_aload_n hx hb dX1_stepBehind_43 rfl (lv_at hl 0 rfl) ?_
        refine ty_get (E := []) (ws := ws_20) (D := D) (ci := 1) (C := RX1) (T := TX1) (N := 14) hx hb hts in_X1 hown hK hP hT h_h0 rfl 7 (by decide) (hts _ kl_RX1_29) (fun _ h9 => h9) rfl dX1_stepBehind_44 (fun _ hv_22 hf_23 => ?_)
        obtain ⟨a_24, n_25, rfl, ha_26⟩ := hv_22
        refine lv_iload_n hx hb dX1_stepBehind_47 rfl (lv_at hl 2 rfl) ?_
        refine ty_ki (wr := []) (wc := ([] ++ ws_20)) (va_runSN (As := [.ref a_24, .int y_5]) (rest := []) ⟨hx, hb, hml, hown, hts⟩ (t_X10_at l D ct S ws_20 ph xx a_24 n_25 y_5 _ hT ha_26 hph hy1) (cm_SN 2 hts kc_X10_at ki_RX10 kl_RX1_122 ks_X10_at kd_X10_at ⟨Nat.le_of_ble_eq_true rfl, Nat.le_of_ble_eq_true rfl⟩) (ty_preS (wr := []) (wc := ([] ++ ws_20)) hP hK hD hS hA hX) rfl rfl hl.1 rfl (lv_room (Nat.le_of_ble_eq_true rfl)) dX1_stepBehind_48 ⟨Nat.le_of_ble_eq_true rfl, Nat.le_of_ble_eq_true rfl⟩) hP hD hS hA (fun r_27 u H locs hw_28 hP hD hS => ?_)
        obtain ⟨ws_29, rfl⟩ : ∃ z, z = u := ⟨_, rfl⟩
        have hT := hw_28
        have hP : va_P D vwCl ([] ++ ws_29) H := hP
        have hD : va_D A ([] ++ ws_29) := hD
        refine lv_istore (lv' := [(4, .int r_27), (0, .ref h0), (1, .ref p1), (2, .int y_5), (3, .int y_6)]) hx hb dX1_stepBehind_51 hl (by decide) rfl (fun ls hl => ?_)
        refine lv_iload hx hb dX1_stepBehind_53 (lv_at hl 0 rfl) ?_
        refine lv_aload_n hx hb dX1_stepBehind_55 rfl (lv_at hl 2 rfl) ?_
        refine lv_aload_n hx hb dX1_stepBehind_56 rfl (lv_at hl 1 rfl) ?_
        refine ty_get (E := []) (ws := ws_29) (D := D) (ci := 1) (C := RX1) (T := TX1) (N := 14) hx hb hts in_X1 hown hK hP hT h_h0 rfl 4 (by decide) (hts _ kl_RX1_46) (fun _ h9 => h9) rfl dX1_stepBehind_57 (fun _ hv_30 hf_31 => ?_)
        obtain ⟨x_32, rfl⟩ := hv_30
        refine lv_iload_n hx hb dX1_stepBehind_60 rfl (lv_at hl 3 rfl) ?_
        refine ty_ki (wr := []) (wc := ([] ++ ws_29)) (va_runVN (As := [.int x_32, .int y_5]) (rest := [.int r_27]) ⟨hx, hb, hml, hown, hts⟩ (t_X5_secondOf l D ct S ws_29 ph xx p1 x_32 y_5 _ hT h_p1 hph hy1) (cm_VN 2 hts kc_X5_secondOf ki_RX5 kl_RX1_231 kv_X5_secondOf kx_X5_secondOf kd_X5_secondOf ⟨Nat.le_of_ble_eq_true rfl, Nat.le_of_ble_eq_true rfl⟩) (ty_preV (wr := []) (E := []) (ws := ws_29) (ci := 5) hP hK hD hS hA hX hT rfl h_p1) rfl rfl hl.1 rfl (lv_room (Nat.le_of_ble_eq_true rfl)) dX1_stepBehind_61 ⟨Nat.le_of_ble_eq_true rfl, Nat.le_of_ble_eq_true rfl⟩) hP hD hS hA (fun r_33 u H locs hw_34 hP hD hS => ?_)
        obtain ⟨ws_35, rfl⟩ : ∃ z, z = u := ⟨_, rfl⟩
        have hT := hw_34
        have hP : va_P D vwCl ([] ++ ws_35) H := hP
        have hD : va_D A ([] ++ ws_35) := hD
        refine lv_icmp_ge (tgt := 92) hx hb dX1_stepBehind_64 (by decide) (fun hc_36 => ?_) (fun hc_36 => ?_)
        · refine lv_aload_n hx hb dX1_stepBehind_92 rfl (lv_at hl 1 rfl) ?_
          refine ty_get (E := []) (ws := ws_35) (D := D) (ci := 1) (C := RX1) (T := TX1) (N := 14) hx hb hts in_X1 hown hK hP hT h_h0 rfl 7 (by decide) (hts _ kl_RX1_29) (fun _ h9 => h9) rfl dX1_stepBehind_93 (fun _ hv_37 hf_38 => ?_)
          obtain ⟨a_39, n_40, rfl, ha_41⟩ := hv_37
          refine lv_iload_n hx hb dX1_stepBehind_96 rfl (lv_at hl 3 rfl) ?_
          refine lv_iconst (v := 0) hx hb dX1_stepBehind_97 (by decide) ?_
          refine ty_kv (wr := []) (wc := ([] ++ ws_35)) (va_runSN (As := [.ref a_39, .int y_5, .int 0]) (rest := []) ⟨hx, hb, hml, hown, hts⟩ (t_X10_put l D ct S ws_35 ph xx a_39 n_40 y_5 (0 : Int32) _ hT ha_41 hph hy1) (cm_SN 3 hts kc_X10_put ki_RX10 kl_RX1_126 ks_X10_put kd_X10_put ⟨Nat.le_of_ble_eq_true rfl, Nat.le_of_ble_eq_true rfl⟩) (ty_preS (wr := []) (wc := ([] ++ ws_35)) hP hK hD hS hA hX) rfl rfl hl.1 rfl (lv_room (Nat.le_of_ble_eq_true rfl)) dX1_stepBehind_98 ⟨Nat.le_of_ble_eq_true rfl, Nat.le_of_ble_eq_true rfl⟩) hP hD hS hA (fun u H locs hw_43 hP hD hS => ?_)
          obtain ⟨ws_44, rfl⟩ : ∃ z, z = u := ⟨_, rfl⟩
          obtain ⟨hT, hp_45⟩ := hw_43
          have hp_45 : ty_fdle ws_35 ws_44 := hp_45
          have hP : va_P D vwCl ([] ++ ws_44) H := hP
          have hD : va_D A ([] ++ ws_44) := hD
          refine lv_iinc (v := (y_5 + Int32.ofInt 1)) (lv' := [(2, .int (y_5 + Int32.ofInt 1)), (4, .int r_27), (0, .ref h0), (1, .ref p1), (3, .int y_6)]) hx hb dX1_stepBehind_101 hl (k := 3) rfl rfl (by decide) rfl (fun ls hl => ?_)
          refine lv_iinc (v := (y_6 + Int32.ofInt 1)) (lv' := [(3, .int (y_6 + Int32.ofInt 1)), (2, .int (y_5 + Int32.ofInt 1)), (4, .int r_27), (0, .ref h0), (1, .ref p1)]) hx hb dX1_stepBehind_104 hl (k := 4) rfl rfl (by decide) rfl (fun ls hl => ?_)
          refine lv_goto (tgt := 9) hx hb dX1_stepBehind_107 (by decide) ?_
          exact ih_9 _ _ _ _ (ty_inc (cm_lt hc_7)) ⟨ws_44, (y_5 + Int32.ofInt 1), (y_6 + Int32.ofInt 1), rfl, hT, hP, hD, hS, (lv_sub hl [3, 4, 1, 0] rfl)⟩
        · refine lv_aload_n hx hb dX1_stepBehind_67 rfl (lv_at hl 1 rfl) ?_
          refine ty_get (E := []) (ws := ws_35) (D := D) (ci := 1) (C := RX1) (T := TX1) (N := 14) hx hb hts in_X1 hown hK hP hT h_h0 rfl 7 (by decide) (hts _ kl_RX1_29) (fun _ h9 => h9) rfl dX1_stepBehind_68 (fun _ hv_46 hf_47 => ?_)
          obtain ⟨a_48, n_49, rfl, ha_50⟩ := hv_46
          refine lv_iload_n hx hb dX1_stepBehind_71 rfl (lv_at hl 3 rfl) ?_
          refine lv_iload hx hb dX1_stepBehind_72 (lv_at hl 0 rfl) ?_
          refine lv_iconst (v := 1) hx hb dX1_stepBehind_74 (by decide) ?_
          refine lv_iadd hx hb dX1_stepBehind_75 ?_
          refine lv_topi (fun x_51 _ => ?_)
          refine ty_kv (wr := []) (wc := ([] ++ ws_35)) (va_runSN (As := [.ref a_48, .int y_5, .int x_51]) (rest := []) ⟨hx, hb, hml, hown, hts⟩ (t_X10_put l D ct S ws_35 ph xx a_48 n_49 y_5 x_51 _ hT ha_50 hph hy1) (cm_SN 3 hts kc_X10_put ki_RX10 kl_RX1_126 ks_X10_put kd_X10_put ⟨Nat.le_of_ble_eq_true rfl, Nat.le_of_ble_eq_true rfl⟩) (ty_preS (wr := []) (wc := ([] ++ ws_35)) hP hK hD hS hA hX) rfl rfl hl.1 rfl (lv_room (Nat.le_of_ble_eq_true rfl)) dX1_stepBehind_76 ⟨Nat.le_of_ble_eq_true rfl, Nat.le_of_ble_eq_true rfl⟩) hP hD hS hA (fun u H locs hw_53 hP hD hS => ?_)
          obtain ⟨ws_54, rfl⟩ : ∃ z, z = u := ⟨_, rfl⟩
          obtain ⟨hT, hp_55⟩ := hw_53
          have hp_55 : ty_fdle ws_35 ws_54 := hp_55
          have hP : va_P D vwCl ([] ++ ws_54) H := hP
          have hD : va_D A ([] ++ ws_54) := hD
          refine lv_aload_n hx hb dX1_stepBehind_79 rfl (lv_at hl 2 rfl) ?_
          refine lv_aload_n hx hb dX1_stepBehind_80 rfl (lv_at hl 1 rfl) ?_
          refine ty_get (E := []) (ws := ws_54) (D := D) (ci := 1) (C := RX1) (T := TX1) (N := 14) hx hb hts in_X1 hown hK hP hT h_h0 rfl 4 (by decide) (hts _ kl_RX1_46) (fun _ h9 => h9) rfl dX1_stepBehind_81 (fun _ hv_56 hf_57 => ?_)
          obtain ⟨x_58, rfl⟩ := hv_56
          refine lv_iload_n hx hb dX1_stepBehind_84 rfl (lv_at hl 3 rfl) ?_
          refine ty_ki (wr := []) (wc := ([] ++ ws_54)) (va_runVN (As := [.int x_58, .int y_5]) (rest := []) ⟨hx, hb, hml, hown, hts⟩ (t_X5_firstOf l D ct S ws_54 ph xx p1 x_58 y_5 _ hT h_p1 hph hy1) (cm_VN 2 hts kc_X5_firstOf ki_RX5 kl_RX1_196 kv_X5_firstOf kx_X5_firstOf kd_X5_firstOf ⟨Nat.le_of_ble_eq_true rfl, Nat.le_of_ble_eq_true rfl⟩) (ty_preV (wr := []) (E := []) (ws := ws_54) (ci := 5) hP hK hD hS hA hX hT rfl h_p1) rfl rfl hl.1 rfl (lv_room (Nat.le_of_ble_eq_true rfl)) dX1_stepBehind_85 ⟨Nat.le_of_ble_eq_true rfl, Nat.le_of_ble_eq_true rfl⟩) hP hD hS hA (fun r_59 u H locs hw_60 hP hD hS => ?_)
          obtain ⟨ws_61, rfl⟩ : ∃ z, z = u := ⟨_, rfl⟩
          have hT := hw_60
          have hP : va_P D vwCl ([] ++ ws_61) H := hP
          have hD : va_D A ([] ++ ws_61) := hD
          refine lv_istore_n (lv' := [(2, .int r_59), (4, .int r_27), (0, .ref h0), (1, .ref p1), (3, .int y_6)]) hx hb dX1_stepBehind_88 rfl hl (by decide) rfl (fun ls hl => ?_)
          refine lv_goto (tgt := 104) hx hb dX1_stepBehind_89 (by decide) ?_
          refine lv_iinc (v := (y_6 + Int32.ofInt 1)) (lv' := [(3, .int (y_6 + Int32.ofInt 1)), (2, .int r_59), (4, .int r_27), (0, .ref h0), (1, .ref p1)]) hx hb dX1_stepBehind_104 hl (k := 4) rfl rfl (by decide) rfl (fun ls hl => ?_)
          refine lv_goto (tgt := 9) hx hb dX1_stepBehind_107 (by decide) ?_
          exact ih_9 _ _ _ _ (ty_inc (cm_lt hc_7)) ⟨ws_61, r_59, (y_6 + Int32.ofInt 1), rfl, hT, hP, hD, hS, (lv_sub hl [3, 4, 1, 0] rfl)⟩
      · refine lv_goto (tgt := 110) hx hb dX1_stepBehind_40 (by decide) ?_
        refine lv_iload_n hx hb dX1_stepBehind_110 rfl (lv_at hl 2 rfl) ?_
        exact W.iret (v := y_5) hx hb hr (fun t ht hW => ⟨⟨y_5, ws_20, rfl, hT, by rw [ht]; exact hP, by rw [hAe]; exact hD⟩, hS.F ht⟩) hS.2.2 dX1_stepBehind_111
theorem dX1_copyFrom_0 : decode cX1_copyFrom 0 = .ok (.aload_n 0, 1) := by decide +kernel
theorem dX1_copyFrom_1 : decode cX1_copyFrom 1 = .ok (.getfield 18, 3) := by decide +kernel
theorem dX1_copyFrom_4 : decode cX1_copyFrom 4 = .ok (.aload_n 1, 1) := by decide +kernel
theorem dX1_copyFrom_5 : decode cX1_copyFrom 5 = .ok (.getfield 18, 3) := by decide +kernel
theorem dX1_copyFrom_8 : decode cX1_copyFrom 8 = .ok (.invokevirtual 275, 3) := by decide +kernel
theorem dX1_copyFrom_11 : decode cX1_copyFrom 11 = .ok (.aload_n 0, 1) := by decide +kernel
theorem dX1_copyFrom_12 : decode cX1_copyFrom 12 = .ok (.getfield 25, 3) := by decide +kernel
theorem dX1_copyFrom_15 : decode cX1_copyFrom 15 = .ok (.aload_n 1, 1) := by decide +kernel
theorem dX1_copyFrom_16 : decode cX1_copyFrom 16 = .ok (.getfield 25, 3) := by decide +kernel
theorem dX1_copyFrom_19 : decode cX1_copyFrom 19 = .ok (.invokevirtual 279, 3) := by decide +kernel
theorem dX1_copyFrom_22 : decode cX1_copyFrom 22 = .ok (.aload_n 0, 1) := by decide +kernel
theorem dX1_copyFrom_23 : decode cX1_copyFrom 23 = .ok (.aload_n 1, 1) := by decide +kernel
theorem dX1_copyFrom_24 : decode cX1_copyFrom 24 = .ok (.getfield 43, 3) := by decide +kernel
theorem dX1_copyFrom_27 : decode cX1_copyFrom 27 = .ok (.putfield 43, 3) := by decide +kernel
theorem dX1_copyFrom_30 : decode cX1_copyFrom 30 = .ok (.aload_n 0, 1) := by decide +kernel
theorem dX1_copyFrom_31 : decode cX1_copyFrom 31 = .ok (.aload_n 1, 1) := by decide +kernel
theorem dX1_copyFrom_32 : decode cX1_copyFrom 32 = .ok (.getfield 46, 3) := by decide +kernel
theorem dX1_copyFrom_35 : decode cX1_copyFrom 35 = .ok (.putfield 46, 3) := by decide +kernel
theorem dX1_copyFrom_38 : decode cX1_copyFrom 38 = .ok (.aload_n 0, 1) := by decide +kernel
theorem dX1_copyFrom_39 : decode cX1_copyFrom 39 = .ok (.aload_n 1, 1) := by decide +kernel
theorem dX1_copyFrom_40 : decode cX1_copyFrom 40 = .ok (.getfield 49, 3) := by decide +kernel
theorem dX1_copyFrom_43 : decode cX1_copyFrom 43 = .ok (.putfield 49, 3) := by decide +kernel
theorem dX1_copyFrom_46 : decode cX1_copyFrom 46 = .ok (.aload_n 0, 1) := by decide +kernel
theorem dX1_copyFrom_47 : decode cX1_copyFrom 47 = .ok (.aload_n 1, 1) := by decide +kernel
theorem dX1_copyFrom_48 : decode cX1_copyFrom 48 = .ok (.getfield 52, 3) := by decide +kernel
theorem dX1_copyFrom_51 : decode cX1_copyFrom 51 = .ok (.putfield 52, 3) := by decide +kernel
theorem dX1_copyFrom_54 : decode cX1_copyFrom 54 = .ok (.aload_n 1, 1) := by decide +kernel
theorem dX1_copyFrom_55 : decode cX1_copyFrom 55 = .ok (.getfield 29, 3) := by decide +kernel
theorem dX1_copyFrom_58 : decode cX1_copyFrom 58 = .ok (.aload_n 0, 1) := by decide +kernel
theorem dX1_copyFrom_59 : decode cX1_copyFrom 59 = .ok (.getfield 29, 3) := by decide +kernel
theorem dX1_copyFrom_62 : decode cX1_copyFrom 62 = .ok (.invokestatic 282, 3) := by decide +kernel
theorem dX1_copyFrom_65 : decode cX1_copyFrom 65 = .ok (.aload_n 1, 1) := by decide +kernel
theorem dX1_copyFrom_66 : decode cX1_copyFrom 66 = .ok (.getfield 33, 3) := by decide +kernel
theorem dX1_copyFrom_69 : decode cX1_copyFrom 69 = .ok (.aload_n 0, 1) := by decide +kernel
theorem dX1_copyFrom_70 : decode cX1_copyFrom 70 = .ok (.getfield 33, 3) := by decide +kernel
theorem dX1_copyFrom_73 : decode cX1_copyFrom 73 = .ok (.invokestatic 282, 3) := by decide +kernel
theorem dX1_copyFrom_76 : decode cX1_copyFrom 76 = .ok (.aload_n 0, 1) := by decide +kernel
theorem dX1_copyFrom_77 : decode cX1_copyFrom 77 = .ok (.aload_n 1, 1) := by decide +kernel
theorem dX1_copyFrom_78 : decode cX1_copyFrom 78 = .ok (.getfield 59, 3) := by decide +kernel
theorem dX1_copyFrom_81 : decode cX1_copyFrom 81 = .ok (.putfield 59, 3) := by decide +kernel
theorem dX1_copyFrom_84 : decode cX1_copyFrom 84 = .ok (.aload_n 0, 1) := by decide +kernel
theorem dX1_copyFrom_85 : decode cX1_copyFrom 85 = .ok (.aload_n 1, 1) := by decide +kernel
theorem dX1_copyFrom_86 : decode cX1_copyFrom 86 = .ok (.getfield 62, 3) := by decide +kernel
theorem dX1_copyFrom_89 : decode cX1_copyFrom 89 = .ok (.putfield 62, 3) := by decide +kernel
theorem dX1_copyFrom_92 : decode cX1_copyFrom 92 = .ok (.aload_n 0, 1) := by decide +kernel
theorem dX1_copyFrom_93 : decode cX1_copyFrom 93 = .ok (.aload_n 1, 1) := by decide +kernel
theorem dX1_copyFrom_94 : decode cX1_copyFrom 94 = .ok (.getfield 66, 3) := by decide +kernel
theorem dX1_copyFrom_97 : decode cX1_copyFrom 97 = .ok (.putfield 66, 3) := by decide +kernel
theorem dX1_copyFrom_100 : decode cX1_copyFrom 100 = .ok (.aload_n 0, 1) := by decide +kernel
theorem dX1_copyFrom_101 : decode cX1_copyFrom 101 = .ok (.aload_n 1, 1) := by decide +kernel
theorem dX1_copyFrom_102 : decode cX1_copyFrom 102 = .ok (.getfield 69, 3) := by decide +kernel
theorem dX1_copyFrom_105 : decode cX1_copyFrom 105 = .ok (.putfield 69, 3) := by decide +kernel
theorem dX1_copyFrom_108 : decode cX1_copyFrom 108 = .ok (.aload_n 0, 1) := by decide +kernel
theorem dX1_copyFrom_109 : decode cX1_copyFrom 109 = .ok (.aload_n 1, 1) := by decide +kernel
theorem dX1_copyFrom_110 : decode cX1_copyFrom 110 = .ok (.getfield 73, 3) := by decide +kernel
theorem dX1_copyFrom_113 : decode cX1_copyFrom 113 = .ok (.putfield 73, 3) := by decide +kernel
theorem dX1_copyFrom_116 : decode cX1_copyFrom 116 = .ok (.return_, 1) := by decide +kernel
set_option maxRecDepth 100000 in
set_option maxHeartbeats 4000000 in
theorem t_X1_copyFrom (l : Launch) (D : va_G) (ct : Nat → ClassId) (S : ty_S) (ws : va_W) (ph : va_W → Prop) (xx : Nat → Nat → Nat → Prop) (h0 : Nat) (p1 : Nat) (sz : Nat) (hT : ty_V ct S ph ws) (h_h0 : S h0 = some (.inl 1)) (h_p1 : S p1 = some (.inl 1)) (hph : ty_C ph xx) (hy1 : ty_y1 xx) : Met l yX1_copyFrom (ws_ yX1_copyFrom cX1_copyFrom 2 none) ({ frames := 3, cells := 0, slots := 0, locals := 122 } : Room) (va_Pc [.ref h0, .ref p1] (cmP D ct sz ([] ++ ws))) (va_Qv (fun (u9 : va_W) => ty_V ct S ph u9) (cmB D ([] ++ ws) sz (fun (u9 : va_W) => ([] ++ u9))) (va_A ([] ++ ws) sz)) 0 0 (va_A ([] ++ ws) sz) := by
  refine Met.ofW (cc := cX1_copyFrom) (maxL := 2) (ret := none) (by decide) rfl ?_
  intro p e s m args below meth c s₁ B hml hv
  obtain ⟨rfl, hsz, hP, hK, hD0, hX⟩ := hv
  have hx := B.exec
  have hb := B.bytes
  have hr := B.returns
  have hts := ws_all (atoms_spec (ws := ws_ yX1_copyFrom cX1_copyFrom 2 none) B.pre)
  have hown : s.vm.findClass RX1 = some m.cls := findClass_of_methodNamed B.named
  have hlocks := B.notSynchronized
  subst hsz
  have hD := hD0.self (sz := s.heap.size)
  generalize hAe : va_A ([] ++ ws) s.heap.size = A at hD hX ⊢
  have hA : ∀ q : Nat, s.heap.size ≤ q → A q := fun q h => by rw [← hAe]; exact Or.inr h
  have hS : va_S A s.heap s.heap [] := va_S.rf
  have hl := lv_entry ([.ref h0, .ref p1]) (n := 2) (Nat.le_of_ble_eq_true rfl)
  rw [lg_entry_eq]
  generalize (lg_sl ([.ref h0, .ref p1]) ++ List.replicate (2 - (lg_sl ([.ref h0, .ref p1])).length) Slot.unset).toArray = ls at hl ⊢
  have hl : lv_has ls 2 [(0, .ref h0), (1, .ref p1)] := hl
  refine lv_aload_n hx hb dX1_copyFrom_0 rfl (lv_at hl 0 rfl) ?_
  refine ty_get (E := []) (ws := ws) (D := D) (ci := 1) (C := RX1) (T := TX1) (N := 14) hx hb hts in_X1 hown hK hP hT h_h0 rfl 1 (by decide) (hts _ kl_RX1_18) (fun _ h9 => h9) rfl dX1_copyFrom_1 (fun _ hv_1 hf_2 => ?_)
  obtain ⟨a_3, rfl, ha_4⟩ := hv_1
  refine lv_aload_n hx hb dX1_copyFrom_4 rfl (lv_at hl 1 rfl) ?_
  refine ty_get (E := []) (ws := ws) (D := D) (ci := 1) (C := RX1) (T := TX1) (N := 14) hx hb hts in_X1 hown hK hP hT h_p1 rfl 1 (by decide) (hts _ kl_RX1_18) (fun _ h9 => h9) rfl dX1_copyFrom_5 (fun _ hv_5 hf_6 => ?_)
  obtain ⟨a_7, rfl, ha_8⟩ := hv_5
  refine ty_kv (wr := []) (wc := ([] ++ ws)) (va_runVN (As := [.ref a_7]) (rest := []) ⟨hx, hb, hml, hown, hts⟩ (t_X0_copyFrom l D ct S ws ph xx a_3 a_7 _ hT ha_4 ha_8 hph hy1) (cm_VN 1 hts kc_X0_copyFrom ki_RX0 kl_RX1_275 kv_X0_copyFrom kx_X0_copyFrom kd_X0_copyFrom ⟨Nat.le_of_ble_eq_true rfl, Nat.le_of_ble_eq_true rfl⟩) (ty_preV (wr := []) (E := []) (ws := ws) (ci := 0) hP hK hD hS hA hX hT rfl ha_4) rfl rfl hl.1 rfl (lv_room (Nat.le_of_ble_eq_true rfl)) dX1_copyFrom_8 ⟨Nat.le_of_ble_eq_true rfl, Nat.le_of_ble_eq_true rfl⟩) hP hD hS hA (fun u H locs hw_10 hP hD hS => ?_)
  obtain ⟨ws_11, rfl⟩ : ∃ z, z = u := ⟨_, rfl⟩
  have hT := hw_10
  have hP : va_P D vwCl ([] ++ ws_11) H := hP
  have hD : va_D A ([] ++ ws_11) := hD
  refine lv_aload_n hx hb dX1_copyFrom_11 rfl (lv_at hl 0 rfl) ?_
  refine ty_get (E := []) (ws := ws_11) (D := D) (ci := 1) (C := RX1) (T := TX1) (N := 14) hx hb hts in_X1 hown hK hP hT h_h0 rfl 2 (by decide) (hts _ kl_RX1_25) (fun _ h9 => h9) rfl dX1_copyFrom_12 (fun _ hv_12 hf_13 => ?_)
  obtain ⟨a_14, rfl, ha_15⟩ := hv_12
  refine lv_aload_n hx hb dX1_copyFrom_15 rfl (lv_at hl 1 rfl) ?_
  refine ty_get (E := []) (ws := ws_11) (D := D) (ci := 1) (C := RX1) (T := TX1) (N := 14) hx hb hts in_X1 hown hK hP hT h_p1 rfl 2 (by decide) (hts _ kl_RX1_25) (fun _ h9 => h9) rfl dX1_copyFrom_16 (fun _ hv_16 hf_17 => ?_)
  obtain ⟨a_18, rfl, ha_19⟩ := hv_16
  refine ty_kv (wr := []) (wc := ([] ++ ws_11)) (va_runVN (As := [.ref a_18]) (rest := []) ⟨hx, hb, hml, hown, hts⟩ (t_X4_copyFrom l D ct S ws_11 ph xx a_14 a_18 _ hT ha_15 ha_19 hph hy1) (cm_VN 1 hts kc_X4_copyFrom ki_RX4 kl_RX1_279 kv_X4_copyFrom kx_X4_copyFrom kd_X4_copyFrom ⟨Nat.le_of_ble_eq_true rfl, Nat.le_of_ble_eq_true rfl⟩) (ty_preV (wr := []) (E := []) (ws := ws_11) (ci := 4) hP hK hD hS hA hX hT rfl ha_15) rfl rfl hl.1 rfl (lv_room (Nat.le_of_ble_eq_true rfl)) dX1_copyFrom_19 ⟨Nat.le_of_ble_eq_true rfl, Nat.le_of_ble_eq_true rfl⟩) hP hD hS hA (fun u H locs hw_21 hP hD hS => ?_)
  obtain ⟨ws_22, rfl⟩ : ∃ z, z = u := ⟨_, rfl⟩
  have hT := hw_21
  have hP : va_P D vwCl ([] ++ ws_22) H := hP
  have hD : va_D A ([] ++ ws_22) := hD
  refine lv_aload_n hx hb dX1_copyFrom_22 rfl (lv_at hl 0 rfl) ?_
  refine lv_aload_n hx hb dX1_copyFrom_23 rfl (lv_at hl 1 rfl) ?_
  refine ty_get (E := []) (ws := ws_22) (D := D) (ci := 1) (C := RX1) (T := TX1) (N := 14) hx hb hts in_X1 hown hK hP hT h_p1 rfl 3 (by decide) (hts _ kl_RX1_43) (fun _ h9 => h9) rfl dX1_copyFrom_24 (fun _ hv_23 hf_24 => ?_)
  obtain ⟨x_25, rfl⟩ := hv_23
  refine ty_put (v := .int x_25) (ty := .int) (E := []) (ws := ws_22) (D := D) (ci := 1) (C := RX1) (T := TX1) (N := 14) hx hb hts in_X1 tyX1 tyX1_ok nmX1 hown hK hP hD hS hT h_h0 rfl 3 (by decide) (hts _ kl_RX1_43) (fun _ h9 => h9) rfl (by decide +kernel) rfl rfl rfl ⟨_, rfl⟩ dX1_copyFrom_27 hph (hy1 1 3 h0 rfl) (fun ws_26 H locs hT hP hD hS => ?_)
  refine lv_aload_n hx hb dX1_copyFrom_30 rfl (lv_at hl 0 rfl) ?_
  refine lv_aload_n hx hb dX1_copyFrom_31 rfl (lv_at hl 1 rfl) ?_
  refine ty_get (E := []) (ws := ws_26) (D := D) (ci := 1) (C := RX1) (T := TX1) (N := 14) hx hb hts in_X1 hown hK hP hT h_p1 rfl 4 (by decide) (hts _ kl_RX1_46) (fun _ h9 => h9) rfl dX1_copyFrom_32 (fun _ hv_27 hf_28 => ?_)
  obtain ⟨x_29, rfl⟩ := hv_27
  refine ty_put (v := .int x_29) (ty := .int) (E := []) (ws := ws_26) (D := D) (ci := 1) (C := RX1) (T := TX1) (N := 14) hx hb hts in_X1 tyX1 tyX1_ok nmX1 hown hK hP hD hS hT h_h0 rfl 4 (by decide) (hts _ kl_RX1_46) (fun _ h9 => h9) rfl (by decide +kernel) rfl rfl rfl ⟨_, rfl⟩ dX1_copyFrom_35 hph (hy1 1 4 h0 rfl) (fun ws_30 H locs hT hP hD hS => ?_)
  refine lv_aload_n hx hb dX1_copyFrom_38 rfl (lv_at hl 0 rfl) ?_
  refine lv_aload_n hx hb dX1_copyFrom_39 rfl (lv_at hl 1 rfl) ?_
  refine ty_get (E := []) (ws := ws_30) (D := D) (ci := 1) (C := RX1) (T := TX1) (N := 14) hx hb hts in_X1 hown hK hP hT h_p1 rfl 5 (by decide) (hts _ kl_RX1_49) (fun _ h9 => h9) rfl dX1_copyFrom_40 (fun _ hv_31 hf_32 => ?_)
  obtain ⟨x_33, rfl⟩ := hv_31
  refine ty_put (v := .int x_33) (ty := .int) (E := []) (ws := ws_30) (D := D) (ci := 1) (C := RX1) (T := TX1) (N := 14) hx hb hts in_X1 tyX1 tyX1_ok nmX1 hown hK hP hD hS hT h_h0 rfl 5 (by decide) (hts _ kl_RX1_49) (fun _ h9 => h9) rfl (by decide +kernel) rfl rfl rfl ⟨_, rfl⟩ dX1_copyFrom_43 hph (hy1 1 5 h0 rfl) (fun ws_34 H locs hT hP hD hS => ?_)
  refine lv_aload_n hx hb dX1_copyFrom_46 rfl (lv_at hl 0 rfl) ?_
  refine lv_aload_n hx hb dX1_copyFrom_47 rfl (lv_at hl 1 rfl) ?_
  refine ty_get (E := []) (ws := ws_34) (D := D) (ci := 1) (C := RX1) (T := TX1) (N := 14) hx hb hts in_X1 hown hK hP hT h_p1 rfl 6 (by decide) (hts _ kl_RX1_52) (fun _ h9 => h9) rfl dX1_copyFrom_48 (fun _ hv_35 hf_36 => ?_)
  obtain ⟨x_37, rfl⟩ := hv_35
  refine ty_put (v := .int x_37) (ty := .int) (E := []) (ws := ws_34) (D := D) (ci := 1) (C := RX1) (T := TX1) (N := 14) hx hb hts in_X1 tyX1 tyX1_ok nmX1 hown hK hP hD hS hT h_h0 rfl 6 (by decide) (hts _ kl_RX1_52) (fun _ h9 => h9) rfl (by decide +kernel) rfl rfl rfl ⟨_, rfl⟩ dX1_copyFrom_51 hph (hy1 1 6 h0 rfl) (fun ws_38 H locs hT hP hD hS => ?_)
  refine lv_aload_n hx hb dX1_copyFrom_54 rfl (lv_at hl 1 rfl) ?_
  refine ty_get (E := []) (ws := ws_38) (D := D) (ci := 1) (C := RX1) (T := TX1) (N := 14) hx hb hts in_X1 hown hK hP hT h_p1 rfl 7 (by decide) (hts _ kl_RX1_29) (fun _ h9 => h9) rfl dX1_copyFrom_55 (fun _ hv_39 hf_40 => ?_)
  obtain ⟨a_41, n_42, rfl, ha_43⟩ := hv_39
  refine lv_aload_n hx hb dX1_copyFrom_58 rfl (lv_at hl 0 rfl) ?_
  refine ty_get (E := []) (ws := ws_38) (D := D) (ci := 1) (C := RX1) (T := TX1) (N := 14) hx hb hts in_X1 hown hK hP hT h_h0 rfl 7 (by decide) (hts _ kl_RX1_29) (fun _ h9 => h9) rfl dX1_copyFrom_59 (fun _ hv_44 hf_45 => ?_)
  obtain ⟨a_46, n_47, rfl, ha_48⟩ := hv_44
  refine ty_kv (wr := []) (wc := ([] ++ ws_38)) (va_runSN (As := [.ref a_41, .ref a_46]) (rest := []) ⟨hx, hb, hml, hown, hts⟩ (t_X10_copyRow l D ct S ws_38 ph xx a_41 n_42 a_46 n_47 _ hT ha_43 ha_48 hph hy1) (cm_SN 2 hts kc_X10_copyRow ki_RX10 kl_RX1_282 ks_X10_copyRow kd_X10_copyRow ⟨Nat.le_of_ble_eq_true rfl, Nat.le_of_ble_eq_true rfl⟩) (ty_preS (wr := []) (wc := ([] ++ ws_38)) hP hK hD hS hA hX) rfl rfl hl.1 rfl (lv_room (Nat.le_of_ble_eq_true rfl)) dX1_copyFrom_62 ⟨Nat.le_of_ble_eq_true rfl, Nat.le_of_ble_eq_true rfl⟩) hP hD hS hA (fun u H locs hw_50 hP hD hS => ?_)
  obtain ⟨ws_51, rfl⟩ : ∃ z, z = u := ⟨_, rfl⟩
  have hT := hw_50
  have hP : va_P D vwCl ([] ++ ws_51) H := hP
  have hD : va_D A ([] ++ ws_51) := hD
  refine lv_aload_n hx hb dX1_copyFrom_65 rfl (lv_at hl 1 rfl) ?_
  refine ty_get (E := []) (ws := ws_51) (D := D) (ci := 1) (C := RX1) (T := TX1) (N := 14) hx hb hts in_X1 hown hK hP hT h_p1 rfl 8 (by decide) (hts _ kl_RX1_33) (fun _ h9 => h9) rfl dX1_copyFrom_66 (fun _ hv_52 hf_53 => ?_)
  obtain ⟨a_54, n_55, rfl, ha_56⟩ := hv_52
  refine lv_aload_n hx hb dX1_copyFrom_69 rfl (lv_at hl 0 rfl) ?_
  refine ty_get (E := []) (ws := ws_51) (D := D) (ci := 1) (C := RX1) (T := TX1) (N := 14) hx hb hts in_X1 hown hK hP hT h_h0 rfl 8 (by decide) (hts _ kl_RX1_33) (fun _ h9 => h9) rfl dX1_copyFrom_70 (fun _ hv_57 hf_58 => ?_)
  obtain ⟨a_59, n_60, rfl, ha_61⟩ := hv_57
  refine ty_kv (wr := []) (wc := ([] ++ ws_51)) (va_runSN (As := [.ref a_54, .ref a_59]) (rest := []) ⟨hx, hb, hml, hown, hts⟩ (t_X10_copyRow l D ct S ws_51 ph xx a_54 n_55 a_59 n_60 _ hT ha_56 ha_61 hph hy1) (cm_SN 2 hts kc_X10_copyRow ki_RX10 kl_RX1_282 ks_X10_copyRow kd_X10_copyRow ⟨Nat.le_of_ble_eq_true rfl, Nat.le_of_ble_eq_true rfl⟩) (ty_preS (wr := []) (wc := ([] ++ ws_51)) hP hK hD hS hA hX) rfl rfl hl.1 rfl (lv_room (Nat.le_of_ble_eq_true rfl)) dX1_copyFrom_73 ⟨Nat.le_of_ble_eq_true rfl, Nat.le_of_ble_eq_true rfl⟩) hP hD hS hA (fun u H locs hw_63 hP hD hS => ?_)
  obtain ⟨ws_64, rfl⟩ : ∃ z, z = u := ⟨_, rfl⟩
  have hT := hw_63
  have hP : va_P D vwCl ([] ++ ws_64) H := hP
  have hD : va_D A ([] ++ ws_64) := hD
  refine lv_aload_n hx hb dX1_copyFrom_76 rfl (lv_at hl 0 rfl) ?_
  refine lv_aload_n hx hb dX1_copyFrom_77 rfl (lv_at hl 1 rfl) ?_
  refine ty_get (E := []) (ws := ws_64) (D := D) (ci := 1) (C := RX1) (T := TX1) (N := 14) hx hb hts in_X1 hown hK hP hT h_p1 rfl 9 (by decide) (hts _ kl_RX1_59) (fun _ h9 => h9) rfl dX1_copyFrom_78 (fun _ hv_65 hf_66 => ?_)
  obtain ⟨x_67, rfl⟩ := hv_65
  refine ty_put (v := .int x_67) (ty := .int) (E := []) (ws := ws_64) (D := D) (ci := 1) (C := RX1) (T := TX1) (N := 14) hx hb hts in_X1 tyX1 tyX1_ok nmX1 hown hK hP hD hS hT h_h0 rfl 9 (by decide) (hts _ kl_RX1_59) (fun _ h9 => h9) rfl (by decide +kernel) rfl rfl rfl ⟨_, rfl⟩ dX1_copyFrom_81 hph (hy1 1 9 h0 rfl) (fun ws_68 H locs hT hP hD hS => ?_)
  refine lv_aload_n hx hb dX1_copyFrom_84 rfl (lv_at hl 0 rfl) ?_
  refine lv_aload_n hx hb dX1_copyFrom_85 rfl (lv_at hl 1 rfl) ?_
  refine ty_get (E := []) (ws := ws_68) (D := D) (ci := 1) (C := RX1) (T := TX1) (N := 14) hx hb hts in_X1 hown hK hP hT h_p1 rfl 10 (by decide) (hts _ kl_RX1_62) (fun _ h9 => h9) rfl dX1_copyFrom_86 (fun _ hv_69 hf_70 => ?_)
  obtain ⟨x_71, rfl⟩ := hv_69
  refine ty_put (v := .long x_71) (ty := .long) (E := []) (ws := ws_68) (D := D) (ci := 1) (C := RX1) (T := TX1) (N := 14) hx hb hts in_X1 tyX1 tyX1_ok nmX1 hown hK hP hD hS hT h_h0 rfl 10 (by decide) (hts _ kl_RX1_62) (fun _ h9 => h9) rfl (by decide +kernel) rfl rfl rfl ⟨_, rfl⟩ dX1_copyFrom_89 hph (hy1 1 10 h0 rfl) (fun ws_72 H locs hT hP hD hS => ?_)
  refine lv_aload_n hx hb dX1_copyFrom_92 rfl (lv_at hl 0 rfl) ?_
  refine lv_aload_n hx hb dX1_copyFrom_93 rfl (lv_at hl 1 rfl) ?_
  refine ty_get (E := []) (ws := ws_72) (D := D) (ci := 1) (C := RX1) (T := TX1) (N := 14) hx hb hts in_X1 hown hK hP hT h_p1 rfl 11 (by decide) (hts _ kl_RX1_66) (fun _ h9 => h9) rfl dX1_copyFrom_94 (fun _ hv_73 hf_74 => ?_)
  obtain ⟨x_75, rfl⟩ := hv_73
  refine ty_put (v := .long x_75) (ty := .long) (E := []) (ws := ws_72) (D := D) (ci := 1) (C := RX1) (T := TX1) (N := 14) hx hb hts in_X1 tyX1 tyX1_ok nmX1 hown hK hP hD hS hT h_h0 rfl 11 (by decide) (hts _ kl_RX1_66) (fun _ h9 => h9) rfl (by decide +kernel) rfl rfl rfl ⟨_, rfl⟩ dX1_copyFrom_97 hph (hy1 1 11 h0 rfl) (fun ws_76 H locs hT hP hD hS => ?_)
  refine lv_aload_n hx hb dX1_copyFrom_100 rfl (lv_at hl 0 rfl) ?_
  refine lv_aload_n hx hb dX1_copyFrom_101 rfl (lv_at hl 1 rfl) ?_
  refine ty_get (E := []) (ws := ws_76) (D := D) (ci := 1) (C := RX1) (T := TX1) (N := 14) hx hb hts in_X1 hown hK hP hT h_p1 rfl 12 (by decide) (hts _ kl_RX1_69) (fun _ h9 => h9) rfl dX1_copyFrom_102 (fun _ hv_77 hf_78 => ?_)
  obtain ⟨x_79, rfl, hz_80⟩ := hv_77
  refine ty_put (v := .int x_79) (ty := .boolean) (E := []) (ws := ws_76) (D := D) (ci := 1) (C := RX1) (T := TX1) (N := 14) hx hb hts in_X1 tyX1 tyX1_ok nmX1 hown hK hP hD hS hT h_h0 rfl 12 (by decide) (hts _ kl_RX1_69) (fun _ h9 => h9) rfl (by decide +kernel) (ty_zn hz_80) (ty_zf hz_80) rfl ⟨x_79, rfl, hz_80⟩ dX1_copyFrom_105 hph (hy1 1 12 h0 rfl) (fun ws_81 H locs hT hP hD hS => ?_)
  refine lv_aload_n hx hb dX1_copyFrom_108 rfl (lv_at hl 0 rfl) ?_
  refine lv_aload_n hx hb dX1_copyFrom_109 rfl (lv_at hl 1 rfl) ?_
  refine ty_get (E := []) (ws := ws_81) (D := D) (ci := 1) (C := RX1) (T := TX1) (N := 14) hx hb hts in_X1 hown hK hP hT h_p1 rfl 13 (by decide) (hts _ kl_RX1_73) (fun _ h9 => h9) rfl dX1_copyFrom_110 (fun _ hv_82 hf_83 => ?_)
  obtain ⟨x_84, rfl⟩ := hv_82
  refine ty_put (v := .long x_84) (ty := .long) (E := []) (ws := ws_81) (D := D) (ci := 1) (C := RX1) (T := TX1) (N := 14) hx hb hts in_X1 tyX1 tyX1_ok nmX1 hown hK hP hD hS hT h_h0 rfl 13 (by decide) (hts _ kl_RX1_73) (fun _ h9 => h9) rfl (by decide +kernel) rfl rfl rfl ⟨_, rfl⟩ dX1_copyFrom_113 hph (hy1 1 13 h0 rfl) (fun ws_85 H locs hT hP hD hS => ?_)
  exact W.vret hx hb hr (fun t ht hW => ⟨⟨ws_85, rfl, hT, by rw [ht]; exact hP, by rw [hAe]; exact hD⟩, hS.F ht⟩) hS.2.2 dX1_copyFrom_116
theorem dX9_insertCells_0 : decode cX9_insertCells 0 = .ok (.iconst 0, 1) := by decide +kernel
theorem dX9_insertCells_1 : decode cX9_insertCells 1 = .ok (.istore_n 1, 1) := by decide +kernel
theorem dX9_insertCells_2 : decode cX9_insertCells 2 = .ok (.iload_n 1, 1) := by decide +kernel
theorem dX9_insertCells_3 : decode cX9_insertCells 3 = .ok (.aload_n 0, 1) := by decide +kernel
theorem dX9_insertCells_4 : decode cX9_insertCells 4 = .ok (.getfield 64, 3) := by decide +kernel
theorem dX9_insertCells_7 : decode cX9_insertCells 7 = .ok (.if_icmp .ge 39, 3) := by decide +kernel
theorem dX9_insertCells_10 : decode cX9_insertCells 10 = .ok (.aload_n 0, 1) := by decide +kernel
theorem dX9_insertCells_11 : decode cX9_insertCells 11 = .ok (.iload_n 1, 1) := by decide +kernel
theorem dX9_insertCells_12 : decode cX9_insertCells 12 = .ok (.invokevirtual 68, 3) := by decide +kernel
theorem dX9_insertCells_15 : decode cX9_insertCells 15 = .ok (.astore_n 2, 1) := by decide +kernel
theorem dX9_insertCells_16 : decode cX9_insertCells 16 = .ok (.aload_n 2, 1) := by decide +kernel
theorem dX9_insertCells_17 : decode cX9_insertCells 17 = .ok (.ifnull 23, 3) := by decide +kernel
theorem dX9_insertCells_20 : decode cX9_insertCells 20 = .ok (.aload_n 2, 1) := by decide +kernel
theorem dX9_insertCells_21 : decode cX9_insertCells 21 = .ok (.aload_n 2, 1) := by decide +kernel
theorem dX9_insertCells_22 : decode cX9_insertCells 22 = .ok (.getfield 75, 3) := by decide +kernel
theorem dX9_insertCells_25 : decode cX9_insertCells 25 = .ok (.getfield 79, 3) := by decide +kernel
theorem dX9_insertCells_28 : decode cX9_insertCells 28 = .ok (.iconst 2, 1) := by decide +kernel
theorem dX9_insertCells_29 : decode cX9_insertCells 29 = .ok (.idiv, 1) := by decide +kernel
theorem dX9_insertCells_30 : decode cX9_insertCells 30 = .ok (.aload_n 0, 1) := by decide +kernel
theorem dX9_insertCells_31 : decode cX9_insertCells 31 = .ok (.getfield 12, 3) := by decide +kernel
theorem dX9_insertCells_34 : decode cX9_insertCells 34 = .ok (.getfield 84, 3) := by decide +kernel
theorem dX9_insertCells_37 : decode cX9_insertCells 37 = .ok (.invokevirtual 87, 3) := by decide +kernel
theorem dX9_insertCells_40 : decode cX9_insertCells 40 = .ok (.iinc 1 1, 3) := by decide +kernel
theorem dX9_insertCells_43 : decode cX9_insertCells 43 = .ok (.goto (-41), 3) := by decide +kernel
theorem dX9_insertCells_46 : decode cX9_insertCells 46 = .ok (.return_, 1) := by decide +kernel
set_option maxRecDepth 100000 in
set_option maxHeartbeats 4000000 in
theorem t_X9_insertCells (l : Launch) (D : va_G) (ct : Nat → ClassId) (S : ty_S) (ws : va_W) (ph : va_W → Prop) (xx : Nat → Nat → Nat → Prop) (h0 : Nat) (sz : Nat) (hT : ty_V ct S ph ws) (h_h0 : S h0 = some (.inl 9)) (hph : ty_C ph xx) (hy1 : ty_y1 xx) : Met l yX9_insertCells (ws_ yX9_insertCells cX9_insertCells 3 none) ({ frames := 3, cells := 0, slots := 0, locals := 64 } : Room) (va_Pc [.ref h0] (cmP D ct sz ([] ++ ws))) (va_Qv (fun (u9 : va_W) => ty_V ct S ph u9) (cmB D ([] ++ ws) sz (fun (u9 : va_W) => ([] ++ u9))) (va_A ([] ++ ws) sz)) 0 0 (va_A ([] ++ ws) sz) := by
  refine Met.ofW (cc := cX9_insertCells) (maxL := 3) (ret := none) (by decide) rfl ?_
  intro p e s m args below meth c s₁ B hml hv
  obtain ⟨rfl, hsz, hP, hK, hD0, hX⟩ := hv
  have hx := B.exec
  have hb := B.bytes
  have hr := B.returns
  have hts := ws_all (atoms_spec (ws := ws_ yX9_insertCells cX9_insertCells 3 none) B.pre)
  have hown : s.vm.findClass RX9 = some m.cls := findClass_of_methodNamed B.named
  have hlocks := B.notSynchronized
  subst hsz
  have hD := hD0.self (sz := s.heap.size)
  generalize hAe : va_A ([] ++ ws) s.heap.size = A at hD hX ⊢
  have hA : ∀ q : Nat, s.heap.size ≤ q → A q := fun q h => by rw [← hAe]; exact Or.inr h
  have hS : va_S A s.heap s.heap [] := va_S.rf
  have hl := lv_entry ([.ref h0]) (n := 3) (Nat.le_of_ble_eq_true rfl)
  rw [lg_entry_eq]
  generalize (lg_sl ([.ref h0]) ++ List.replicate (3 - (lg_sl ([.ref h0])).length) Slot.unset).toArray = ls at hl ⊢
  have hl : lv_has ls 3 [(0, .ref h0)] := hl
  refine lv_iconst (v := 0) hx hb dX9_insertCells_0 (by decide) ?_
  refine lv_istore_n (lv' := [(1, .int 0), (0, .ref h0)]) hx hb dX9_insertCells_1 rfl hl (by decide) rfl (fun ls hl => ?_)
  refine ty_loop (I := fun μ H locs ls => ∃ (ws : va_W) (y_1 : Int32), μ = (2147483648 - y_1.toInt).toNat ∧ ty_V ct S ph ws ∧ va_P D vwCl ([] ++ ws) H ∧ va_D A ([] ++ ws) ∧ va_S A s.heap H locs ∧ lv_has ls 3 [(0, .ref h0), (1, .int y_1)]) ⟨_, ws, (0 : Int32), rfl, hT, hP, hD, hS, (lv_sub hl [1, 0] rfl)⟩ (fun μ H locs ls hI ih_2 => ?_)
  obtain ⟨ws, y_1, rfl, hT, hP, hD, hS, hl⟩ := hI
  refine lv_iload_n hx hb dX9_insertCells_2 rfl (lv_at hl 1 rfl) ?_
  refine lv_aload_n hx hb dX9_insertCells_3 rfl (lv_at hl 0 rfl) ?_
  refine ty_get (E := []) (ws := ws) (D := D) (ci := 9) (C := RX9) (T := TX9) (N := 8) hx hb hts in_X9 hown hK hP hT h_h0 rfl 4 (by decide) (hts _ kl_RX9_64) (fun _ h9 => h9) rfl dX9_insertCells_4 (fun _ hv_2 hf_3 => ?_)
  obtain ⟨x_4, rfl⟩ := hv_2
  refine lv_icmp_ge (tgt := 46) hx hb dX9_insertCells_7 (by decide) (fun hc_5 => ?_) (fun hc_5 => ?_)
  · exact W.vret hx hb hr (fun t ht hW => ⟨⟨ws, rfl, hT, by rw [ht]; exact hP, by rw [hAe]; exact hD⟩, hS.F ht⟩) hS.2.2 dX9_insertCells_46
  · refine lv_aload_n hx hb dX9_insertCells_10 rfl (lv_at hl 0 rfl) ?_
    refine lv_iload_n hx hb dX9_insertCells_11 rfl (lv_at hl 1 rfl) ?_
    refine ty_kq (wr := []) (wc := ([] ++ ws)) (va_runV (As := [.int y_1]) (rest := []) ⟨hx, hb, hml, hown, hts⟩ (t_X9_channelAt l D ct S ws ph xx h0 y_1 _ hT h_h0 hph hy1) (cm_V 1 hts kc_X9_channelAt ki_RX9 kl_RX9_68 kv_X9_channelAt kx_X9_channelAt kd_X9_channelAt ⟨Nat.le_of_ble_eq_true rfl, Nat.le_of_ble_eq_true rfl⟩) (ty_preV (wr := []) (E := []) (ws := ws) (ci := 9) hP hK hD hS hA hX hT rfl h_h0) rfl rfl hl.1 rfl (lv_room (Nat.le_of_ble_eq_true rfl)) dX9_insertCells_12 ⟨Nat.le_of_ble_eq_true rfl, Nat.le_of_ble_eq_true rfl⟩) hP hD hS hA (fun r_6 u H locs hw_7 hP hD hS => ?_)
    obtain ⟨ws_8, rfl⟩ : ∃ z, z = u := ⟨_, rfl⟩
    obtain ⟨hT, hq_9⟩ := hw_7
    have hP : va_P D vwCl ([] ++ ws_8) H := hP
    have hD : va_D A ([] ++ ws_8) := hD
    rcases hq_9 with rfl | ⟨a_10, rfl, ha_11⟩
    · refine W.eq (g2 := F0 m 15 ls (.null :: [])) rfl ?_
      refine lv_astore_nN (lv' := [(2, .null), (0, .ref h0), (1, .int y_1)]) hx hb dX9_insertCells_15 rfl hl (by decide) rfl (fun ls hl => ?_)
      refine lv_aload_nN hx hb dX9_insertCells_16 rfl (lv_at hl 0 rfl) ?_
      refine lv_ifnullN (tgt := 40) hx hb dX9_insertCells_17 (by decide) ?_
      refine lv_iinc (v := (y_1 + Int32.ofInt 1)) (lv' := [(1, .int (y_1 + Int32.ofInt 1)), (2, .null), (0, .ref h0)]) hx hb dX9_insertCells_40 hl (k := 2) rfl rfl (by decide) rfl (fun ls hl => ?_)
      refine lv_goto (tgt := 2) hx hb dX9_insertCells_43 (by decide) ?_
      exact ih_2 _ _ _ _ (ty_inc (cm_lt hc_5)) ⟨ws_8, (y_1 + Int32.ofInt 1), rfl, hT, hP, hD, hS, (lv_sub hl [2, 0] rfl)⟩
    · refine W.eq (g2 := F0 m 15 ls (.ref a_10 :: [])) rfl ?_
      refine lv_astore_n (lv' := [(2, .ref a_10), (0, .ref h0), (1, .int y_1)]) hx hb dX9_insertCells_15 rfl hl (by decide) rfl (fun ls hl => ?_)
      refine lv_aload_n hx hb dX9_insertCells_16 rfl (lv_at hl 0 rfl) ?_
      refine lv_ifnull hx hb dX9_insertCells_17 ?_
      refine lv_aload_n hx hb dX9_insertCells_20 rfl (lv_at hl 0 rfl) ?_
      refine lv_aload_n hx hb dX9_insertCells_21 rfl (lv_at hl 0 rfl) ?_
      refine ty_getN (E := []) (ws := ws_8) (D := D) (ci := 1) (C := RX1) (T := TX1) (N := 14) hx hb hts in_X1 hown hK hP hT ha_11 rfl 1 (by decide) (hts _ kl_RX9_75) (fun _ h9 => h9) rfl dX9_insertCells_22 (fun _ hv_12 hf_13 => ?_)
      obtain ⟨a_14, rfl, ha_15⟩ := hv_12
      refine ty_getN (E := []) (ws := ws_8) (D := D) (ci := 0) (C := RX0) (T := TX0) (N := 16) hx hb hts in_X0 hown hK hP hT ha_15 rfl 2 (by decide) (hts _ kl_RX9_79) (fun _ h9 => h9) rfl dX9_insertCells_25 (fun _ hv_16 hf_17 => ?_)
      obtain ⟨x_18, rfl⟩ := hv_16
      refine lv_iconst (v := 2) hx hb dX9_insertCells_28 (by decide) ?_
      refine lv_idiv hx hb dX9_insertCells_29 (by decide) ?_
      refine lv_topi (fun x_19 _ => ?_)
      refine lv_aload_n hx hb dX9_insertCells_30 rfl (lv_at hl 1 rfl) ?_
      refine ty_get (E := []) (ws := ws_8) (D := D) (ci := 9) (C := RX9) (T := TX9) (N := 8) hx hb hts in_X9 hown hK hP hT h_h0 rfl 1 (by decide) (hts _ kl_RX9_12) (fun _ h9 => h9) rfl dX9_insertCells_31 (fun _ hv_20 hf_21 => ?_)
      obtain ⟨a_22, rfl, ha_23⟩ := hv_20
      refine ty_getN (E := []) (ws := ws_8) (D := D) (ci := 7) (C := RX7) (T := TX7) (N := 12) hx hb hts in_X7 hown hK hP hT ha_23 rfl 7 (by decide) (hts _ kl_RX9_84) (fun _ h9 => h9) rfl dX9_insertCells_34 (fun _ hv_24 hf_25 => ?_)
      obtain ⟨x_26, rfl⟩ := hv_24
      refine ty_kv (wr := []) (wc := ([] ++ ws_8)) (va_runVN (As := [.int x_19, .int x_26]) (rest := []) ⟨hx, hb, hml, hown, hts⟩ (t_X1_insertCell l D ct S ws_8 ph xx a_10 x_19 x_26 _ hT ha_11 hph hy1) (cm_VN 2 hts kc_X1_insertCell ki_RX1 kl_RX9_87 kv_X1_insertCell kx_X1_insertCell kd_X1_insertCell ⟨Nat.le_of_ble_eq_true rfl, Nat.le_of_ble_eq_true rfl⟩) (ty_preV (wr := []) (E := []) (ws := ws_8) (ci := 1) hP hK hD hS hA hX hT rfl ha_11) rfl rfl hl.1 rfl (lv_room (Nat.le_of_ble_eq_true rfl)) dX9_insertCells_37 ⟨Nat.le_of_ble_eq_true rfl, Nat.le_of_ble_eq_true rfl⟩) hP hD hS hA (fun u H locs hw_28 hP hD hS => ?_)
      obtain ⟨ws_29, rfl⟩ : ∃ z, z = u := ⟨_, rfl⟩
      have hT := hw_28
      have hP : va_P D vwCl ([] ++ ws_29) H := hP
      have hD : va_D A ([] ++ ws_29) := hD
      refine lv_iinc (v := (y_1 + Int32.ofInt 1)) (lv' := [(1, .int (y_1 + Int32.ofInt 1)), (2, .ref a_10), (0, .ref h0)]) hx hb dX9_insertCells_40 hl (k := 2) rfl rfl (by decide) rfl (fun ls hl => ?_)
      refine lv_goto (tgt := 2) hx hb dX9_insertCells_43 (by decide) ?_
      exact ih_2 _ _ _ _ (ty_inc (cm_lt hc_5)) ⟨ws_29, (y_1 + Int32.ofInt 1), rfl, hT, hP, hD, hS, (lv_sub hl [2, 0] rfl)⟩
theorem dX9_copyFrom_0 : decode cX9_copyFrom 0 = .ok (.aload_n 0, 1) := by decide +kernel
theorem dX9_copyFrom_1 : decode cX9_copyFrom 1 = .ok (.aload_n 1, 1) := by decide +kernel
theorem dX9_copyFrom_2 : decode cX9_copyFrom 2 = .ok (.getfield 53, 3) := by decide +kernel
theorem dX9_copyFrom_5 : decode cX9_copyFrom 5 = .ok (.putfield 53, 3) := by decide +kernel
theorem dX9_copyFrom_8 : decode cX9_copyFrom 8 = .ok (.aload_n 0, 1) := by decide +kernel
theorem dX9_copyFrom_9 : decode cX9_copyFrom 9 = .ok (.getfield 12, 3) := by decide +kernel
theorem dX9_copyFrom_12 : decode cX9_copyFrom 12 = .ok (.aload_n 1, 1) := by decide +kernel
theorem dX9_copyFrom_13 : decode cX9_copyFrom 13 = .ok (.getfield 12, 3) := by decide +kernel
theorem dX9_copyFrom_16 : decode cX9_copyFrom 16 = .ok (.invokevirtual 112, 3) := by decide +kernel
theorem dX9_copyFrom_19 : decode cX9_copyFrom 19 = .ok (.aload_n 0, 1) := by decide +kernel
theorem dX9_copyFrom_20 : decode cX9_copyFrom 20 = .ok (.getfield 21, 3) := by decide +kernel
theorem dX9_copyFrom_23 : decode cX9_copyFrom 23 = .ok (.aload_n 1, 1) := by decide +kernel
theorem dX9_copyFrom_24 : decode cX9_copyFrom 24 = .ok (.getfield 21, 3) := by decide +kernel
theorem dX9_copyFrom_27 : decode cX9_copyFrom 27 = .ok (.invokevirtual 116, 3) := by decide +kernel
theorem dX9_copyFrom_30 : decode cX9_copyFrom 30 = .ok (.aload_n 0, 1) := by decide +kernel
theorem dX9_copyFrom_31 : decode cX9_copyFrom 31 = .ok (.getfield 28, 3) := by decide +kernel
theorem dX9_copyFrom_34 : decode cX9_copyFrom 34 = .ok (.aload_n 1, 1) := by decide +kernel
theorem dX9_copyFrom_35 : decode cX9_copyFrom 35 = .ok (.getfield 28, 3) := by decide +kernel
theorem dX9_copyFrom_38 : decode cX9_copyFrom 38 = .ok (.invokevirtual 119, 3) := by decide +kernel
theorem dX9_copyFrom_41 : decode cX9_copyFrom 41 = .ok (.aload_n 0, 1) := by decide +kernel
theorem dX9_copyFrom_42 : decode cX9_copyFrom 42 = .ok (.aload_n 1, 1) := by decide +kernel
theorem dX9_copyFrom_43 : decode cX9_copyFrom 43 = .ok (.getfield 64, 3) := by decide +kernel
theorem dX9_copyFrom_46 : decode cX9_copyFrom 46 = .ok (.putfield 64, 3) := by decide +kernel
theorem dX9_copyFrom_49 : decode cX9_copyFrom 49 = .ok (.iconst 0, 1) := by decide +kernel
theorem dX9_copyFrom_50 : decode cX9_copyFrom 50 = .ok (.istore_n 2, 1) := by decide +kernel
theorem dX9_copyFrom_51 : decode cX9_copyFrom 51 = .ok (.iload_n 2, 1) := by decide +kernel
theorem dX9_copyFrom_52 : decode cX9_copyFrom 52 = .ok (.aload_n 0, 1) := by decide +kernel
theorem dX9_copyFrom_53 : decode cX9_copyFrom 53 = .ok (.getfield 64, 3) := by decide +kernel
theorem dX9_copyFrom_56 : decode cX9_copyFrom 56 = .ok (.if_icmp .ge 37, 3) := by decide +kernel
theorem dX9_copyFrom_59 : decode cX9_copyFrom 59 = .ok (.aload_n 1, 1) := by decide +kernel
theorem dX9_copyFrom_60 : decode cX9_copyFrom 60 = .ok (.iload_n 2, 1) := by decide +kernel
theorem dX9_copyFrom_61 : decode cX9_copyFrom 61 = .ok (.invokevirtual 68, 3) := by decide +kernel
theorem dX9_copyFrom_64 : decode cX9_copyFrom 64 = .ok (.astore_n 3, 1) := by decide +kernel
theorem dX9_copyFrom_65 : decode cX9_copyFrom 65 = .ok (.aload_n 0, 1) := by decide +kernel
theorem dX9_copyFrom_66 : decode cX9_copyFrom 66 = .ok (.iload_n 2, 1) := by decide +kernel
theorem dX9_copyFrom_67 : decode cX9_copyFrom 67 = .ok (.invokevirtual 68, 3) := by decide +kernel
theorem dX9_copyFrom_70 : decode cX9_copyFrom 70 = .ok (.astore 4, 2) := by decide +kernel
theorem dX9_copyFrom_72 : decode cX9_copyFrom 72 = .ok (.aload_n 3, 1) := by decide +kernel
theorem dX9_copyFrom_73 : decode cX9_copyFrom 73 = .ok (.ifnull 14, 3) := by decide +kernel
theorem dX9_copyFrom_76 : decode cX9_copyFrom 76 = .ok (.aload 4, 2) := by decide +kernel
theorem dX9_copyFrom_78 : decode cX9_copyFrom 78 = .ok (.ifnull 9, 3) := by decide +kernel
theorem dX9_copyFrom_81 : decode cX9_copyFrom 81 = .ok (.aload 4, 2) := by decide +kernel
theorem dX9_copyFrom_83 : decode cX9_copyFrom 83 = .ok (.aload_n 3, 1) := by decide +kernel
theorem dX9_copyFrom_84 : decode cX9_copyFrom 84 = .ok (.invokevirtual 122, 3) := by decide +kernel
theorem dX9_copyFrom_87 : decode cX9_copyFrom 87 = .ok (.iinc 2 1, 3) := by decide +kernel
theorem dX9_copyFrom_90 : decode cX9_copyFrom 90 = .ok (.goto (-39), 3) := by decide +kernel
theorem dX9_copyFrom_93 : decode cX9_copyFrom 93 = .ok (.aload_n 0, 1) := by decide +kernel
theorem dX9_copyFrom_94 : decode cX9_copyFrom 94 = .ok (.getfield 46, 3) := by decide +kernel
theorem dX9_copyFrom_97 : decode cX9_copyFrom 97 = .ok (.aload_n 1, 1) := by decide +kernel
theorem dX9_copyFrom_98 : decode cX9_copyFrom 98 = .ok (.getfield 46, 3) := by decide +kernel
theorem dX9_copyFrom_101 : decode cX9_copyFrom 101 = .ok (.invokevirtual 125, 3) := by decide +kernel
theorem dX9_copyFrom_104 : decode cX9_copyFrom 104 = .ok (.aload_n 0, 1) := by decide +kernel
theorem dX9_copyFrom_105 : decode cX9_copyFrom 105 = .ok (.getfield 50, 3) := by decide +kernel
theorem dX9_copyFrom_108 : decode cX9_copyFrom 108 = .ok (.aload_n 1, 1) := by decide +kernel
theorem dX9_copyFrom_109 : decode cX9_copyFrom 109 = .ok (.getfield 50, 3) := by decide +kernel
theorem dX9_copyFrom_112 : decode cX9_copyFrom 112 = .ok (.invokevirtual 125, 3) := by decide +kernel
theorem dX9_copyFrom_115 : decode cX9_copyFrom 115 = .ok (.return_, 1) := by decide +kernel
set_option maxRecDepth 100000 in
set_option maxHeartbeats 4000000 in
theorem t_X9_copyFrom (l : Launch) (D : va_G) (ct : Nat → ClassId) (S : ty_S) (ws : va_W) (ph : va_W → Prop) (xx : Nat → Nat → Nat → Prop) (h0 : Nat) (p1 : Nat) (sz : Nat) (hT : ty_V ct S ph ws) (h_h0 : S h0 = some (.inl 9)) (h_p1 : S p1 = some (.inl 9)) (hph : ty_C ph xx) (hy1 : ty_y1 xx) (hy2 : ty_y0 xx 2) (hy5 : ty_y0 xx 5) (hy7 : ty_yc xx 7) (hy11 : ty_y0 xx 11) (hyh : xx 9 0 h0 ∧ xx 9 4 h0) : Met l yX9_copyFrom (ws_ yX9_copyFrom cX9_copyFrom 5 none) ({ frames := 4, cells := 0, slots := 0, locals := 143 } : Room) (va_Pc [.ref h0, .ref p1] (cmP D ct sz ([] ++ ws))) (va_Qv (fun (u9 : va_W) => ty_V ct S ph u9) (cmB D ([] ++ ws) sz (fun (u9 : va_W) => ([] ++ u9))) (va_A ([] ++ ws) sz)) 0 0 (va_A ([] ++ ws) sz) := by
  refine Met.ofW (cc := cX9_copyFrom) (maxL := 5) (ret := none) (by decide) rfl ?_
  intro p e s m args below meth c s₁ B hml hv
  obtain ⟨rfl, hsz, hP, hK, hD0, hX⟩ := hv
  have hx := B.exec
  have hb := B.bytes
  have hr := B.returns
  have hts := ws_all (atoms_spec (ws := ws_ yX9_copyFrom cX9_copyFrom 5 none) B.pre)
  have hown : s.vm.findClass RX9 = some m.cls := findClass_of_methodNamed B.named
  have hlocks := B.notSynchronized
  subst hsz
  have hD := hD0.self (sz := s.heap.size)
  generalize hAe : va_A ([] ++ ws) s.heap.size = A at hD hX ⊢
  have hA : ∀ q : Nat, s.heap.size ≤ q → A q := fun q h => by rw [← hAe]; exact Or.inr h
  have hS : va_S A s.heap s.heap [] := va_S.rf
  have hl := lv_entry ([.ref h0, .ref p1]) (n := 5) (Nat.le_of_ble_eq_true rfl)
  rw [lg_entry_eq]
  generalize (lg_sl ([.ref h0, .ref p1]) ++ List.replicate (5 - (lg_sl ([.ref h0, .ref p1])).length) Slot.unset).toArray = ls at hl ⊢
  have hl : lv_has ls 5 [(0, .ref h0), (1, .ref p1)] := hl
  refine lv_aload_n hx hb dX9_copyFrom_0 rfl (lv_at hl 0 rfl) ?_
  refine lv_aload_n hx hb dX9_copyFrom_1 rfl (lv_at hl 1 rfl) ?_
  refine ty_get (E := []) (ws := ws) (D := D) (ci := 9) (C := RX9) (T := TX9) (N := 8) hx hb hts in_X9 hown hK hP hT h_p1 rfl 0 (by decide) (hts _ kl_RX9_53) (fun _ h9 => h9) rfl dX9_copyFrom_2 (fun _ hv_1 hf_2 => ?_)
  obtain ⟨x_3, rfl⟩ := hv_1
  refine ty_put (v := .int x_3) (ty := .int) (E := []) (ws := ws) (D := D) (ci := 9) (C := RX9) (T := TX9) (N := 8) hx hb hts in_X9 tyX9 tyX9_ok nmX9 hown hK hP hD hS hT h_h0 rfl 0 (by decide) (hts _ kl_RX9_53) (fun _ h9 => h9) rfl (by decide +kernel) rfl rfl rfl ⟨_, rfl⟩ dX9_copyFrom_5 hph hyh.1 (fun ws_4 H locs hT hP hD hS => ?_)
  refine lv_aload_n hx hb dX9_copyFrom_8 rfl (lv_at hl 0 rfl) ?_
  refine ty_get (E := []) (ws := ws_4) (D := D) (ci := 9) (C := RX9) (T := TX9) (N := 8) hx hb hts in_X9 hown hK hP hT h_h0 rfl 1 (by decide) (hts _ kl_RX9_12) (fun _ h9 => h9) rfl dX9_copyFrom_9 (fun _ hv_5 hf_6 => ?_)
  obtain ⟨a_7, rfl, ha_8⟩ := hv_5
  refine lv_aload_n hx hb dX9_copyFrom_12 rfl (lv_at hl 1 rfl) ?_
  refine ty_get (E := []) (ws := ws_4) (D := D) (ci := 9) (C := RX9) (T := TX9) (N := 8) hx hb hts in_X9 hown hK hP hT h_p1 rfl 1 (by decide) (hts _ kl_RX9_12) (fun _ h9 => h9) rfl dX9_copyFrom_13 (fun _ hv_9 hf_10 => ?_)
  obtain ⟨a_11, rfl, ha_12⟩ := hv_9
  refine ty_kv (wr := []) (wc := ([] ++ ws_4)) (va_runVN (As := [.ref a_11]) (rest := []) ⟨hx, hb, hml, hown, hts⟩ (t_X7_copyFrom l D ct S ws_4 ph xx a_7 a_11 _ hT ha_8 ha_12 hph hy1 hy7) (cm_VN 1 hts kc_X7_copyFrom ki_RX7 kl_RX9_112 kv_X7_copyFrom kx_X7_copyFrom kd_X7_copyFrom ⟨Nat.le_of_ble_eq_true rfl, Nat.le_of_ble_eq_true rfl⟩) (ty_preV (wr := []) (E := []) (ws := ws_4) (ci := 7) hP hK hD hS hA hX hT rfl ha_8) rfl rfl hl.1 rfl (lv_room (Nat.le_of_ble_eq_true rfl)) dX9_copyFrom_16 ⟨Nat.le_of_ble_eq_true rfl, Nat.le_of_ble_eq_true rfl⟩) hP hD hS hA (fun u H locs hw_14 hP hD hS => ?_)
  obtain ⟨ws_15, rfl⟩ : ∃ z, z = u := ⟨_, rfl⟩
  have hT := hw_14
  have hP : va_P D vwCl ([] ++ ws_15) H := hP
  have hD : va_D A ([] ++ ws_15) := hD
  refine lv_aload_n hx hb dX9_copyFrom_19 rfl (lv_at hl 0 rfl) ?_
  refine ty_get (E := []) (ws := ws_15) (D := D) (ci := 9) (C := RX9) (T := TX9) (N := 8) hx hb hts in_X9 hown hK hP hT h_h0 rfl 2 (by decide) (hts _ kl_RX9_21) (fun _ h9 => h9) rfl dX9_copyFrom_20 (fun _ hv_16 hf_17 => ?_)
  obtain ⟨a_18, rfl, ha_19⟩ := hv_16
  refine lv_aload_n hx hb dX9_copyFrom_23 rfl (lv_at hl 1 rfl) ?_
  refine ty_get (E := []) (ws := ws_15) (D := D) (ci := 9) (C := RX9) (T := TX9) (N := 8) hx hb hts in_X9 hown hK hP hT h_p1 rfl 2 (by decide) (hts _ kl_RX9_21) (fun _ h9 => h9) rfl dX9_copyFrom_24 (fun _ hv_20 hf_21 => ?_)
  obtain ⟨a_22, rfl, ha_23⟩ := hv_20
  refine ty_kv (wr := []) (wc := ([] ++ ws_15)) (va_runVN (As := [.ref a_22]) (rest := []) ⟨hx, hb, hml, hown, hts⟩ (t_X2_copyFrom l D ct S ws_15 ph xx a_18 a_22 _ hT ha_19 ha_23 hph hy1 hy2 hy11) (cm_VN 1 hts kc_X2_copyFrom ki_RX2 kl_RX9_116 kv_X2_copyFrom kx_X2_copyFrom kd_X2_copyFrom ⟨Nat.le_of_ble_eq_true rfl, Nat.le_of_ble_eq_true rfl⟩) (ty_preV (wr := []) (E := []) (ws := ws_15) (ci := 2) hP hK hD hS hA hX hT rfl ha_19) rfl rfl hl.1 rfl (lv_room (Nat.le_of_ble_eq_true rfl)) dX9_copyFrom_27 ⟨Nat.le_of_ble_eq_true rfl, Nat.le_of_ble_eq_true rfl⟩) hP hD hS hA (fun u H locs hw_25 hP hD hS => ?_)
  obtain ⟨ws_26, rfl⟩ : ∃ z, z = u := ⟨_, rfl⟩
  have hT := hw_25
  have hP : va_P D vwCl ([] ++ ws_26) H := hP
  have hD : va_D A ([] ++ ws_26) := hD
  refine lv_aload_n hx hb dX9_copyFrom_30 rfl (lv_at hl 0 rfl) ?_
  refine ty_get (E := []) (ws := ws_26) (D := D) (ci := 9) (C := RX9) (T := TX9) (N := 8) hx hb hts in_X9 hown hK hP hT h_h0 rfl 3 (by decide) (hts _ kl_RX9_28) (fun _ h9 => h9) rfl dX9_copyFrom_31 (fun _ hv_27 hf_28 => ?_)
  obtain ⟨a_29, rfl, ha_30⟩ := hv_27
  refine lv_aload_n hx hb dX9_copyFrom_34 rfl (lv_at hl 1 rfl) ?_
  refine ty_get (E := []) (ws := ws_26) (D := D) (ci := 9) (C := RX9) (T := TX9) (N := 8) hx hb hts in_X9 hown hK hP hT h_p1 rfl 3 (by decide) (hts _ kl_RX9_28) (fun _ h9 => h9) rfl dX9_copyFrom_35 (fun _ hv_31 hf_32 => ?_)
  obtain ⟨a_33, rfl, ha_34⟩ := hv_31
  refine ty_kv (wr := []) (wc := ([] ++ ws_26)) (va_runVN (As := [.ref a_33]) (rest := []) ⟨hx, hb, hml, hown, hts⟩ (t_X5_copyFrom l D ct S ws_26 ph xx a_29 a_33 _ hT ha_30 ha_34 hph hy1 hy5) (cm_VN 1 hts kc_X5_copyFrom ki_RX5 kl_RX9_119 kv_X5_copyFrom kx_X5_copyFrom kd_X5_copyFrom ⟨Nat.le_of_ble_eq_true rfl, Nat.le_of_ble_eq_true rfl⟩) (ty_preV (wr := []) (E := []) (ws := ws_26) (ci := 5) hP hK hD hS hA hX hT rfl ha_30) rfl rfl hl.1 rfl (lv_room (Nat.le_of_ble_eq_true rfl)) dX9_copyFrom_38 ⟨Nat.le_of_ble_eq_true rfl, Nat.le_of_ble_eq_true rfl⟩) hP hD hS hA (fun u H locs hw_36 hP hD hS => ?_)
  obtain ⟨ws_37, rfl⟩ : ∃ z, z = u := ⟨_, rfl⟩
  have hT := hw_36
  have hP : va_P D vwCl ([] ++ ws_37) H := hP
  have hD : va_D A ([] ++ ws_37) := hD
  refine lv_aload_n hx hb dX9_copyFrom_41 rfl (lv_at hl 0 rfl) ?_
  refine lv_aload_n hx hb dX9_copyFrom_42 rfl (lv_at hl 1 rfl) ?_
  refine ty_get (E := []) (ws := ws_37) (D := D) (ci := 9) (C := RX9) (T := TX9) (N := 8) hx hb hts in_X9 hown hK hP hT h_p1 rfl 4 (by decide) (hts _ kl_RX9_64) (fun _ h9 => h9) rfl dX9_copyFrom_43 (fun _ hv_38 hf_39 => ?_)
  obtain ⟨x_40, rfl⟩ := hv_38
  refine ty_put (v := .int x_40) (ty := .int) (E := []) (ws := ws_37) (D := D) (ci := 9) (C := RX9) (T := TX9) (N := 8) hx hb hts in_X9 tyX9 tyX9_ok nmX9 hown hK hP hD hS hT h_h0 rfl 4 (by decide) (hts _ kl_RX9_64) (fun _ h9 => h9) rfl (by decide +kernel) rfl rfl rfl ⟨_, rfl⟩ dX9_copyFrom_46 hph hyh.2 (fun ws_41 H locs hT hP hD hS => ?_)
  refine lv_iconst (v := 0) hx hb dX9_copyFrom_49 (by decide) ?_
  refine lv_istore_n (lv' := [(2, .int 0), (0, .ref h0), (1, .ref p1)]) hx hb dX9_copyFrom_50 rfl hl (by decide) rfl (fun ls hl => ?_)
  refine ty_loop (I := fun μ H locs ls => ∃ (ws : va_W) (y_42 : Int32), μ = (2147483648 - y_42.toInt).toNat ∧ ty_V ct S ph ws ∧ va_P D vwCl ([] ++ ws) H ∧ va_D A ([] ++ ws) ∧ va_S A s.heap H locs ∧ lv_has ls 5 [(0, .ref h0), (1, .ref p1), (2, .int y_42)]) ⟨_, ws_41, (0 : Int32), rfl, hT, hP, hD, hS, (lv_sub hl [1, 2, 0] rfl)⟩ (fun μ H locs ls hI ih_51 => ?_)
  obtain ⟨ws, y_42, rfl, hT, hP, hD, hS, hl⟩ := hI
  refine lv_iload_n hx hb dX9_copyFrom_51 rfl (lv_at hl 2 rfl) ?_
  refine lv_aload_n hx hb dX9_copyFrom_52 rfl (lv_at hl 0 rfl) ?_
  refine ty_get (E := []) (ws := ws) (D := D) (ci := 9) (C := RX9) (T := TX9) (N := 8) hx hb hts in_X9 hown hK hP hT h_h0 rfl 4 (by decide) (hts _ kl_RX9_64) (fun _ h9 => h9) rfl dX9_copyFrom_53 (fun _ hv_43 hf_44 => ?_)
  obtain ⟨x_45, rfl⟩ := hv_43
  refine lv_icmp_ge (tgt := 93) hx hb dX9_copyFrom_56 (by decide) (fun hc_46 => ?_) (fun hc_46 => ?_)
  · refine lv_aload_n hx hb dX9_copyFrom_93 rfl (lv_at hl 0 rfl) ?_
    refine ty_get (E := []) (ws := ws) (D := D) (ci := 9) (C := RX9) (T := TX9) (N := 8) hx hb hts in_X9 hown hK hP hT h_h0 rfl 6 (by decide) (hts _ kl_RX9_46) (fun _ h9 => h9) rfl dX9_copyFrom_94 (fun _ hv_47 hf_48 => ?_)
    obtain ⟨a_49, rfl, ha_50⟩ := hv_47
    refine lv_aload_n hx hb dX9_copyFrom_97 rfl (lv_at hl 1 rfl) ?_
    refine ty_get (E := []) (ws := ws) (D := D) (ci := 9) (C := RX9) (T := TX9) (N := 8) hx hb hts in_X9 hown hK hP hT h_p1 rfl 6 (by decide) (hts _ kl_RX9_46) (fun _ h9 => h9) rfl dX9_copyFrom_98 (fun _ hv_51 hf_52 => ?_)
    obtain ⟨a_53, rfl, ha_54⟩ := hv_51
    refine ty_kv (wr := []) (wc := ([] ++ ws)) (va_runVN (As := [.ref a_53]) (rest := []) ⟨hx, hb, hml, hown, hts⟩ (t_X8_copyFrom l D ct S ws ph xx a_49 a_53 _ hT ha_50 ha_54 hph hy1) (cm_VN 1 hts kc_X8_copyFrom ki_RX8 kl_RX9_125 kv_X8_copyFrom kx_X8_copyFrom kd_X8_copyFrom ⟨Nat.le_of_ble_eq_true rfl, Nat.le_of_ble_eq_true rfl⟩) (ty_preV (wr := []) (E := []) (ws := ws) (ci := 8) hP hK hD hS hA hX hT rfl ha_50) rfl rfl hl.1 rfl (lv_room (Nat.le_of_ble_eq_true rfl)) dX9_copyFrom_101 ⟨Nat.le_of_ble_eq_true rfl, Nat.le_of_ble_eq_true rfl⟩) hP hD hS hA (fun u H locs hw_56 hP hD hS => ?_)
    obtain ⟨ws_57, rfl⟩ : ∃ z, z = u := ⟨_, rfl⟩
    have hT := hw_56
    have hP : va_P D vwCl ([] ++ ws_57) H := hP
    have hD : va_D A ([] ++ ws_57) := hD
    refine lv_aload_n hx hb dX9_copyFrom_104 rfl (lv_at hl 0 rfl) ?_
    refine ty_get (E := []) (ws := ws_57) (D := D) (ci := 9) (C := RX9) (T := TX9) (N := 8) hx hb hts in_X9 hown hK hP hT h_h0 rfl 7 (by decide) (hts _ kl_RX9_50) (fun _ h9 => h9) rfl dX9_copyFrom_105 (fun _ hv_58 hf_59 => ?_)
    obtain ⟨a_60, rfl, ha_61⟩ := hv_58
    refine lv_aload_n hx hb dX9_copyFrom_108 rfl (lv_at hl 1 rfl) ?_
    refine ty_get (E := []) (ws := ws_57) (D := D) (ci := 9) (C := RX9) (T := TX9) (N := 8) hx hb hts in_X9 hown hK hP hT h_p1 rfl 7 (by decide) (hts _ kl_RX9_50) (fun _ h9 => h9) rfl dX9_copyFrom_109 (fun _ hv_62 hf_63 => ?_)
    obtain ⟨a_64, rfl, ha_65⟩ := hv_62
    refine ty_kv (wr := []) (wc := ([] ++ ws_57)) (va_runVN (As := [.ref a_64]) (rest := []) ⟨hx, hb, hml, hown, hts⟩ (t_X8_copyFrom l D ct S ws_57 ph xx a_60 a_64 _ hT ha_61 ha_65 hph hy1) (cm_VN 1 hts kc_X8_copyFrom ki_RX8 kl_RX9_125 kv_X8_copyFrom kx_X8_copyFrom kd_X8_copyFrom ⟨Nat.le_of_ble_eq_true rfl, Nat.le_of_ble_eq_true rfl⟩) (ty_preV (wr := []) (E := []) (ws := ws_57) (ci := 8) hP hK hD hS hA hX hT rfl ha_61) rfl rfl hl.1 rfl (lv_room (Nat.le_of_ble_eq_true rfl)) dX9_copyFrom_112 ⟨Nat.le_of_ble_eq_true rfl, Nat.le_of_ble_eq_true rfl⟩) hP hD hS hA (fun u H locs hw_67 hP hD hS => ?_)
    obtain ⟨ws_68, rfl⟩ : ∃ z, z = u := ⟨_, rfl⟩
    have hT := hw_67
    have hP : va_P D vwCl ([] ++ ws_68) H := hP
    have hD : va_D A ([] ++ ws_68) := hD
    exact W.vret hx hb hr (fun t ht hW => ⟨⟨ws_68, rfl, hT, by rw [ht]; exact hP, by rw [hAe]; exact hD⟩, hS.F ht⟩) hS.2.2 dX9_copyFrom_115
  · refine lv_aload_n hx hb dX9_copyFrom_59 rfl (lv_at hl 1 rfl) ?_
    refine lv_iload_n hx hb dX9_copyFrom_60 rfl (lv_at hl 2 rfl) ?_
    refine ty_kq (wr := []) (wc := ([] ++ ws)) (va_runV (As := [.int y_42]) (rest := []) ⟨hx, hb, hml, hown, hts⟩ (t_X9_channelAt l D ct S ws ph xx p1 y_42 _ hT h_p1 hph hy1) (cm_V 1 hts kc_X9_channelAt ki_RX9 kl_RX9_68 kv_X9_channelAt kx_X9_channelAt kd_X9_channelAt ⟨Nat.le_of_ble_eq_true rfl, Nat.le_of_ble_eq_true rfl⟩) (ty_preV (wr := []) (E := []) (ws := ws) (ci := 9) hP hK hD hS hA hX hT rfl h_p1) rfl rfl hl.1 rfl (lv_room (Nat.le_of_ble_eq_true rfl)) dX9_copyFrom_61 ⟨Nat.le_of_ble_eq_true rfl, Nat.le_of_ble_eq_true rfl⟩) hP hD hS hA (fun r_69 u H locs hw_70 hP hD hS => ?_)
    obtain ⟨ws_71, rfl⟩ : ∃ z, z = u := ⟨_, rfl⟩
    obtain ⟨hT, hq_72⟩ := hw_70
    have hP : va_P D vwCl ([] ++ ws_71) H := hP
    have hD : va_D A ([] ++ ws_71) := hD
    rcases hq_72 with rfl | ⟨a_73, rfl, ha_74⟩
    · refine W.eq (g2 := F0 m 64 ls (.null :: [])) rfl ?_
      refine lv_astore_nN (lv' := [(3, .null), (0, .ref h0), (1, .ref p1), (2, .int y_42)]) hx hb dX9_copyFrom_64 rfl hl (by decide) rfl (fun ls hl => ?_)
      refine lv_aload_n hx hb dX9_copyFrom_65 rfl (lv_at hl 1 rfl) ?_
      refine lv_iload_n hx hb dX9_copyFrom_66 rfl (lv_at hl 3 rfl) ?_
      refine ty_kq (wr := []) (wc := ([] ++ ws_71)) (va_runV (As := [.int y_42]) (rest := []) ⟨hx, hb, hml, hown, hts⟩ (t_X9_channelAt l D ct S ws_71 ph xx h0 y_42 _ hT h_h0 hph hy1) (cm_V 1 hts kc_X9_channelAt ki_RX9 kl_RX9_68 kv_X9_channelAt kx_X9_channelAt kd_X9_channelAt ⟨Nat.le_of_ble_eq_true rfl, Nat.le_of_ble_eq_true rfl⟩) (ty_preV (wr := []) (E := []) (ws := ws_71) (ci := 9) hP hK hD hS hA hX hT rfl h_h0) rfl rfl hl.1 rfl (lv_room (Nat.le_of_ble_eq_true rfl)) dX9_copyFrom_67 ⟨Nat.le_of_ble_eq_true rfl, Nat.le_of_ble_eq_true rfl⟩) hP hD hS hA (fun r_75 u H locs hw_76 hP hD hS => ?_)
      obtain ⟨ws_77, rfl⟩ : ∃ z, z = u := ⟨_, rfl⟩
      obtain ⟨hT, hq_78⟩ := hw_76
      have hP : va_P D vwCl ([] ++ ws_77) H := hP
      have hD : va_D A ([] ++ ws_77) := hD
      rcases hq_78 with rfl | ⟨a_79, rfl, ha_80⟩
      · refine W.eq (g2 := F0 m 70 ls (.null :: [])) rfl ?_
        refine lv_astoreN (lv' := [(4, .null), (3, .null), (0, .ref h0), (1, .ref p1), (2, .int y_42)]) hx hb dX9_copyFrom_70 hl (by decide) rfl (fun ls hl => ?_)
        refine lv_aload_nN hx hb dX9_copyFrom_72 rfl (lv_at hl 1 rfl) ?_
        refine lv_ifnullN (tgt := 87) hx hb dX9_copyFrom_73 (by decide) ?_
        refine lv_iinc (v := (y_42 + Int32.ofInt 1)) (lv' := [(2, .int (y_42 + Int32.ofInt 1)), (4, .null), (3, .null), (0, .ref h0), (1, .ref p1)]) hx hb dX9_copyFrom_87 hl (k := 4) rfl rfl (by decide) rfl (fun ls hl => ?_)
        refine lv_goto (tgt := 51) hx hb dX9_copyFrom_90 (by decide) ?_
        exact ih_51 _ _ _ _ (ty_inc (cm_lt hc_46)) ⟨ws_77, (y_42 + Int32.ofInt 1), rfl, hT, hP, hD, hS, (lv_sub hl [3, 4, 0] rfl)⟩
      · refine W.eq (g2 := F0 m 70 ls (.ref a_79 :: [])) rfl ?_
        refine lv_astore (lv' := [(4, .ref a_79), (3, .null), (0, .ref h0), (1, .ref p1), (2, .int y_42)]) hx hb dX9_copyFrom_70 hl (by decide) rfl (fun ls hl => ?_)
        refine lv_aload_nN hx hb dX9_copyFrom_72 rfl (lv_at hl 1 rfl) ?_
        refine lv_ifnullN (tgt := 87) hx hb dX9_copyFrom_73 (by decide) ?_
        refine lv_iinc (v := (y_42 + Int32.ofInt 1)) (lv' := [(2, .int (y_42 + Int32.ofInt 1)), (4, .ref a_79), (3, .null), (0, .ref h0), (1, .ref p1)]) hx hb dX9_copyFrom_87 hl (k := 4) rfl rfl (by decide) rfl (fun ls hl => ?_)
        refine lv_goto (tgt := 51) hx hb dX9_copyFrom_90 (by decide) ?_
        exact ih_51 _ _ _ _ (ty_inc (cm_lt hc_46)) ⟨ws_77, (y_42 + Int32.ofInt 1), rfl, hT, hP, hD, hS, (lv_sub hl [3, 4, 0] rfl)⟩
    · refine W.eq (g2 := F0 m 64 ls (.ref a_73 :: [])) rfl ?_
      refine lv_astore_n (lv' := [(3, .ref a_73), (0, .ref h0), (1, .ref p1), (2, .int y_42)]) hx hb dX9_copyFrom_64 rfl hl (by decide) rfl (fun ls hl => ?_)
      refine lv_aload_n hx hb dX9_copyFrom_65 rfl (lv_at hl 1 rfl) ?_
      refine lv_iload_n hx hb dX9_copyFrom_66 rfl (lv_at hl 3 rfl) ?_
      refine ty_kq (wr := []) (wc := ([] ++ ws_71)) (va_runV (As := [.int y_42]) (rest := []) ⟨hx, hb, hml, hown, hts⟩ (t_X9_channelAt l D ct S ws_71 ph xx h0 y_42 _ hT h_h0 hph hy1) (cm_V 1 hts kc_X9_channelAt ki_RX9 kl_RX9_68 kv_X9_channelAt kx_X9_channelAt kd_X9_channelAt ⟨Nat.le_of_ble_eq_true rfl, Nat.le_of_ble_eq_true rfl⟩) (ty_preV (wr := []) (E := []) (ws := ws_71) (ci := 9) hP hK hD hS hA hX hT rfl h_h0) rfl rfl hl.1 rfl (lv_room (Nat.le_of_ble_eq_true rfl)) dX9_copyFrom_67 ⟨Nat.le_of_ble_eq_true rfl, Nat.le_of_ble_eq_true rfl⟩) hP hD hS hA (fun r_81 u H locs hw_82 hP hD hS => ?_)
      obtain ⟨ws_83, rfl⟩ : ∃ z, z = u := ⟨_, rfl⟩
      obtain ⟨hT, hq_84⟩ := hw_82
      have hP : va_P D vwCl ([] ++ ws_83) H := hP
      have hD : va_D A ([] ++ ws_83) := hD
      rcases hq_84 with rfl | ⟨a_85, rfl, ha_86⟩
      · refine W.eq (g2 := F0 m 70 ls (.null :: [])) rfl ?_
        refine lv_astoreN (lv' := [(4, .null), (3, .ref a_73), (0, .ref h0), (1, .ref p1), (2, .int y_42)]) hx hb dX9_copyFrom_70 hl (by decide) rfl (fun ls hl => ?_)
        refine lv_aload_n hx hb dX9_copyFrom_72 rfl (lv_at hl 1 rfl) ?_
        refine lv_ifnull hx hb dX9_copyFrom_73 ?_
        refine lv_aloadN hx hb dX9_copyFrom_76 (lv_at hl 0 rfl) ?_
        refine lv_ifnullN (tgt := 87) hx hb dX9_copyFrom_78 (by decide) ?_
        refine lv_iinc (v := (y_42 + Int32.ofInt 1)) (lv' := [(2, .int (y_42 + Int32.ofInt 1)), (4, .null), (3, .ref a_73), (0, .ref h0), (1, .ref p1)]) hx hb dX9_copyFrom_87 hl (k := 4) rfl rfl (by decide) rfl (fun ls hl => ?_)
        refine lv_goto (tgt := 51) hx hb dX9_copyFrom_90 (by decide) ?_
        exact ih_51 _ _ _ _ (ty_inc (cm_lt hc_46)) ⟨ws_83, (y_42 + Int32.ofInt 1), rfl, hT, hP, hD, hS, (lv_sub hl [3, 4, 0] rfl)⟩
      · refine W.eq (g2 := F0 m 70 ls (.ref a_85 :: [])) rfl ?_
        refine lv_astore (lv' := [(4, .ref a_85), (3, .ref a_73), (0, .ref h0), (1, .ref p1), (2, .int y_42)]) hx hb dX9_copyFrom_70 hl (by decide) rfl (fun ls hl => ?_)
        refine lv_aload_n hx hb dX9_copyFrom_72 rfl (lv_at hl 1 rfl) ?_
        refine lv_ifnull hx hb dX9_copyFrom_73 ?_
        refine lv_aload hx hb dX9_copyFrom_76 (lv_at hl 0 rfl) ?_
        refine lv_ifnull hx hb dX9_copyFrom_78 ?_
        refine lv_aload hx hb dX9_copyFrom_81 (lv_at hl 0 rfl) ?_
        refine lv_aload_n hx hb dX9_copyFrom_83 rfl (lv_at hl 1 rfl) ?_
        refine ty_kv (wr := []) (wc := ([] ++ ws_83)) (va_runVN (As := [.ref a_73]) (rest := []) ⟨hx, hb, hml, hown, hts⟩ (t_X1_copyFrom l D ct S ws_83 ph xx a_85 a_73 _ hT ha_86 ha_74 hph hy1) (cm_VN 1 hts kc_X1_copyFrom ki_RX1 kl_RX9_122 kv_X1_copyFrom kx_X1_copyFrom kd_X1_copyFrom ⟨Nat.le_of_ble_eq_true rfl, Nat.le_of_ble_eq_true rfl⟩) (ty_preV (wr := []) (E := []) (ws := ws_83) (ci := 1) hP hK hD hS hA hX hT rfl ha_86) rfl rfl hl.1 rfl (lv_room (Nat.le_of_ble_eq_true rfl)) dX9_copyFrom_84 ⟨Nat.le_of_ble_eq_true rfl, Nat.le_of_ble_eq_true rfl⟩) hP hD hS hA (fun u H locs hw_88 hP hD hS => ?_)
        obtain ⟨ws_89, rfl⟩ : ∃ z, z = u := ⟨_, rfl⟩
        have hT := hw_88
        have hP : va_P D vwCl ([] ++ ws_89) H := hP
        have hD : va_D A ([] ++ ws_89) := hD
        refine lv_iinc (v := (y_42 + Int32.ofInt 1)) (lv' := [(2, .int (y_42 + Int32.ofInt 1)), (4, .ref a_85), (3, .ref a_73), (0, .ref h0), (1, .ref p1)]) hx hb dX9_copyFrom_87 hl (k := 4) rfl rfl (by decide) rfl (fun ls hl => ?_)
        refine lv_goto (tgt := 51) hx hb dX9_copyFrom_90 (by decide) ?_
        exact ih_51 _ _ _ _ (ty_inc (cm_lt hc_46)) ⟨ws_89, (y_42 + Int32.ofInt 1), rfl, hT, hP, hD, hS, (lv_sub hl [3, 4, 0] rfl)⟩
