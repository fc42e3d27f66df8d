theorem dX10_inState_0 : decode cX10_inState 0 = .ok (.iload_n 1, 1) := by decide +kernel
theorem dX10_inState_1 : decode cX10_inState 1 = .ok (.iconst 0, 1) := by decide +kernel
theorem dX10_inState_2 : decode cX10_inState 2 = .ok (.iconst 4, 1) := by decide +kernel
theorem dX10_inState_3 : decode cX10_inState 3 = .ok (.invokestatic 81, 3) := by decide +kernel
theorem dX10_inState_6 : decode cX10_inState 6 = .ok (.aload_n 0, 1) := by decide +kernel
theorem dX10_inState_7 : decode cX10_inState 7 = .ok (.getfield 10, 3) := by decide +kernel
theorem dX10_inState_10 : decode cX10_inState 10 = .ok (.iload_n 1, 1) := by decide +kernel
theorem dX10_inState_11 : decode cX10_inState 11 = .ok (.invokevirtual 183, 3) := by decide +kernel
theorem dX10_inState_14 : decode cX10_inState 14 = .ok (.ireturn, 1) := by decide +kernel
set_option maxRecDepth 100000 in
set_option maxHeartbeats 4000000 in
theorem t_X10_inState (l : Launch) (hfl : l.stackTraces = false) (D : va_G) (ct : Nat → ClassId) (S : ty_S) (ws : va_W) (ph : va_W → Prop) (xx : Nat → Nat → Nat → Prop) (x : Nat) (w : Nat) (sp : Nat) (sv : Nat) (bu : Nat) (ns : Nat) (bl : Int32) (le : Int32) (p1 : Int32) (sz : Nat) (hT : ty_V ct S ph ws) (h_w : S w = some (.inl 9)) (h_sp : S sp = some (.inl 9)) (h_sv : S sv = some (.inr (4, ns))) (hph : ty_C ph xx) (hy1 : ty_y1 xx) : vx_Met l yX10_inState (ws_ yX10_inState cX10_inState 2 (some .int)) ({ frames := 7, cells := 1, slots := 6, locals := 112 } : Room) (va_Pc [.ref x, .int p1] (cmP D ct sz ([(ty_XO x w sp sv bu bl le)] ++ ws))) (va_Qi (fun (r : Int32) (u9 : va_W) => ty_V ct S ph u9) (cmB D ([(ty_XO x w sp sv bu bl le)] ++ ws) sz (fun (u9 : va_W) => ([(ty_XO x w sp sv bu bl le)] ++ u9))) (va_A ([(ty_XO x w sp sv bu bl le)] ++ ws) sz)) (vx_X (fun (u9 : va_W) => ty_V ct S ph u9) (cmBY D ([(ty_XO x w sp sv bu bl le)] ++ ws) sz ["java/lang/IllegalArgumentException"] (fun (u9 : va_W) => ([(ty_XO x w sp sv bu bl le)] ++ u9))) (va_A ([(ty_XO x w sp sv bu bl le)] ++ ws) sz)) 1 6 (va_A ([(ty_XO x w sp sv bu bl le)] ++ ws) sz) := by
  refine vx_ofW (cc := cX10_inState) (maxL := 2) (ret := (some .int)) (by decide) rfl ?_
  intro p e s m args below meth c s₁ B hml hex hv
  obtain ⟨rfl, hsz, hP, hK, hD0, hX⟩ := hv
  have hx := B.exec
  have hb := B.bytes
  have hr := B.returns
  have hts := ws_all (atoms_spec (ws := ws_ yX10_inState cX10_inState 2 (some .int)) B.pre)
  have hown : s.vm.findClass RX10 = some m.cls := findClass_of_methodNamed B.named
  have hlocks := B.notSynchronized
  subst hsz
  have hD := hD0.self (sz := s.heap.size)
  generalize hAe : va_A ([(ty_XO x w sp sv bu bl le)] ++ ws) s.heap.size = A at hD hX ⊢
  have hA : ∀ q : Nat, s.heap.size ≤ q → A q := fun q h => by rw [← hAe]; exact Or.inr h
  have hS : va_S A s.heap s.heap [] := va_S.rf
  have hl := lv_entry ([.ref x, .int p1]) (n := 2) (Nat.le_of_ble_eq_true rfl)
  rw [lg_entry_eq]
  generalize (lg_sl ([.ref x, .int p1]) ++ List.replicate (2 - (lg_sl ([.ref x, .int p1])).length) Slot.unset).toArray = ls at hl ⊢
  have hl : lv_has ls 2 [(0, .ref x), (1, .int p1)] := hl
  refine lv_iload_n hx hb dX10_inState_0 rfl (lv_at hl 1 rfl) ?_
  refine lv_iconst (v := 0) hx hb dX10_inState_1 (by decide) ?_
  refine lv_iconst (v := 4) hx hb dX10_inState_2 (by decide) ?_
  refine ty_xv (wr := [(ty_XO x w sp sv bu bl le)]) (wc := ([] ++ ws)) (vx_runS (As := [.int p1, .int 0, .int 4]) (rest := []) ⟨hx, hb, hml, hown, hts⟩ (t_X10_needRange l hfl D ct S ws ph xx p1 (0 : Int32) (4 : Int32) _ hT hph hy1) (cm_S 3 hts kc_X10_needRange ki_RX10 kl_RX10_81 ks_X10_needRange kd_X10_needRange ⟨Nat.le_of_ble_eq_true rfl, Nat.le_of_ble_eq_true rfl⟩) (ty_preS (wr := [(ty_XO x w sp sv bu bl le)]) (wc := ([] ++ ws)) hP hK hD hS hA hX) rfl rfl hl.1 rfl (lv_room (Nat.le_of_ble_eq_true rfl)) dX10_inState_3 ⟨Nat.le_of_ble_eq_true rfl, Nat.le_of_ble_eq_true rfl⟩) hP hD hS hA (fun E ce q9 u H locs hu hE hP hD hS hce hcv hcl => ?_) (fun u H locs hw_2 hP hD hS => ?_)
  · obtain ⟨ws_3, rfl⟩ : ∃ z, z = u := ⟨_, rfl⟩
    have hT := hu
    have hP : va_P D vwCl ([(ty_XO x w sp sv bu bl le)] ++ ws_3) H := hP
    have hD : va_D A ([(ty_XO x w sp sv bu bl le)] ++ ws_3) := hD
    exact vx_out (fun x hx => (hex x hx).elim) hlocks hce hcv hcl (fun t ht hW => ⟨ws_3, hT, ⟨hE, by rw [ht]; exact hP, by rw [hAe]; exact hD⟩, hS.F ht⟩) hS.2.2 (Nat.le_of_ble_eq_true rfl) (Nat.le_of_ble_eq_true rfl)
  · obtain ⟨ws_4, rfl⟩ : ∃ z, z = u := ⟨_, rfl⟩
    have hT := hw_2
    have hP : va_P D vwCl ([(ty_XO x w sp sv bu bl le)] ++ ws_4) H := hP
    have hD : va_D A ([(ty_XO x w sp sv bu bl le)] ++ ws_4) := hD
    refine W.widen (k := 1) (n := 6) (Nat.le_of_ble_eq_true rfl) (Nat.le_of_ble_eq_true rfl) ?_
    refine lv_aload_n hx hb dX10_inState_6 rfl (lv_at hl 0 rfl) ?_
    refine va_get (v := .ref w) (D := D) (ci := 10) (C := RX10) (T := TX10) (N := 6) hx hb hts in_X10 hown hK hP 0 rfl rfl 0 (by decide) (hts _ kl_RX10_10) (fun _ h9 => h9) rfl dX10_inState_7 ?_
    refine lv_iload_n hx hb dX10_inState_10 rfl (lv_at hl 1 rfl) ?_
    refine ty_ki (wr := [(ty_XO x w sp sv bu bl le)]) (wc := ([] ++ ws_4)) (va_runVN (As := [.int p1]) (rest := []) ⟨hx, hb, hml, hown, hts⟩ (t_X9_channelsIn l D ct S ws_4 ph xx w p1 _ hT h_w hph hy1) (cm_VN 1 hts kc_X9_channelsIn ki_RX9 kl_RX10_183 kv_X9_channelsIn kx_X9_channelsIn kd_X9_channelsIn ⟨Nat.le_of_ble_eq_true rfl, Nat.le_of_ble_eq_true rfl⟩) (ty_preV (wr := [(ty_XO x w sp sv bu bl le)]) (E := []) (ws := ws_4) (ci := 9) hP hK hD hS hA hX hT rfl h_w) rfl rfl hl.1 rfl (lv_room (Nat.le_of_ble_eq_true rfl)) dX10_inState_11 ⟨Nat.le_of_ble_eq_true rfl, Nat.le_of_ble_eq_true rfl⟩) hP hD hS hA (fun r_5 u H locs hw_6 hP hD hS => ?_)
    obtain ⟨ws_7, rfl⟩ : ∃ z, z = u := ⟨_, rfl⟩
    have hT := hw_6
    have hP : va_P D vwCl ([(ty_XO x w sp sv bu bl le)] ++ ws_7) H := hP
    have hD : va_D A ([(ty_XO x w sp sv bu bl le)] ++ ws_7) := hD
    refine vx_ret ?_
    exact W.iret (v := r_5) hx hb hr (fun t ht hW => ⟨⟨r_5, ws_7, rfl, hT, by rw [ht]; exact hP, by rw [hAe]; exact hD⟩, hS.F ht⟩) hS.2.2 dX10_inState_14
theorem dX10_weakest_0 : decode cX10_weakest 0 = .ok (.iconst (-1), 1) := by decide +kernel
theorem dX10_weakest_1 : decode cX10_weakest 1 = .ok (.istore_n 1, 1) := by decide +kernel
theorem dX10_weakest_2 : decode cX10_weakest 2 = .ok (.lconst 0, 1) := by decide +kernel
theorem dX10_weakest_3 : decode cX10_weakest 3 = .ok (.lstore_n 2, 1) := by decide +kernel
theorem dX10_weakest_4 : decode cX10_weakest 4 = .ok (.iconst 0, 1) := by decide +kernel
theorem dX10_weakest_5 : decode cX10_weakest 5 = .ok (.istore 4, 2) := by decide +kernel
theorem dX10_weakest_7 : decode cX10_weakest 7 = .ok (.iload 4, 2) := by decide +kernel
theorem dX10_weakest_9 : decode cX10_weakest 9 = .ok (.aload_n 0, 1) := by decide +kernel
theorem dX10_weakest_10 : decode cX10_weakest 10 = .ok (.getfield 10, 3) := by decide +kernel
theorem dX10_weakest_13 : decode cX10_weakest 13 = .ok (.getfield 64, 3) := by decide +kernel
theorem dX10_weakest_16 : decode cX10_weakest 16 = .ok (.if_icmp .ge 73, 3) := by decide +kernel
theorem dX10_weakest_19 : decode cX10_weakest 19 = .ok (.aload_n 0, 1) := by decide +kernel
theorem dX10_weakest_20 : decode cX10_weakest 20 = .ok (.getfield 10, 3) := by decide +kernel
theorem dX10_weakest_23 : decode cX10_weakest 23 = .ok (.iload 4, 2) := by decide +kernel
theorem dX10_weakest_25 : decode cX10_weakest 25 = .ok (.invokevirtual 125, 3) := by decide +kernel
theorem dX10_weakest_28 : decode cX10_weakest 28 = .ok (.astore 5, 2) := by decide +kernel
theorem dX10_weakest_30 : decode cX10_weakest 30 = .ok (.aload 5, 2) := by decide +kernel
theorem dX10_weakest_32 : decode cX10_weakest 32 = .ok (.ifnonnull 6, 3) := by decide +kernel
theorem dX10_weakest_35 : decode cX10_weakest 35 = .ok (.goto 48, 3) := by decide +kernel
theorem dX10_weakest_38 : decode cX10_weakest 38 = .ok (.ldc2_w 265, 3) := by decide +kernel
theorem dX10_weakest_41 : decode cX10_weakest 41 = .ok (.aload 5, 2) := by decide +kernel
theorem dX10_weakest_43 : decode cX10_weakest 43 = .ok (.getfield 134, 3) := by decide +kernel
theorem dX10_weakest_46 : decode cX10_weakest 46 = .ok (.getfield 294, 3) := by decide +kernel
theorem dX10_weakest_49 : decode cX10_weakest 49 = .ok (.i2l, 1) := by decide +kernel
theorem dX10_weakest_50 : decode cX10_weakest 50 = .ok (.lmul, 1) := by decide +kernel
theorem dX10_weakest_51 : decode cX10_weakest 51 = .ok (.aload 5, 2) := by decide +kernel
theorem dX10_weakest_53 : decode cX10_weakest 53 = .ok (.getfield 134, 3) := by decide +kernel
theorem dX10_weakest_56 : decode cX10_weakest 56 = .ok (.getfield 197, 3) := by decide +kernel
theorem dX10_weakest_59 : decode cX10_weakest 59 = .ok (.i2l, 1) := by decide +kernel
theorem dX10_weakest_60 : decode cX10_weakest 60 = .ok (.invokestatic 295, 3) := by decide +kernel
theorem dX10_weakest_63 : decode cX10_weakest 63 = .ok (.lstore 6, 2) := by decide +kernel
theorem dX10_weakest_65 : decode cX10_weakest 65 = .ok (.iload_n 1, 1) := by decide +kernel
theorem dX10_weakest_66 : decode cX10_weakest 66 = .ok (.iconst (-1), 1) := by decide +kernel
theorem dX10_weakest_67 : decode cX10_weakest 67 = .ok (.if_icmp .eq 10, 3) := by decide +kernel
theorem dX10_weakest_70 : decode cX10_weakest 70 = .ok (.lload 6, 2) := by decide +kernel
theorem dX10_weakest_72 : decode cX10_weakest 72 = .ok (.lload_n 2, 1) := by decide +kernel
theorem dX10_weakest_73 : decode cX10_weakest 73 = .ok (.lcmp, 1) := by decide +kernel
theorem dX10_weakest_74 : decode cX10_weakest 74 = .ok (.ifCond .ge 9, 3) := by decide +kernel
theorem dX10_weakest_77 : decode cX10_weakest 77 = .ok (.iload 4, 2) := by decide +kernel
theorem dX10_weakest_79 : decode cX10_weakest 79 = .ok (.istore_n 1, 1) := by decide +kernel
theorem dX10_weakest_80 : decode cX10_weakest 80 = .ok (.lload 6, 2) := by decide +kernel
theorem dX10_weakest_82 : decode cX10_weakest 82 = .ok (.lstore_n 2, 1) := by decide +kernel
theorem dX10_weakest_83 : decode cX10_weakest 83 = .ok (.iinc 4 1, 3) := by decide +kernel
theorem dX10_weakest_86 : decode cX10_weakest 86 = .ok (.goto (-79), 3) := by decide +kernel
theorem dX10_weakest_89 : decode cX10_weakest 89 = .ok (.iload_n 1, 1) := by decide +kernel
theorem dX10_weakest_90 : decode cX10_weakest 90 = .ok (.ireturn, 1) := by decide +kernel
set_option maxRecDepth 100000 in
set_option maxHeartbeats 4000000 in
theorem t_X10_weakest (l : Launch) (D : va_G) (ct : Nat → ClassId) (S : ty_S) (ws : va_W) (ph : va_W → Prop) (xx : Nat → Nat → Nat → Prop) (x : Nat) (w : Nat) (sp : Nat) (sv : Nat) (bu : Nat) (ns : Nat) (bl : Int32) (le : Int32) (sz : Nat) (hT : ty_V ct S ph ws) (h_w : S w = some (.inl 9)) (h_sp : S sp = some (.inl 9)) (h_sv : S sv = some (.inr (4, ns))) (hph : ty_C ph xx) (hy1 : ty_y1 xx) : Met l yX10_weakest (ws_ yX10_weakest cX10_weakest 8 (some .int)) ({ frames := 1, cells := 0, slots := 0, locals := 23 } : Room) (va_Pc [.ref x] (cmP D ct sz ([(ty_XO x w sp sv bu bl le)] ++ ws))) (va_Qi (fun (r : Int32) (u9 : va_W) => ty_V ct S ph u9) (cmB D ([(ty_XO x w sp sv bu bl le)] ++ ws) sz (fun (u9 : va_W) => ([(ty_XO x w sp sv bu bl le)] ++ u9))) (va_A ([(ty_XO x w sp sv bu bl le)] ++ ws) sz)) 0 0 (va_A ([(ty_XO x w sp sv bu bl le)] ++ ws) sz) := by
  refine Met.ofW (cc := cX10_weakest) (maxL := 8) (ret := (some .int)) (by decide) rfl ?_
  intro p e s m args below meth c s₁ B hml hv
  obtain ⟨rfl, hsz, hP, hK, hD0, hX⟩ := hv
  have hx := B.exec
  have hb := B.bytes
  have hr := B.returns
  have hts := ws_all (atoms_spec (ws := ws_ yX10_weakest cX10_weakest 8 (some .int)) B.pre)
  have hown : s.vm.findClass RX10 = some m.cls := findClass_of_methodNamed B.named
  have hlocks := B.notSynchronized
  subst hsz
  have hD := hD0.self (sz := s.heap.size)
  generalize hAe : va_A ([(ty_XO x w sp sv bu bl le)] ++ ws) s.heap.size = A at hD hX ⊢
  have hA : ∀ q : Nat, s.heap.size ≤ q → A q := fun q h => by rw [← hAe]; exact Or.inr h
  have hS : va_S A s.heap s.heap [] := va_S.rf
  have hl := lv_entry ([.ref x]) (n := 8) (Nat.le_of_ble_eq_true rfl)
  rw [lg_entry_eq]
  generalize (lg_sl ([.ref x]) ++ List.replicate (8 - (lg_sl ([.ref x])).length) Slot.unset).toArray = ls at hl ⊢
  have hl : lv_has ls 8 [(0, .ref x)] := hl
  refine lv_iconst (v := (-1)) hx hb dX10_weakest_0 (by decide) ?_
  refine lv_istore_n (lv' := [(1, .int (-1)), (0, .ref x)]) hx hb dX10_weakest_1 rfl hl (by decide) rfl (fun ls hl => ?_)
  refine lv_lconst (v := 0) hx hb dX10_weakest_2 (by decide) ?_
  refine lv_lstore_n (lv' := [(2, .long 0), (1, .int (-1)), (0, .ref x)]) hx hb dX10_weakest_3 rfl hl (by decide) rfl (fun ls hl => ?_)
  refine lv_iconst (v := 0) hx hb dX10_weakest_4 (by decide) ?_
  refine lv_istore (lv' := [(4, .int 0), (2, .long 0), (1, .int (-1)), (0, .ref x)]) hx hb dX10_weakest_5 hl (by decide) rfl (fun ls hl => ?_)
  refine ty_loop (I := fun μ H locs ls => ∃ (ws : va_W) (y_1 : Int32) (y_2 : Int64) (y_3 : Int32), μ = (2147483648 - y_3.toInt).toNat ∧ ty_V ct S ph ws ∧ va_P D vwCl ([(ty_XO x w sp sv bu bl le)] ++ ws) H ∧ va_D A ([(ty_XO x w sp sv bu bl le)] ++ ws) ∧ va_S A s.heap H locs ∧ lv_has ls 8 [(0, .ref x), (1, .int y_1), (2, .long y_2), (4, .int y_3)]) ⟨_, ws, ((-1) : Int32), (0 : Int64), (0 : Int32), rfl, hT, hP, hD, hS, (lv_sub hl [3, 2, 1, 0] rfl)⟩ (fun μ H locs ls hI ih_7 => ?_)
  obtain ⟨ws, y_1, y_2, y_3, rfl, hT, hP, hD, hS, hl⟩ := hI
  refine lv_iload hx hb dX10_weakest_7 (lv_at hl 3 rfl) ?_
  refine lv_aload_n hx hb dX10_weakest_9 rfl (lv_at hl 0 rfl) ?_
  refine va_get (v := .ref w) (D := D) (ci := 10) (C := RX10) (T := TX10) (N := 6) hx hb hts in_X10 hown hK hP 0 rfl rfl 0 (by decide) (hts _ kl_RX10_10) (fun _ h9 => h9) rfl dX10_weakest_10 ?_
  refine ty_getN (E := [(ty_XO x w sp sv bu bl le)]) (ws := ws) (D := D) (ci := 9) (C := RX9) (T := TX9) (N := 8) hx hb hts in_X9 hown hK hP hT h_w rfl 4 (by decide) (hts _ kl_RX10_64) (fun _ h9 => h9) rfl dX10_weakest_13 (fun _ hv_4 hf_5 => ?_)
  obtain ⟨x_6, rfl⟩ := hv_4
  refine lv_icmp_ge (tgt := 89) hx hb dX10_weakest_16 (by decide) (fun hc_7 => ?_) (fun hc_7 => ?_)
  · refine lv_iload_n hx hb dX10_weakest_89 rfl (lv_at hl 1 rfl) ?_
    exact W.iret (v := y_1) hx hb hr (fun t ht hW => ⟨⟨y_1, ws, rfl, hT, by rw [ht]; exact hP, by rw [hAe]; exact hD⟩, hS.F ht⟩) hS.2.2 dX10_weakest_90
  · refine lv_aload_n hx hb dX10_weakest_19 rfl (lv_at hl 0 rfl) ?_
    refine va_get (v := .ref w) (D := D) (ci := 10) (C := RX10) (T := TX10) (N := 6) hx hb hts in_X10 hown hK hP 0 rfl rfl 0 (by decide) (hts _ kl_RX10_10) (fun _ h9 => h9) rfl dX10_weakest_20 ?_
    refine lv_iload hx hb dX10_weakest_23 (lv_at hl 3 rfl) ?_
    refine ty_kq (wr := [(ty_XO x w sp sv bu bl le)]) (wc := ([] ++ ws)) (va_runVN (As := [.int y_3]) (rest := []) ⟨hx, hb, hml, hown, hts⟩ (t_X9_channelAt l D ct S ws ph xx w y_3 _ hT h_w hph hy1) (cm_VN 1 hts kc_X9_channelAt ki_RX9 kl_RX10_125 kv_X9_channelAt kx_X9_channelAt kd_X9_channelAt ⟨Nat.le_of_ble_eq_true rfl, Nat.le_of_ble_eq_true rfl⟩) (ty_preV (wr := [(ty_XO x w sp sv bu bl le)]) (E := []) (ws := ws) (ci := 9) hP hK hD hS hA hX hT rfl h_w) rfl rfl hl.1 rfl (lv_room (Nat.le_of_ble_eq_true rfl)) dX10_weakest_25 ⟨Nat.le_of_ble_eq_true rfl, Nat.le_of_ble_eq_true rfl⟩) hP hD hS hA (fun r_8 u H locs hw_9 hP hD hS => ?_)
    obtain ⟨ws_10, rfl⟩ : ∃ z, z = u := ⟨_, rfl⟩
    obtain ⟨hT, hq_11⟩ := hw_9
    have hP : va_P D vwCl ([(ty_XO x w sp sv bu bl le)] ++ ws_10) H := hP
    have hD : va_D A ([(ty_XO x w sp sv bu bl le)] ++ ws_10) := hD
    rcases hq_11 with rfl | ⟨a_12, rfl, ha_13⟩
    · refine W.eq (g2 := F0 m 28 ls (.null :: [])) rfl ?_
      refine lv_astoreN (lv' := [(5, .null), (0, .ref x), (1, .int y_1), (2, .long y_2), (4, .int y_3)]) hx hb dX10_weakest_28 hl (by decide) rfl (fun ls hl => ?_)
      refine lv_aloadN hx hb dX10_weakest_30 (lv_at hl 0 rfl) ?_
      refine lv_ifnonnullN hx hb dX10_weakest_32 ?_
      refine lv_goto (tgt := 83) hx hb dX10_weakest_35 (by decide) ?_
      refine lv_iinc (v := (y_3 + Int32.ofInt 1)) (lv' := [(4, .int (y_3 + Int32.ofInt 1)), (5, .null), (0, .ref x), (1, .int y_1), (2, .long y_2)]) hx hb dX10_weakest_83 hl (k := 4) rfl rfl (by decide) rfl (fun ls hl => ?_)
      refine lv_goto (tgt := 7) hx hb dX10_weakest_86 (by decide) ?_
      exact ih_7 _ _ _ _ (ty_inc (cm_lt hc_7)) ⟨ws_10, y_1, y_2, (y_3 + Int32.ofInt 1), rfl, hT, hP, hD, hS, (lv_sub hl [2, 3, 4, 0] rfl)⟩
    · refine W.eq (g2 := F0 m 28 ls (.ref a_12 :: [])) rfl ?_
      refine lv_astore (lv' := [(5, .ref a_12), (0, .ref x), (1, .int y_1), (2, .long y_2), (4, .int y_3)]) hx hb dX10_weakest_28 hl (by decide) rfl (fun ls hl => ?_)
      refine lv_aload hx hb dX10_weakest_30 (lv_at hl 0 rfl) ?_
      refine lv_ifnonnull (tgt := 38) hx hb dX10_weakest_32 (by decide) ?_
      refine lv_ldc2 hx hb hown (hts _ kl_RX10_265) dX10_weakest_38 ?_
      refine lv_aload hx hb dX10_weakest_41 (lv_at hl 0 rfl) ?_
      refine ty_getN (E := [(ty_XO x w sp sv bu bl le)]) (ws := ws_10) (D := D) (ci := 1) (C := RX1) (T := TX1) (N := 14) hx hb hts in_X1 hown hK hP hT ha_13 rfl 1 (by decide) (hts _ kl_RX10_134) (fun _ h9 => h9) rfl dX10_weakest_43 (fun _ hv_14 hf_15 => ?_)
      obtain ⟨a_16, rfl, ha_17⟩ := hv_14
      refine ty_getN (E := [(ty_XO x w sp sv bu bl le)]) (ws := ws_10) (D := D) (ci := 0) (C := RX0) (T := TX0) (N := 16) hx hb hts in_X0 hown hK hP hT ha_17 rfl 8 (by decide) (hts _ kl_RX10_294) (fun _ h9 => h9) rfl dX10_weakest_46 (fun _ hv_18 hf_19 => ?_)
      obtain ⟨x_20, rfl⟩ := hv_18
      refine lv_i2l hx hb dX10_weakest_49 rfl ?_
      refine lv_topl (fun x_21 _ => ?_)
      refine lv_lmul hx hb dX10_weakest_50 ?_
      refine lv_topl (fun x_22 _ => ?_)
      refine lv_aload hx hb dX10_weakest_51 (lv_at hl 0 rfl) ?_
      refine ty_getN (E := [(ty_XO x w sp sv bu bl le)]) (ws := ws_10) (D := D) (ci := 1) (C := RX1) (T := TX1) (N := 14) hx hb hts in_X1 hown hK hP hT ha_13 rfl 1 (by decide) (hts _ kl_RX10_134) (fun _ h9 => h9) rfl dX10_weakest_53 (fun _ hv_23 hf_24 => ?_)
      obtain ⟨a_25, rfl, ha_26⟩ := hv_23
      refine ty_getN (E := [(ty_XO x w sp sv bu bl le)]) (ws := ws_10) (D := D) (ci := 0) (C := RX0) (T := TX0) (N := 16) hx hb hts in_X0 hown hK hP hT ha_26 rfl 2 (by decide) (hts _ kl_RX10_197) (fun _ h9 => h9) rfl dX10_weakest_56 (fun _ hv_27 hf_28 => ?_)
      obtain ⟨x_29, rfl⟩ := hv_27
      refine lv_i2l hx hb dX10_weakest_59 rfl ?_
      refine lv_topl (fun x_30 _ => ?_)
      refine ty_kl (wr := [(ty_XO x w sp sv bu bl le)]) (wc := ([] ++ ws_10)) (va_runS (As := [.long x_22, .long x_30]) (rest := []) ⟨hx, hb, hml, hown, hts⟩ (t_X10_quotient l D ct S ws_10 ph xx x_22 x_30 _ hT hph hy1) (cm_S 2 hts kc_X10_quotient ki_RX10 kl_RX10_295 ks_X10_quotient kd_X10_quotient ⟨Nat.le_of_ble_eq_true rfl, Nat.le_of_ble_eq_true rfl⟩) (ty_preS (wr := [(ty_XO x w sp sv bu bl le)]) (wc := ([] ++ ws_10)) hP hK hD hS hA hX) rfl rfl hl.1 rfl (lv_room (Nat.le_of_ble_eq_true rfl)) dX10_weakest_60 ⟨Nat.le_of_ble_eq_true rfl, Nat.le_of_ble_eq_true rfl⟩) hP hD hS hA (fun r_31 u H locs hw_32 hP hD hS => ?_)
      obtain ⟨ws_33, rfl⟩ : ∃ z, z = u := ⟨_, rfl⟩
      have hT := hw_32
      have hP : va_P D vwCl ([(ty_XO x w sp sv bu bl le)] ++ ws_33) H := hP
      have hD : va_D A ([(ty_XO x w sp sv bu bl le)] ++ ws_33) := hD
      refine lv_lstore (lv' := [(6, .long r_31), (5, .ref a_12), (0, .ref x), (1, .int y_1), (2, .long y_2), (4, .int y_3)]) hx hb dX10_weakest_63 hl (by decide) rfl (fun ls hl => ?_)
      refine lv_iload_n hx hb dX10_weakest_65 rfl (lv_at hl 3 rfl) ?_
      refine lv_iconst (v := (-1)) hx hb dX10_weakest_66 (by decide) ?_
      refine lv_icmp_eq (tgt := 77) hx hb dX10_weakest_67 (by decide) (fun hc_34 => ?_) (fun hc_34 => ?_)
      · refine lv_iload hx hb dX10_weakest_77 (lv_at hl 5 rfl) ?_
        refine lv_istore_n (lv' := [(1, .int y_3), (6, .long r_31), (5, .ref a_12), (0, .ref x), (2, .long y_2), (4, .int y_3)]) hx hb dX10_weakest_79 rfl hl (by decide) rfl (fun ls hl => ?_)
        refine lv_lload hx hb dX10_weakest_80 (lv_at hl 1 rfl) ?_
        refine lv_lstore_n (lv' := [(2, .long r_31), (1, .int y_3), (6, .long r_31), (5, .ref a_12), (0, .ref x), (4, .int y_3)]) hx hb dX10_weakest_82 rfl hl (by decide) rfl (fun ls hl => ?_)
        refine lv_iinc (v := (y_3 + Int32.ofInt 1)) (lv' := [(4, .int (y_3 + Int32.ofInt 1)), (2, .long r_31), (1, .int y_3), (6, .long r_31), (5, .ref a_12), (0, .ref x)]) hx hb dX10_weakest_83 hl (k := 5) rfl rfl (by decide) rfl (fun ls hl => ?_)
        refine lv_goto (tgt := 7) hx hb dX10_weakest_86 (by decide) ?_
        exact ih_7 _ _ _ _ (ty_inc (cm_lt hc_7)) ⟨ws_33, y_3, r_31, (y_3 + Int32.ofInt 1), rfl, hT, hP, hD, hS, (lv_sub hl [5, 2, 1, 0] rfl)⟩
      · refine lv_lload hx hb dX10_weakest_70 (lv_at hl 0 rfl) ?_
        refine lv_lload_n hx hb dX10_weakest_72 rfl (lv_at hl 4 rfl) ?_
        refine W.lcmp hx hb dX10_weakest_73 ?_
        refine lv_topi (fun x_35 _ => ?_)
        refine lv_if_ge (tgt := 83) hx hb dX10_weakest_74 (by decide) (fun hc_36 => ?_) (fun hc_36 => ?_)
        · refine lv_iinc (v := (y_3 + Int32.ofInt 1)) (lv' := [(4, .int (y_3 + Int32.ofInt 1)), (6, .long r_31), (5, .ref a_12), (0, .ref x), (1, .int y_1), (2, .long y_2)]) hx hb dX10_weakest_83 hl (k := 5) rfl rfl (by decide) rfl (fun ls hl => ?_)
          refine lv_goto (tgt := 7) hx hb dX10_weakest_86 (by decide) ?_
          exact ih_7 _ _ _ _ (ty_inc (cm_lt hc_7)) ⟨ws_33, y_1, y_2, (y_3 + Int32.ofInt 1), rfl, hT, hP, hD, hS, (lv_sub hl [3, 4, 5, 0] rfl)⟩
        · refine lv_iload hx hb dX10_weakest_77 (lv_at hl 5 rfl) ?_
          refine lv_istore_n (lv' := [(1, .int y_3), (6, .long r_31), (5, .ref a_12), (0, .ref x), (2, .long y_2), (4, .int y_3)]) hx hb dX10_weakest_79 rfl hl (by decide) rfl (fun ls hl => ?_)
          refine lv_lload hx hb dX10_weakest_80 (lv_at hl 1 rfl) ?_
          refine lv_lstore_n (lv' := [(2, .long r_31), (1, .int y_3), (6, .long r_31), (5, .ref a_12), (0, .ref x), (4, .int y_3)]) hx hb dX10_weakest_82 rfl hl (by decide) rfl (fun ls hl => ?_)
          refine lv_iinc (v := (y_3 + Int32.ofInt 1)) (lv' := [(4, .int (y_3 + Int32.ofInt 1)), (2, .long r_31), (1, .int y_3), (6, .long r_31), (5, .ref a_12), (0, .ref x)]) hx hb dX10_weakest_83 hl (k := 5) rfl rfl (by decide) rfl (fun ls hl => ?_)
          refine lv_goto (tgt := 7) hx hb dX10_weakest_86 (by decide) ?_
          exact ih_7 _ _ _ _ (ty_inc (cm_lt hc_7)) ⟨ws_33, y_3, r_31, (y_3 + Int32.ofInt 1), rfl, hT, hP, hD, hS, (lv_sub hl [5, 2, 1, 0] rfl)⟩
theorem dX10_record_0 : decode cX10_record 0 = .ok (.iload_n 2, 1) := by decide +kernel
theorem dX10_record_1 : decode cX10_record 1 = .ok (.iconst 0, 1) := by decide +kernel
theorem dX10_record_2 : decode cX10_record 2 = .ok (.iconst 5, 1) := by decide +kernel
theorem dX10_record_3 : decode cX10_record 3 = .ok (.invokestatic 81, 3) := by decide +kernel
theorem dX10_record_6 : decode cX10_record 6 = .ok (.aload_n 0, 1) := by decide +kernel
theorem dX10_record_7 : decode cX10_record 7 = .ok (.getfield 10, 3) := by decide +kernel
theorem dX10_record_10 : decode cX10_record 10 = .ok (.getfield 302, 3) := by decide +kernel
theorem dX10_record_13 : decode cX10_record 13 = .ok (.astore_n 3, 1) := by decide +kernel
theorem dX10_record_14 : decode cX10_record 14 = .ok (.iload_n 1, 1) := by decide +kernel
theorem dX10_record_15 : decode cX10_record 15 = .ok (.ifCond .lt 11, 3) := by decide +kernel
theorem dX10_record_18 : decode cX10_record 18 = .ok (.iload_n 1, 1) := by decide +kernel
theorem dX10_record_19 : decode cX10_record 19 = .ok (.aload_n 3, 1) := by decide +kernel
theorem dX10_record_20 : decode cX10_record 20 = .ok (.getfield 306, 3) := by decide +kernel
theorem dX10_record_23 : decode cX10_record 23 = .ok (.if_icmp .lt 5, 3) := by decide +kernel
theorem dX10_record_26 : decode cX10_record 26 = .ok (.iconst (-1), 1) := by decide +kernel
theorem dX10_record_27 : decode cX10_record 27 = .ok (.ireturn, 1) := by decide +kernel
theorem dX10_record_28 : decode cX10_record 28 = .ok (.iload_n 2, 1) := by decide +kernel
theorem dX10_record_29 : decode cX10_record 29 = .ok (.iconst 5, 1) := by decide +kernel
theorem dX10_record_30 : decode cX10_record 30 = .ok (.if_icmp .ge 10, 3) := by decide +kernel
theorem dX10_record_33 : decode cX10_record 33 = .ok (.aload_n 3, 1) := by decide +kernel
theorem dX10_record_34 : decode cX10_record 34 = .ok (.iload_n 1, 1) := by decide +kernel
theorem dX10_record_35 : decode cX10_record 35 = .ok (.iload_n 2, 1) := by decide +kernel
theorem dX10_record_36 : decode cX10_record 36 = .ok (.invokevirtual 311, 3) := by decide +kernel
theorem dX10_record_39 : decode cX10_record 39 = .ok (.ireturn, 1) := by decide +kernel
theorem dX10_record_40 : decode cX10_record 40 = .ok (.ldc2_w 265, 3) := by decide +kernel
theorem dX10_record_43 : decode cX10_record 43 = .ok (.aload_n 3, 1) := by decide +kernel
theorem dX10_record_44 : decode cX10_record 44 = .ok (.iload_n 1, 1) := by decide +kernel
theorem dX10_record_45 : decode cX10_record 45 = .ok (.iconst 2, 1) := by decide +kernel
theorem dX10_record_46 : decode cX10_record 46 = .ok (.invokevirtual 311, 3) := by decide +kernel
theorem dX10_record_49 : decode cX10_record 49 = .ok (.i2l, 1) := by decide +kernel
theorem dX10_record_50 : decode cX10_record 50 = .ok (.lmul, 1) := by decide +kernel
theorem dX10_record_51 : decode cX10_record 51 = .ok (.aload_n 3, 1) := by decide +kernel
theorem dX10_record_52 : decode cX10_record 52 = .ok (.iload_n 1, 1) := by decide +kernel
theorem dX10_record_53 : decode cX10_record 53 = .ok (.iconst 1, 1) := by decide +kernel
theorem dX10_record_54 : decode cX10_record 54 = .ok (.invokevirtual 311, 3) := by decide +kernel
theorem dX10_record_57 : decode cX10_record 57 = .ok (.i2l, 1) := by decide +kernel
theorem dX10_record_58 : decode cX10_record 58 = .ok (.invokestatic 295, 3) := by decide +kernel
theorem dX10_record_61 : decode cX10_record 61 = .ok (.l2i, 1) := by decide +kernel
theorem dX10_record_62 : decode cX10_record 62 = .ok (.ireturn, 1) := by decide +kernel
set_option maxRecDepth 100000 in
set_option maxHeartbeats 4000000 in
theorem t_X10_record (l : Launch) (hfl : l.stackTraces = false) (D : va_G) (ct : Nat → ClassId) (S : ty_S) (ws : va_W) (ph : va_W → Prop) (xx : Nat → Nat → Nat → Prop) (x : Nat) (w : Nat) (sp : Nat) (sv : Nat) (bu : Nat) (ns : Nat) (bl : Int32) (le : Int32) (p1 : Int32) (p2 : Int32) (sz : Nat) (hT : ty_V ct S ph ws) (h_w : S w = some (.inl 9)) (h_sp : S sp = some (.inl 9)) (h_sv : S sv = some (.inr (4, ns))) (hph : ty_C ph xx) (hy1 : ty_y1 xx) : vx_Met l yX10_record (ws_ yX10_record cX10_record 4 (some .int)) ({ frames := 7, cells := 1, slots := 6, locals := 112 } : Room) (va_Pc [.ref x, .int p1, .int p2] (cmP D ct sz ([(ty_XO x w sp sv bu bl le)] ++ ws))) (va_Qi (fun (r : Int32) (u9 : va_W) => ty_V ct S ph u9) (cmB D ([(ty_XO x w sp sv bu bl le)] ++ ws) sz (fun (u9 : va_W) => ([(ty_XO x w sp sv bu bl le)] ++ u9))) (va_A ([(ty_XO x w sp sv bu bl le)] ++ ws) sz)) (vx_X (fun (u9 : va_W) => ty_V ct S ph u9) (cmBY D ([(ty_XO x w sp sv bu bl le)] ++ ws) sz ["java/lang/IllegalArgumentException"] (fun (u9 : va_W) => ([(ty_XO x w sp sv bu bl le)] ++ u9))) (va_A ([(ty_XO x w sp sv bu bl le)] ++ ws) sz)) 1 6 (va_A ([(ty_XO x w sp sv bu bl le)] ++ ws) sz) := by
  refine vx_ofW (cc := cX10_record) (maxL := 4) (ret := (some .int)) (by decide) rfl ?_
  intro p e s m args below meth c s₁ B hml hex hv
  obtain ⟨rfl, hsz, hP, hK, hD0, hX⟩ := hv
  have hx := B.exec
  have hb := B.bytes
  have hr := B.returns
  have hts := ws_all (atoms_spec (ws := ws_ yX10_record cX10_record 4 (some .int)) B.pre)
  have hown : s.vm.findClass RX10 = some m.cls := findClass_of_methodNamed B.named
  have hlocks := B.notSynchronized
  subst hsz
  have hD := hD0.self (sz := s.heap.size)
  generalize hAe : va_A ([(ty_XO x w sp sv bu bl le)] ++ ws) s.heap.size = A at hD hX ⊢
  have hA : ∀ q : Nat, s.heap.size ≤ q → A q := fun q h => by rw [← hAe]; exact Or.inr h
  have hS : va_S A s.heap s.heap [] := va_S.rf
  have hl := lv_entry ([.ref x, .int p1, .int p2]) (n := 4) (Nat.le_of_ble_eq_true rfl)
  rw [lg_entry_eq]
  generalize (lg_sl ([.ref x, .int p1, .int p2]) ++ List.replicate (4 - (lg_sl ([.ref x, .int p1, .int p2])).length) Slot.unset).toArray = ls at hl ⊢
  have hl : lv_has ls 4 [(0, .ref x), (1, .int p1), (2, .int p2)] := hl
  refine lv_iload_n hx hb dX10_record_0 rfl (lv_at hl 2 rfl) ?_
  refine lv_iconst (v := 0) hx hb dX10_record_1 (by decide) ?_
  refine lv_iconst (v := 5) hx hb dX10_record_2 (by decide) ?_
  refine ty_xv (wr := [(ty_XO x w sp sv bu bl le)]) (wc := ([] ++ ws)) (vx_runS (As := [.int p2, .int 0, .int 5]) (rest := []) ⟨hx, hb, hml, hown, hts⟩ (t_X10_needRange l hfl D ct S ws ph xx p2 (0 : Int32) (5 : Int32) _ hT hph hy1) (cm_S 3 hts kc_X10_needRange ki_RX10 kl_RX10_81 ks_X10_needRange kd_X10_needRange ⟨Nat.le_of_ble_eq_true rfl, Nat.le_of_ble_eq_true rfl⟩) (ty_preS (wr := [(ty_XO x w sp sv bu bl le)]) (wc := ([] ++ ws)) hP hK hD hS hA hX) rfl rfl hl.1 rfl (lv_room (Nat.le_of_ble_eq_true rfl)) dX10_record_3 ⟨Nat.le_of_ble_eq_true rfl, Nat.le_of_ble_eq_true rfl⟩) hP hD hS hA (fun E ce q9 u H locs hu hE hP hD hS hce hcv hcl => ?_) (fun u H locs hw_2 hP hD hS => ?_)
  · obtain ⟨ws_3, rfl⟩ : ∃ z, z = u := ⟨_, rfl⟩
    have hT := hu
    have hP : va_P D vwCl ([(ty_XO x w sp sv bu bl le)] ++ ws_3) H := hP
    have hD : va_D A ([(ty_XO x w sp sv bu bl le)] ++ ws_3) := hD
    exact vx_out (fun x hx => (hex x hx).elim) hlocks hce hcv hcl (fun t ht hW => ⟨ws_3, hT, ⟨hE, by rw [ht]; exact hP, by rw [hAe]; exact hD⟩, hS.F ht⟩) hS.2.2 (Nat.le_of_ble_eq_true rfl) (Nat.le_of_ble_eq_true rfl)
  · obtain ⟨ws_4, rfl⟩ : ∃ z, z = u := ⟨_, rfl⟩
    have hT := hw_2
    have hP : va_P D vwCl ([(ty_XO x w sp sv bu bl le)] ++ ws_4) H := hP
    have hD : va_D A ([(ty_XO x w sp sv bu bl le)] ++ ws_4) := hD
    refine W.widen (k := 1) (n := 6) (Nat.le_of_ble_eq_true rfl) (Nat.le_of_ble_eq_true rfl) ?_
    refine lv_aload_n hx hb dX10_record_6 rfl (lv_at hl 0 rfl) ?_
    refine va_get (v := .ref w) (D := D) (ci := 10) (C := RX10) (T := TX10) (N := 6) hx hb hts in_X10 hown hK hP 0 rfl rfl 0 (by decide) (hts _ kl_RX10_10) (fun _ h9 => h9) rfl dX10_record_7 ?_
    refine ty_getN (E := [(ty_XO x w sp sv bu bl le)]) (ws := ws_4) (D := D) (ci := 9) (C := RX9) (T := TX9) (N := 8) hx hb hts in_X9 hown hK hP hT h_w rfl 6 (by decide) (hts _ kl_RX10_302) (fun _ h9 => h9) rfl dX10_record_10 (fun _ hv_5 hf_6 => ?_)
    obtain ⟨a_7, rfl, ha_8⟩ := hv_5
    refine lv_astore_n (lv' := [(3, .ref a_7), (0, .ref x), (1, .int p1), (2, .int p2)]) hx hb dX10_record_13 rfl hl (by decide) rfl (fun ls hl => ?_)
    refine lv_iload_n hx hb dX10_record_14 rfl (lv_at hl 2 rfl) ?_
    refine lv_if_lt (tgt := 26) hx hb dX10_record_15 (by decide) (fun hc_9 => ?_) (fun hc_9 => ?_)
    · refine lv_iconst (v := (-1)) hx hb dX10_record_26 (by decide) ?_
      refine vx_ret ?_
      exact W.iret (v := (-1)) hx hb hr (fun t ht hW => ⟨⟨(-1), ws_4, rfl, hT, by rw [ht]; exact hP, by rw [hAe]; exact hD⟩, hS.F ht⟩) hS.2.2 dX10_record_27
    · refine lv_iload_n hx hb dX10_record_18 rfl (lv_at hl 2 rfl) ?_
      refine lv_aload_n hx hb dX10_record_19 rfl (lv_at hl 0 rfl) ?_
      refine ty_getN (E := [(ty_XO x w sp sv bu bl le)]) (ws := ws_4) (D := D) (ci := 8) (C := RX8) (T := TX8) (N := 5) hx hb hts in_X8 hown hK hP hT ha_8 rfl 4 (by decide) (hts _ kl_RX10_306) (fun _ h9 => h9) rfl dX10_record_20 (fun _ hv_10 hf_11 => ?_)
      obtain ⟨x_12, rfl⟩ := hv_10
      refine lv_icmp_lt (tgt := 28) hx hb dX10_record_23 (by decide) (fun hc_13 => ?_) (fun hc_13 => ?_)
      · refine lv_iload_n hx hb dX10_record_28 rfl (lv_at hl 3 rfl) ?_
        refine lv_iconst (v := 5) hx hb dX10_record_29 (by decide) ?_
        refine lv_icmp_ge (tgt := 40) hx hb dX10_record_30 (by decide) (fun hc_14 => ?_) (fun hc_14 => ?_)
        · refine lv_ldc2 hx hb hown (hts _ kl_RX10_265) dX10_record_40 ?_
          refine lv_aload_n hx hb dX10_record_43 rfl (lv_at hl 0 rfl) ?_
          refine lv_iload_n hx hb dX10_record_44 rfl (lv_at hl 2 rfl) ?_
          refine lv_iconst (v := 2) hx hb dX10_record_45 (by decide) ?_
          refine ty_ki (wr := [(ty_XO x w sp sv bu bl le)]) (wc := ([] ++ ws_4)) (va_runVN (As := [.int p1, .int 2]) (rest := [.long 1000]) ⟨hx, hb, hml, hown, hts⟩ (t_X8_get l D ct S ws_4 ph xx a_7 p1 (2 : Int32) _ hT ha_8 hph hy1) (cm_VN 2 hts kc_X8_get ki_RX8 kl_RX10_311 kv_X8_get kx_X8_get kd_X8_get ⟨Nat.le_of_ble_eq_true rfl, Nat.le_of_ble_eq_true rfl⟩) (ty_preV (wr := [(ty_XO x w sp sv bu bl le)]) (E := []) (ws := ws_4) (ci := 8) hP hK hD hS hA hX hT rfl ha_8) rfl rfl hl.1 rfl (lv_room (Nat.le_of_ble_eq_true rfl)) dX10_record_46 ⟨Nat.le_of_ble_eq_true rfl, Nat.le_of_ble_eq_true rfl⟩) hP hD hS hA (fun r_15 u H locs hw_16 hP hD hS => ?_)
          obtain ⟨ws_17, rfl⟩ : ∃ z, z = u := ⟨_, rfl⟩
          have hT := hw_16
          have hP : va_P D vwCl ([(ty_XO x w sp sv bu bl le)] ++ ws_17) H := hP
          have hD : va_D A ([(ty_XO x w sp sv bu bl le)] ++ ws_17) := hD
          refine lv_i2l hx hb dX10_record_49 rfl ?_
          refine lv_topl (fun x_18 _ => ?_)
          refine lv_lmul hx hb dX10_record_50 ?_
          refine lv_topl (fun x_19 _ => ?_)
          refine lv_aload_n hx hb dX10_record_51 rfl (lv_at hl 0 rfl) ?_
          refine lv_iload_n hx hb dX10_record_52 rfl (lv_at hl 2 rfl) ?_
          refine lv_iconst (v := 1) hx hb dX10_record_53 (by decide) ?_
          refine ty_ki (wr := [(ty_XO x w sp sv bu bl le)]) (wc := ([] ++ ws_17)) (va_runVN (As := [.int p1, .int 1]) (rest := [.long x_19]) ⟨hx, hb, hml, hown, hts⟩ (t_X8_get l D ct S ws_17 ph xx a_7 p1 (1 : Int32) _ hT ha_8 hph hy1) (cm_VN 2 hts kc_X8_get ki_RX8 kl_RX10_311 kv_X8_get kx_X8_get kd_X8_get ⟨Nat.le_of_ble_eq_true rfl, Nat.le_of_ble_eq_true rfl⟩) (ty_preV (wr := [(ty_XO x w sp sv bu bl le)]) (E := []) (ws := ws_17) (ci := 8) hP hK hD hS hA hX hT rfl ha_8) rfl rfl hl.1 rfl (lv_room (Nat.le_of_ble_eq_true rfl)) dX10_record_54 ⟨Nat.le_of_ble_eq_true rfl, Nat.le_of_ble_eq_true rfl⟩) hP hD hS hA (fun r_20 u H locs hw_21 hP hD hS => ?_)
          obtain ⟨ws_22, rfl⟩ : ∃ z, z = u := ⟨_, rfl⟩
          have hT := hw_21
          have hP : va_P D vwCl ([(ty_XO x w sp sv bu bl le)] ++ ws_22) H := hP
          have hD : va_D A ([(ty_XO x w sp sv bu bl le)] ++ ws_22) := hD
          refine lv_i2l hx hb dX10_record_57 rfl ?_
          refine lv_topl (fun x_23 _ => ?_)
          refine ty_kl (wr := [(ty_XO x w sp sv bu bl le)]) (wc := ([] ++ ws_22)) (va_runS (As := [.long x_19, .long x_23]) (rest := []) ⟨hx, hb, hml, hown, hts⟩ (t_X10_quotient l D ct S ws_22 ph xx x_19 x_23 _ hT hph hy1) (cm_S 2 hts kc_X10_quotient ki_RX10 kl_RX10_295 ks_X10_quotient kd_X10_quotient ⟨Nat.le_of_ble_eq_true rfl, Nat.le_of_ble_eq_true rfl⟩) (ty_preS (wr := [(ty_XO x w sp sv bu bl le)]) (wc := ([] ++ ws_22)) hP hK hD hS hA hX) rfl rfl hl.1 rfl (lv_room (Nat.le_of_ble_eq_true rfl)) dX10_record_58 ⟨Nat.le_of_ble_eq_true rfl, Nat.le_of_ble_eq_true rfl⟩) hP hD hS hA (fun r_24 u H locs hw_25 hP hD hS => ?_)
          obtain ⟨ws_26, rfl⟩ : ∃ z, z = u := ⟨_, rfl⟩
          have hT := hw_25
          have hP : va_P D vwCl ([(ty_XO x w sp sv bu bl le)] ++ ws_26) H := hP
          have hD : va_D A ([(ty_XO x w sp sv bu bl le)] ++ ws_26) := hD
          refine lv_l2i hx hb dX10_record_61 rfl ?_
          refine lv_topi (fun x_27 _ => ?_)
          refine vx_ret ?_
          exact W.iret (v := x_27) hx hb hr (fun t ht hW => ⟨⟨x_27, ws_26, rfl, hT, by rw [ht]; exact hP, by rw [hAe]; exact hD⟩, hS.F ht⟩) hS.2.2 dX10_record_62
        · refine lv_aload_n hx hb dX10_record_33 rfl (lv_at hl 0 rfl) ?_
          refine lv_iload_n hx hb dX10_record_34 rfl (lv_at hl 2 rfl) ?_
          refine lv_iload_n hx hb dX10_record_35 rfl (lv_at hl 3 rfl) ?_
          refine ty_ki (wr := [(ty_XO x w sp sv bu bl le)]) (wc := ([] ++ ws_4)) (va_runVN (As := [.int p1, .int p2]) (rest := []) ⟨hx, hb, hml, hown, hts⟩ (t_X8_get l D ct S ws_4 ph xx a_7 p1 p2 _ hT ha_8 hph hy1) (cm_VN 2 hts kc_X8_get ki_RX8 kl_RX10_311 kv_X8_get kx_X8_get kd_X8_get ⟨Nat.le_of_ble_eq_true rfl, Nat.le_of_ble_eq_true rfl⟩) (ty_preV (wr := [(ty_XO x w sp sv bu bl le)]) (E := []) (ws := ws_4) (ci := 8) hP hK hD hS hA hX hT rfl ha_8) rfl rfl hl.1 rfl (lv_room (Nat.le_of_ble_eq_true rfl)) dX10_record_36 ⟨Nat.le_of_ble_eq_true rfl, Nat.le_of_ble_eq_true rfl⟩) hP hD hS hA (fun r_28 u H locs hw_29 hP hD hS => ?_)
          obtain ⟨ws_30, rfl⟩ : ∃ z, z = u := ⟨_, rfl⟩
          have hT := hw_29
          have hP : va_P D vwCl ([(ty_XO x w sp sv bu bl le)] ++ ws_30) H := hP
          have hD : va_D A ([(ty_XO x w sp sv bu bl le)] ++ ws_30) := hD
          refine vx_ret ?_
          exact W.iret (v := r_28) hx hb hr (fun t ht hW => ⟨⟨r_28, ws_30, rfl, hT, by rw [ht]; exact hP, by rw [hAe]; exact hD⟩, hS.F ht⟩) hS.2.2 dX10_record_39
      · refine lv_iconst (v := (-1)) hx hb dX10_record_26 (by decide) ?_
        refine vx_ret ?_
        exact W.iret (v := (-1)) hx hb hr (fun t ht hW => ⟨⟨(-1), ws_4, rfl, hT, by rw [ht]; exact hP, by rw [hAe]; exact hD⟩, hS.F ht⟩) hS.2.2 dX10_record_27
theorem dX10_counting_0 : decode cX10_counting 0 = .ok (.aload_n 0, 1) := by decide +kernel
theorem dX10_counting_1 : decode cX10_counting 1 = .ok (.iload_n 1, 1) := by decide +kernel
theorem dX10_counting_2 : decode cX10_counting 2 = .ok (.invokevirtual 172, 3) := by decide +kernel
theorem dX10_counting_5 : decode cX10_counting 5 = .ok (.pop, 1) := by decide +kernel
theorem dX10_counting_6 : decode cX10_counting 6 = .ok (.iconst 0, 1) := by decide +kernel
theorem dX10_counting_7 : decode cX10_counting 7 = .ok (.istore_n 2, 1) := by decide +kernel
theorem dX10_counting_8 : decode cX10_counting 8 = .ok (.iconst 0, 1) := by decide +kernel
theorem dX10_counting_9 : decode cX10_counting 9 = .ok (.istore_n 3, 1) := by decide +kernel
theorem dX10_counting_10 : decode cX10_counting 10 = .ok (.iload_n 3, 1) := by decide +kernel
theorem dX10_counting_11 : decode cX10_counting 11 = .ok (.aload_n 0, 1) := by decide +kernel
theorem dX10_counting_12 : decode cX10_counting 12 = .ok (.getfield 10, 3) := by decide +kernel
theorem dX10_counting_15 : decode cX10_counting 15 = .ok (.getfield 302, 3) := by decide +kernel
theorem dX10_counting_18 : decode cX10_counting 18 = .ok (.getfield 306, 3) := by decide +kernel
theorem dX10_counting_21 : decode cX10_counting 21 = .ok (.if_icmp .ge 24, 3) := by decide +kernel
theorem dX10_counting_24 : decode cX10_counting 24 = .ok (.aload_n 0, 1) := by decide +kernel
theorem dX10_counting_25 : decode cX10_counting 25 = .ok (.getfield 10, 3) := by decide +kernel
theorem dX10_counting_28 : decode cX10_counting 28 = .ok (.iload_n 3, 1) := by decide +kernel
theorem dX10_counting_29 : decode cX10_counting 29 = .ok (.iload_n 1, 1) := by decide +kernel
theorem dX10_counting_30 : decode cX10_counting 30 = .ok (.invokevirtual 314, 3) := by decide +kernel
theorem dX10_counting_33 : decode cX10_counting 33 = .ok (.ifCond .eq 6, 3) := by decide +kernel
theorem dX10_counting_36 : decode cX10_counting 36 = .ok (.iinc 2 1, 3) := by decide +kernel
theorem dX10_counting_39 : decode cX10_counting 39 = .ok (.iinc 3 1, 3) := by decide +kernel
theorem dX10_counting_42 : decode cX10_counting 42 = .ok (.goto (-32), 3) := by decide +kernel
theorem dX10_counting_45 : decode cX10_counting 45 = .ok (.iload_n 2, 1) := by decide +kernel
theorem dX10_counting_46 : decode cX10_counting 46 = .ok (.ireturn, 1) := by decide +kernel
set_option maxRecDepth 100000 in
set_option maxHeartbeats 4000000 in
theorem t_X10_counting (l : Launch) (hfl : l.stackTraces = false) (D : va_G) (ct : Nat → ClassId) (S : ty_S) (ws : va_W) (ph : va_W → Prop) (xx : Nat → Nat → Nat → Prop) (x : Nat) (w : Nat) (sp : Nat) (sv : Nat) (bu : Nat) (ns : Nat) (bl : Int32) (le : Int32) (p1 : Int32) (sz : Nat) (hT : ty_V ct S ph ws) (h_w : S w = some (.inl 9)) (h_sp : S sp = some (.inl 9)) (h_sv : S sv = some (.inr (4, ns))) (hph : ty_C ph xx) (hy1 : ty_y1 xx) : vx_Met l yX10_counting (ws_ yX10_counting cX10_counting 4 (some .int)) ({ frames := 7, cells := 1, slots := 6, locals := 112 } : Room) (va_Pc [.ref x, .int p1] (cmP D ct sz ([(ty_XO x w sp sv bu bl le)] ++ ws))) (va_Qi (fun (r : Int32) (u9 : va_W) => ty_V ct S ph u9) (cmB D ([(ty_XO x w sp sv bu bl le)] ++ ws) sz (fun (u9 : va_W) => ([(ty_XO x w sp sv bu bl le)] ++ u9))) (va_A ([(ty_XO x w sp sv bu bl le)] ++ ws) sz)) (vx_X (fun (u9 : va_W) => ty_V ct S ph u9) (cmBY D ([(ty_XO x w sp sv bu bl le)] ++ ws) sz ["java/lang/IndexOutOfBoundsException"] (fun (u9 : va_W) => ([(ty_XO x w sp sv bu bl le)] ++ u9))) (va_A ([(ty_XO x w sp sv bu bl le)] ++ ws) sz)) 1 6 (va_A ([(ty_XO x w sp sv bu bl le)] ++ ws) sz) := by
  refine vx_ofW (cc := cX10_counting) (maxL := 4) (ret := (some .int)) (by decide) rfl ?_
  intro p e s m args below meth c s₁ B hml hex hv
  obtain ⟨rfl, hsz, hP, hK, hD0, hX⟩ := hv
  have hx := B.exec
  have hb := B.bytes
  have hr := B.returns
  have hts := ws_all (atoms_spec (ws := ws_ yX10_counting cX10_counting 4 (some .int)) B.pre)
  have hown : s.vm.findClass RX10 = some m.cls := findClass_of_methodNamed B.named
  have hlocks := B.notSynchronized
  subst hsz
  have hD := hD0.self (sz := s.heap.size)
  generalize hAe : va_A ([(ty_XO x w sp sv bu bl le)] ++ ws) s.heap.size = A at hD hX ⊢
  have hA : ∀ q : Nat, s.heap.size ≤ q → A q := fun q h => by rw [← hAe]; exact Or.inr h
  have hS : va_S A s.heap s.heap [] := va_S.rf
  have hl := lv_entry ([.ref x, .int p1]) (n := 4) (Nat.le_of_ble_eq_true rfl)
  rw [lg_entry_eq]
  generalize (lg_sl ([.ref x, .int p1]) ++ List.replicate (4 - (lg_sl ([.ref x, .int p1])).length) Slot.unset).toArray = ls at hl ⊢
  have hl : lv_has ls 4 [(0, .ref x), (1, .int p1)] := hl
  refine lv_aload_n hx hb dX10_counting_0 rfl (lv_at hl 0 rfl) ?_
  refine lv_iload_n hx hb dX10_counting_1 rfl (lv_at hl 1 rfl) ?_
  refine ty_xq (wr := []) (wc := ([(ty_XO x w sp sv bu bl le)] ++ ws)) (vx_runV (As := [.int p1]) (rest := []) ⟨hx, hb, hml, hown, hts⟩ (t_X10_needChannel l hfl D ct S ws ph xx x w sp sv bu ns bl le p1 _ hT h_w h_sp h_sv hph hy1) (cm_V 1 hts kc_X10_needChannel ki_RX10 kl_RX10_172 kv_X10_needChannel kx_X10_needChannel kd_X10_needChannel ⟨Nat.le_of_ble_eq_true rfl, Nat.le_of_ble_eq_true rfl⟩) (ty_preE (wr := []) (wc := ([(ty_XO x w sp sv bu bl le)] ++ ws)) (ci := 10) (q0 := 0) hP hK hD hS hA hX rfl rfl) rfl rfl hl.1 rfl (lv_room (Nat.le_of_ble_eq_true rfl)) dX10_counting_2 ⟨Nat.le_of_ble_eq_true rfl, Nat.le_of_ble_eq_true rfl⟩) hP hD hS hA (fun E ce q9 u H locs hu hE hP hD hS hce hcv hcl => ?_) (fun r_1 u H locs hw_2 hP hD hS => ?_)
  · obtain ⟨ws_3, rfl⟩ : ∃ z, z = u := ⟨_, rfl⟩
    have hT := hu
    have hP : va_P D vwCl ([(ty_XO x w sp sv bu bl le)] ++ ws_3) H := hP
    have hD : va_D A ([(ty_XO x w sp sv bu bl le)] ++ ws_3) := hD
    exact vx_out (fun x hx => (hex x hx).elim) hlocks hce hcv hcl (fun t ht hW => ⟨ws_3, hT, ⟨hE, by rw [ht]; exact hP, by rw [hAe]; exact hD⟩, hS.F ht⟩) hS.2.2 (Nat.le_of_ble_eq_true rfl) (Nat.le_of_ble_eq_true rfl)
  · obtain ⟨ws_4, rfl⟩ : ∃ z, z = u := ⟨_, rfl⟩
    obtain ⟨hT, hq_5⟩ := hw_2
    have hP : va_P D vwCl ([(ty_XO x w sp sv bu bl le)] ++ ws_4) H := hP
    have hD : va_D A ([(ty_XO x w sp sv bu bl le)] ++ ws_4) := hD
    refine W.widen (k := 1) (n := 6) (Nat.le_of_ble_eq_true rfl) (Nat.le_of_ble_eq_true rfl) ?_
    obtain ⟨a_6, rfl, ha_7⟩ := hq_5
    refine W.eq (g2 := F0 m 5 ls (.ref a_6 :: [])) rfl ?_
    refine lv_pop hx hb dX10_counting_5 rfl ?_
    refine lv_iconst (v := 0) hx hb dX10_counting_6 (by decide) ?_
    refine lv_istore_n (lv' := [(2, .int 0), (0, .ref x), (1, .int p1)]) hx hb dX10_counting_7 rfl hl (by decide) rfl (fun ls hl => ?_)
    refine lv_iconst (v := 0) hx hb dX10_counting_8 (by decide) ?_
    refine lv_istore_n (lv' := [(3, .int 0), (2, .int 0), (0, .ref x), (1, .int p1)]) hx hb dX10_counting_9 rfl hl (by decide) rfl (fun ls hl => ?_)
    refine ty_loop (I := fun μ H locs ls => ∃ (ws : va_W) (y_8 : Int32) (y_9 : Int32), μ = (2147483648 - y_9.toInt).toNat ∧ ty_V ct S ph ws ∧ va_P D vwCl ([(ty_XO x w sp sv bu bl le)] ++ ws) H ∧ va_D A ([(ty_XO x w sp sv bu bl le)] ++ ws) ∧ va_S A s.heap H locs ∧ lv_has ls 4 [(0, .ref x), (1, .int p1), (2, .int y_8), (3, .int y_9)]) ⟨_, ws_4, (0 : Int32), (0 : Int32), rfl, hT, hP, hD, hS, (lv_sub hl [2, 3, 1, 0] rfl)⟩ (fun μ H locs ls hI ih_10 => ?_)
    obtain ⟨ws, y_8, y_9, rfl, hT, hP, hD, hS, hl⟩ := hI
    refine lv_iload_n hx hb dX10_counting_10 rfl (lv_at hl 3 rfl) ?_
    refine lv_aload_n hx hb dX10_counting_11 rfl (lv_at hl 0 rfl) ?_
    refine va_get (v := .ref w) (D := D) (ci := 10) (C := RX10) (T := TX10) (N := 6) hx hb hts in_X10 hown hK hP 0 rfl rfl 0 (by decide) (hts _ kl_RX10_10) (fun _ h9 => h9) rfl dX10_counting_12 ?_
    refine ty_getN (E := [(ty_XO x w sp sv bu bl le)]) (ws := ws) (D := D) (ci := 9) (C := RX9) (T := TX9) (N := 8) hx hb hts in_X9 hown hK hP hT h_w rfl 6 (by decide) (hts _ kl_RX10_302) (fun _ h9 => h9) rfl dX10_counting_15 (fun _ hv_10 hf_11 => ?_)
    obtain ⟨a_12, rfl, ha_13⟩ := hv_10
    refine ty_getN (E := [(ty_XO x w sp sv bu bl le)]) (ws := ws) (D := D) (ci := 8) (C := RX8) (T := TX8) (N := 5) hx hb hts in_X8 hown hK hP hT ha_13 rfl 4 (by decide) (hts _ kl_RX10_306) (fun _ h9 => h9) rfl dX10_counting_18 (fun _ hv_14 hf_15 => ?_)
    obtain ⟨x_16, rfl⟩ := hv_14
    refine lv_icmp_ge (tgt := 45) hx hb dX10_counting_21 (by decide) (fun hc_17 => ?_) (fun hc_17 => ?_)
    · refine lv_iload_n hx hb dX10_counting_45 rfl (lv_at hl 2 rfl) ?_
      refine vx_ret ?_
      exact W.iret (v := y_8) hx hb hr (fun t ht hW => ⟨⟨y_8, ws, rfl, hT, by rw [ht]; exact hP, by rw [hAe]; exact hD⟩, hS.F ht⟩) hS.2.2 dX10_counting_46
    · refine lv_aload_n hx hb dX10_counting_24 rfl (lv_at hl 0 rfl) ?_
      refine va_get (v := .ref w) (D := D) (ci := 10) (C := RX10) (T := TX10) (N := 6) hx hb hts in_X10 hown hK hP 0 rfl rfl 0 (by decide) (hts _ kl_RX10_10) (fun _ h9 => h9) rfl dX10_counting_25 ?_
      refine lv_iload_n hx hb dX10_counting_28 rfl (lv_at hl 3 rfl) ?_
      refine lv_iload_n hx hb dX10_counting_29 rfl (lv_at hl 1 rfl) ?_
      refine ty_ki (wr := [(ty_XO x w sp sv bu bl le)]) (wc := ([] ++ ws)) (va_runVN (As := [.int y_9, .int p1]) (rest := []) ⟨hx, hb, hml, hown, hts⟩ (t_X9_recordCounts l D ct S ws ph xx w y_9 p1 _ hT h_w hph hy1) (cm_VN 2 hts kc_X9_recordCounts ki_RX9 kl_RX10_314 kv_X9_recordCounts kx_X9_recordCounts kd_X9_recordCounts ⟨Nat.le_of_ble_eq_true rfl, Nat.le_of_ble_eq_true rfl⟩) (ty_preV (wr := [(ty_XO x w sp sv bu bl le)]) (E := []) (ws := ws) (ci := 9) hP hK hD hS hA hX hT rfl h_w) rfl rfl hl.1 rfl (lv_room (Nat.le_of_ble_eq_true rfl)) dX10_counting_30 ⟨Nat.le_of_ble_eq_true rfl, Nat.le_of_ble_eq_true rfl⟩) hP hD hS hA (fun r_18 u H locs hw_19 hP hD hS => ?_)
      obtain ⟨ws_20, rfl⟩ : ∃ z, z = u := ⟨_, rfl⟩
      have hT := hw_19
      have hP : va_P D vwCl ([(ty_XO x w sp sv bu bl le)] ++ ws_20) H := hP
      have hD : va_D A ([(ty_XO x w sp sv bu bl le)] ++ ws_20) := hD
      refine lv_if_eq (tgt := 39) hx hb dX10_counting_33 (by decide) (fun hc_21 => ?_) (fun hc_21 => ?_)
      · refine lv_iinc (v := (y_9 + Int32.ofInt 1)) (lv' := [(3, .int (y_9 + Int32.ofInt 1)), (0, .ref x), (1, .int p1), (2, .int y_8)]) hx hb dX10_counting_39 hl (k := 3) rfl rfl (by decide) rfl (fun ls hl => ?_)
        refine lv_goto (tgt := 10) hx hb dX10_counting_42 (by decide) ?_
        exact ih_10 _ _ _ _ (ty_inc (cm_lt hc_17)) ⟨ws_20, y_8, (y_9 + Int32.ofInt 1), rfl, hT, hP, hD, hS, (lv_sub hl [1, 2, 3, 0] rfl)⟩
      · refine lv_iinc (v := (y_8 + Int32.ofInt 1)) (lv' := [(2, .int (y_8 + Int32.ofInt 1)), (0, .ref x), (1, .int p1), (3, .int y_9)]) hx hb dX10_counting_36 hl (k := 2) rfl rfl (by decide) rfl (fun ls hl => ?_)
        refine lv_iinc (v := (y_9 + Int32.ofInt 1)) (lv' := [(3, .int (y_9 + Int32.ofInt 1)), (2, .int (y_8 + Int32.ofInt 1)), (0, .ref x), (1, .int p1)]) hx hb dX10_counting_39 hl (k := 3) rfl rfl (by decide) rfl (fun ls hl => ?_)
        refine lv_goto (tgt := 10) hx hb dX10_counting_42 (by decide) ?_
        exact ih_10 _ _ _ _ (ty_inc (cm_lt hc_17)) ⟨ws_20, (y_8 + Int32.ofInt 1), (y_9 + Int32.ofInt 1), rfl, hT, hP, hD, hS, (lv_sub hl [2, 3, 1, 0] rfl)⟩
theorem dX10_loss_0 : decode cX10_loss 0 = .ok (.aload_n 0, 1) := by decide +kernel
theorem dX10_loss_1 : decode cX10_loss 1 = .ok (.iload_n 1, 1) := by decide +kernel
theorem dX10_loss_2 : decode cX10_loss 2 = .ok (.invokevirtual 172, 3) := by decide +kernel
theorem dX10_loss_5 : decode cX10_loss 5 = .ok (.pop, 1) := by decide +kernel
theorem dX10_loss_6 : decode cX10_loss 6 = .ok (.iconst (-1), 1) := by decide +kernel
theorem dX10_loss_7 : decode cX10_loss 7 = .ok (.istore_n 2, 1) := by decide +kernel
theorem dX10_loss_8 : decode cX10_loss 8 = .ok (.iconst (-1), 1) := by decide +kernel
theorem dX10_loss_9 : decode cX10_loss 9 = .ok (.istore_n 3, 1) := by decide +kernel
theorem dX10_loss_10 : decode cX10_loss 10 = .ok (.iconst 0, 1) := by decide +kernel
theorem dX10_loss_11 : decode cX10_loss 11 = .ok (.istore 4, 2) := by decide +kernel
theorem dX10_loss_13 : decode cX10_loss 13 = .ok (.iload 4, 2) := by decide +kernel
theorem dX10_loss_15 : decode cX10_loss 15 = .ok (.aload_n 0, 1) := by decide +kernel
theorem dX10_loss_16 : decode cX10_loss 16 = .ok (.getfield 10, 3) := by decide +kernel
theorem dX10_loss_19 : decode cX10_loss 19 = .ok (.getfield 302, 3) := by decide +kernel
theorem dX10_loss_22 : decode cX10_loss 22 = .ok (.getfield 306, 3) := by decide +kernel
theorem dX10_loss_25 : decode cX10_loss 25 = .ok (.if_icmp .ge 37, 3) := by decide +kernel
theorem dX10_loss_28 : decode cX10_loss 28 = .ok (.aload_n 0, 1) := by decide +kernel
theorem dX10_loss_29 : decode cX10_loss 29 = .ok (.getfield 10, 3) := by decide +kernel
theorem dX10_loss_32 : decode cX10_loss 32 = .ok (.iload 4, 2) := by decide +kernel
theorem dX10_loss_34 : decode cX10_loss 34 = .ok (.iload_n 1, 1) := by decide +kernel
theorem dX10_loss_35 : decode cX10_loss 35 = .ok (.invokevirtual 314, 3) := by decide +kernel
theorem dX10_loss_38 : decode cX10_loss 38 = .ok (.ifCond .eq 18, 3) := by decide +kernel
theorem dX10_loss_41 : decode cX10_loss 41 = .ok (.iload_n 2, 1) := by decide +kernel
theorem dX10_loss_42 : decode cX10_loss 42 = .ok (.iconst (-1), 1) := by decide +kernel
theorem dX10_loss_43 : decode cX10_loss 43 = .ok (.if_icmp .ne 8, 3) := by decide +kernel
theorem dX10_loss_46 : decode cX10_loss 46 = .ok (.iload 4, 2) := by decide +kernel
theorem dX10_loss_48 : decode cX10_loss 48 = .ok (.goto 4, 3) := by decide +kernel
theorem dX10_loss_51 : decode cX10_loss 51 = .ok (.iload_n 2, 1) := by decide +kernel
theorem dX10_loss_52 : decode cX10_loss 52 = .ok (.istore_n 2, 1) := by decide +kernel
theorem dX10_loss_53 : decode cX10_loss 53 = .ok (.iload 4, 2) := by decide +kernel
theorem dX10_loss_55 : decode cX10_loss 55 = .ok (.istore_n 3, 1) := by decide +kernel
theorem dX10_loss_56 : decode cX10_loss 56 = .ok (.iinc 4 1, 3) := by decide +kernel
theorem dX10_loss_59 : decode cX10_loss 59 = .ok (.goto (-46), 3) := by decide +kernel
theorem dX10_loss_62 : decode cX10_loss 62 = .ok (.iload_n 2, 1) := by decide +kernel
theorem dX10_loss_63 : decode cX10_loss 63 = .ok (.iload_n 3, 1) := by decide +kernel
theorem dX10_loss_64 : decode cX10_loss 64 = .ok (.if_icmp .ne 5, 3) := by decide +kernel
theorem dX10_loss_67 : decode cX10_loss 67 = .ok (.iconst 0, 1) := by decide +kernel
theorem dX10_loss_68 : decode cX10_loss 68 = .ok (.ireturn, 1) := by decide +kernel
theorem dX10_loss_69 : decode cX10_loss 69 = .ok (.aload_n 0, 1) := by decide +kernel
theorem dX10_loss_70 : decode cX10_loss 70 = .ok (.getfield 10, 3) := by decide +kernel
theorem dX10_loss_73 : decode cX10_loss 73 = .ok (.getfield 302, 3) := by decide +kernel
theorem dX10_loss_76 : decode cX10_loss 76 = .ok (.iload_n 2, 1) := by decide +kernel
theorem dX10_loss_77 : decode cX10_loss 77 = .ok (.iconst 2, 1) := by decide +kernel
theorem dX10_loss_78 : decode cX10_loss 78 = .ok (.invokevirtual 311, 3) := by decide +kernel
theorem dX10_loss_81 : decode cX10_loss 81 = .ok (.aload_n 0, 1) := by decide +kernel
theorem dX10_loss_82 : decode cX10_loss 82 = .ok (.getfield 10, 3) := by decide +kernel
theorem dX10_loss_85 : decode cX10_loss 85 = .ok (.getfield 302, 3) := by decide +kernel
theorem dX10_loss_88 : decode cX10_loss 88 = .ok (.iload_n 3, 1) := by decide +kernel
theorem dX10_loss_89 : decode cX10_loss 89 = .ok (.iconst 2, 1) := by decide +kernel
theorem dX10_loss_90 : decode cX10_loss 90 = .ok (.invokevirtual 311, 3) := by decide +kernel
theorem dX10_loss_93 : decode cX10_loss 93 = .ok (.isub, 1) := by decide +kernel
theorem dX10_loss_94 : decode cX10_loss 94 = .ok (.ireturn, 1) := by decide +kernel
set_option maxRecDepth 100000 in
set_option maxHeartbeats 4000000 in
theorem t_X10_loss (l : Launch) (hfl : l.stackTraces = false) (D : va_G) (ct : Nat → ClassId) (S : ty_S) (ws : va_W) (ph : va_W → Prop) (xx : Nat → Nat → Nat → Prop) (x : Nat) (w : Nat) (sp : Nat) (sv : Nat) (bu : Nat) (ns : Nat) (bl : Int32) (le : Int32) (p1 : Int32) (sz : Nat) (hT : ty_V ct S ph ws) (h_w : S w = some (.inl 9)) (h_sp : S sp = some (.inl 9)) (h_sv : S sv = some (.inr (4, ns))) (hph : ty_C ph xx) (hy1 : ty_y1 xx) : vx_Met l yX10_loss (ws_ yX10_loss cX10_loss 5 (some .int)) ({ frames := 7, cells := 1, slots := 6, locals := 112 } : Room) (va_Pc [.ref x, .int p1] (cmP D ct sz ([(ty_XO x w sp sv bu bl le)] ++ ws))) (va_Qi (fun (r : Int32) (u9 : va_W) => ty_V ct S ph u9) (cmB D ([(ty_XO x w sp sv bu bl le)] ++ ws) sz (fun (u9 : va_W) => ([(ty_XO x w sp sv bu bl le)] ++ u9))) (va_A ([(ty_XO x w sp sv bu bl le)] ++ ws) sz)) (vx_X (fun (u9 : va_W) => ty_V ct S ph u9) (cmBY D ([(ty_XO x w sp sv bu bl le)] ++ ws) sz ["java/lang/IndexOutOfBoundsException"] (fun (u9 : va_W) => ([(ty_XO x w sp sv bu bl le)] ++ u9))) (va_A ([(ty_XO x w sp sv bu bl le)] ++ ws) sz)) 1 6 (va_A ([(ty_XO x w sp sv bu bl le)] ++ ws) sz) := by
  refine vx_ofW (cc := cX10_loss) (maxL := 5) (ret := (some .int)) (by decide) rfl ?_
  intro p e s m args below meth c s₁ B hml hex hv
  obtain ⟨rfl, hsz, hP, hK, hD0, hX⟩ := hv
  have hx := B.exec
  have hb := B.bytes
  have hr := B.returns
  have hts := ws_all (atoms_spec (ws := ws_ yX10_loss cX10_loss 5 (some .int)) B.pre)
  have hown : s.vm.findClass RX10 = some m.cls := findClass_of_methodNamed B.named
  have hlocks := B.notSynchronized
  subst hsz
  have hD := hD0.self (sz := s.heap.size)
  generalize hAe : va_A ([(ty_XO x w sp sv bu bl le)] ++ ws) s.heap.size = A at hD hX ⊢
  have hA : ∀ q : Nat, s.heap.size ≤ q → A q := fun q h => by rw [← hAe]; exact Or.inr h
  have hS : va_S A s.heap s.heap [] := va_S.rf
  have hl := lv_entry ([.ref x, .int p1]) (n := 5) (Nat.le_of_ble_eq_true rfl)
  rw [lg_entry_eq]
  generalize (lg_sl ([.ref x, .int p1]) ++ List.replicate (5 - (lg_sl ([.ref x, .int p1])).length) Slot.unset).toArray = ls at hl ⊢
  have hl : lv_has ls 5 [(0, .ref x), (1, .int p1)] := hl
  refine lv_aload_n hx hb dX10_loss_0 rfl (lv_at hl 0 rfl) ?_
  refine lv_iload_n hx hb dX10_loss_1 rfl (lv_at hl 1 rfl) ?_
  refine ty_xq (wr := []) (wc := ([(ty_XO x w sp sv bu bl le)] ++ ws)) (vx_runV (As := [.int p1]) (rest := []) ⟨hx, hb, hml, hown, hts⟩ (t_X10_needChannel l hfl D ct S ws ph xx x w sp sv bu ns bl le p1 _ hT h_w h_sp h_sv hph hy1) (cm_V 1 hts kc_X10_needChannel ki_RX10 kl_RX10_172 kv_X10_needChannel kx_X10_needChannel kd_X10_needChannel ⟨Nat.le_of_ble_eq_true rfl, Nat.le_of_ble_eq_true rfl⟩) (ty_preE (wr := []) (wc := ([(ty_XO x w sp sv bu bl le)] ++ ws)) (ci := 10) (q0 := 0) hP hK hD hS hA hX rfl rfl) rfl rfl hl.1 rfl (lv_room (Nat.le_of_ble_eq_true rfl)) dX10_loss_2 ⟨Nat.le_of_ble_eq_true rfl, Nat.le_of_ble_eq_true rfl⟩) hP hD hS hA (fun E ce q9 u H locs hu hE hP hD hS hce hcv hcl => ?_) (fun r_1 u H locs hw_2 hP hD hS => ?_)
  · obtain ⟨ws_3, rfl⟩ : ∃ z, z = u := ⟨_, rfl⟩
    have hT := hu
    have hP : va_P D vwCl ([(ty_XO x w sp sv bu bl le)] ++ ws_3) H := hP
    have hD : va_D A ([(ty_XO x w sp sv bu bl le)] ++ ws_3) := hD
    exact vx_out (fun x hx => (hex x hx).elim) hlocks hce hcv hcl (fun t ht hW => ⟨ws_3, hT, ⟨hE, by rw [ht]; exact hP, by rw [hAe]; exact hD⟩, hS.F ht⟩) hS.2.2 (Nat.le_of_ble_eq_true rfl) (Nat.le_of_ble_eq_true rfl)
  · obtain ⟨ws_4, rfl⟩ : ∃ z, z = u := ⟨_, rfl⟩
    obtain ⟨hT, hq_5⟩ := hw_2
    have hP : va_P D vwCl ([(ty_XO x w sp sv bu bl le)] ++ ws_4) H := hP
    have hD : va_D A ([(ty_XO x w sp sv bu bl le)] ++ ws_4) := hD
    refine W.widen (k := 1) (n := 6) (Nat.le_of_ble_eq_true rfl) (Nat.le_of_ble_eq_true rfl) ?_
    obtain ⟨a_6, rfl, ha_7⟩ := hq_5
    refine W.eq (g2 := F0 m 5 ls (.ref a_6 :: [])) rfl ?_
    refine lv_pop hx hb dX10_loss_5 rfl ?_
    refine lv_iconst (v := (-1)) hx hb dX10_loss_6 (by decide) ?_
    refine lv_istore_n (lv' := [(2, .int (-1)), (0, .ref x), (1, .int p1)]) hx hb dX10_loss_7 rfl hl (by decide) rfl (fun ls hl => ?_)
    refine lv_iconst (v := (-1)) hx hb dX10_loss_8 (by decide) ?_
    refine lv_istore_n (lv' := [(3, .int (-1)), (2, .int (-1)), (0, .ref x), (1, .int p1)]) hx hb dX10_loss_9 rfl hl (by decide) rfl (fun ls hl => ?_)
    refine lv_iconst (v := 0) hx hb dX10_loss_10 (by decide) ?_
    refine lv_istore (lv' := [(4, .int 0), (3, .int (-1)), (2, .int (-1)), (0, .ref x), (1, .int p1)]) hx hb dX10_loss_11 hl (by decide) rfl (fun ls hl => ?_)
    refine ty_loop (I := fun μ H locs ls => ∃ (ws : va_W) (y_8 : Int32) (y_9 : Int32) (y_10 : Int32), μ = (2147483648 - y_10.toInt).toNat ∧ ty_V ct S ph ws ∧ va_P D vwCl ([(ty_XO x w sp sv bu bl le)] ++ ws) H ∧ va_D A ([(ty_XO x w sp sv bu bl le)] ++ ws) ∧ va_S A s.heap H locs ∧ lv_has ls 5 [(0, .ref x), (1, .int p1), (2, .int y_8), (3, .int y_9), (4, .int y_10)]) ⟨_, ws_4, ((-1) : Int32), ((-1) : Int32), (0 : Int32), rfl, hT, hP, hD, hS, (lv_sub hl [3, 4, 2, 1, 0] rfl)⟩ (fun μ H locs ls hI ih_13 => ?_)
    obtain ⟨ws, y_8, y_9, y_10, rfl, hT, hP, hD, hS, hl⟩ := hI
    refine lv_iload hx hb dX10_loss_13 (lv_at hl 4 rfl) ?_
    refine lv_aload_n hx hb dX10_loss_15 rfl (lv_at hl 0 rfl) ?_
    refine va_get (v := .ref w) (D := D) (ci := 10) (C := RX10) (T := TX10) (N := 6) hx hb hts in_X10 hown hK hP 0 rfl rfl 0 (by decide) (hts _ kl_RX10_10) (fun _ h9 => h9) rfl dX10_loss_16 ?_
    refine ty_getN (E := [(ty_XO x w sp sv bu bl le)]) (ws := ws) (D := D) (ci := 9) (C := RX9) (T := TX9) (N := 8) hx hb hts in_X9 hown hK hP hT h_w rfl 6 (by decide) (hts _ kl_RX10_302) (fun _ h9 => h9) rfl dX10_loss_19 (fun _ hv_11 hf_12 => ?_)
    obtain ⟨a_13, rfl, ha_14⟩ := hv_11
    refine ty_getN (E := [(ty_XO x w sp sv bu bl le)]) (ws := ws) (D := D) (ci := 8) (C := RX8) (T := TX8) (N := 5) hx hb hts in_X8 hown hK hP hT ha_14 rfl 4 (by decide) (hts _ kl_RX10_306) (fun _ h9 => h9) rfl dX10_loss_22 (fun _ hv_15 hf_16 => ?_)
    obtain ⟨x_17, rfl⟩ := hv_15
    refine lv_icmp_ge (tgt := 62) hx hb dX10_loss_25 (by decide) (fun hc_18 => ?_) (fun hc_18 => ?_)
    · refine lv_iload_n hx hb dX10_loss_62 rfl (lv_at hl 2 rfl) ?_
      refine lv_iload_n hx hb dX10_loss_63 rfl (lv_at hl 3 rfl) ?_
      refine lv_icmp_ne (tgt := 69) hx hb dX10_loss_64 (by decide) (fun hc_19 => ?_) (fun hc_19 => ?_)
      · refine lv_aload_n hx hb dX10_loss_69 rfl (lv_at hl 0 rfl) ?_
        refine va_get (v := .ref w) (D := D) (ci := 10) (C := RX10) (T := TX10) (N := 6) hx hb hts in_X10 hown hK hP 0 rfl rfl 0 (by decide) (hts _ kl_RX10_10) (fun _ h9 => h9) rfl dX10_loss_70 ?_
        refine ty_getN (E := [(ty_XO x w sp sv bu bl le)]) (ws := ws) (D := D) (ci := 9) (C := RX9) (T := TX9) (N := 8) hx hb hts in_X9 hown hK hP hT h_w rfl 6 (by decide) (hts _ kl_RX10_302) (fun _ h9 => h9) rfl dX10_loss_73 (fun _ hv_20 hf_21 => ?_)
        obtain ⟨a_22, rfl, ha_23⟩ := hv_20
        refine lv_iload_n hx hb dX10_loss_76 rfl (lv_at hl 2 rfl) ?_
        refine lv_iconst (v := 2) hx hb dX10_loss_77 (by decide) ?_
        refine ty_ki (wr := [(ty_XO x w sp sv bu bl le)]) (wc := ([] ++ ws)) (va_runVN (As := [.int y_8, .int 2]) (rest := []) ⟨hx, hb, hml, hown, hts⟩ (t_X8_get l D ct S ws ph xx a_22 y_8 (2 : Int32) _ hT ha_23 hph hy1) (cm_VN 2 hts kc_X8_get ki_RX8 kl_RX10_311 kv_X8_get kx_X8_get kd_X8_get ⟨Nat.le_of_ble_eq_true rfl, Nat.le_of_ble_eq_true rfl⟩) (ty_preV (wr := [(ty_XO x w sp sv bu bl le)]) (E := []) (ws := ws) (ci := 8) hP hK hD hS hA hX hT rfl ha_23) rfl rfl hl.1 rfl (lv_room (Nat.le_of_ble_eq_true rfl)) dX10_loss_78 ⟨Nat.le_of_ble_eq_true rfl, Nat.le_of_ble_eq_true rfl⟩) hP hD hS hA (fun r_24 u H locs hw_25 hP hD hS => ?_)
        obtain ⟨ws_26, rfl⟩ : ∃ z, z = u := ⟨_, rfl⟩
        have hT := hw_25
        have hP : va_P D vwCl ([(ty_XO x w sp sv bu bl le)] ++ ws_26) H := hP
        have hD : va_D A ([(ty_XO x w sp sv bu bl le)] ++ ws_26) := hD
        refine lv_aload_n hx hb dX10_loss_81 rfl (lv_at hl 0 rfl) ?_
        refine va_get (v := .ref w) (D := D) (ci := 10) (C := RX10) (T := TX10) (N := 6) hx hb hts in_X10 hown hK hP 0 rfl rfl 0 (by decide) (hts _ kl_RX10_10) (fun _ h9 => h9) rfl dX10_loss_82 ?_
        refine ty_getN (E := [(ty_XO x w sp sv bu bl le)]) (ws := ws_26) (D := D) (ci := 9) (C := RX9) (T := TX9) (N := 8) hx hb hts in_X9 hown hK hP hT h_w rfl 6 (by decide) (hts _ kl_RX10_302) (fun _ h9 => h9) rfl dX10_loss_85 (fun _ hv_27 hf_28 => ?_)
        obtain ⟨a_29, rfl, ha_30⟩ := hv_27
        refine lv_iload_n hx hb dX10_loss_88 rfl (lv_at hl 3 rfl) ?_
        refine lv_iconst (v := 2) hx hb dX10_loss_89 (by decide) ?_
        refine ty_ki (wr := [(ty_XO x w sp sv bu bl le)]) (wc := ([] ++ ws_26)) (va_runVN (As := [.int y_9, .int 2]) (rest := [.int r_24]) ⟨hx, hb, hml, hown, hts⟩ (t_X8_get l D ct S ws_26 ph xx a_29 y_9 (2 : Int32) _ hT ha_30 hph hy1) (cm_VN 2 hts kc_X8_get ki_RX8 kl_RX10_311 kv_X8_get kx_X8_get kd_X8_get ⟨Nat.le_of_ble_eq_true rfl, Nat.le_of_ble_eq_true rfl⟩) (ty_preV (wr := [(ty_XO x w sp sv bu bl le)]) (E := []) (ws := ws_26) (ci := 8) hP hK hD hS hA hX hT rfl ha_30) rfl rfl hl.1 rfl (lv_room (Nat.le_of_ble_eq_true rfl)) dX10_loss_90 ⟨Nat.le_of_ble_eq_true rfl, Nat.le_of_ble_eq_true rfl⟩) hP hD hS hA (fun r_31 u H locs hw_32 hP hD hS => ?_)
        obtain ⟨ws_33, rfl⟩ : ∃ z, z = u := ⟨_, rfl⟩
        have hT := hw_32
        have hP : va_P D vwCl ([(ty_XO x w sp sv bu bl le)] ++ ws_33) H := hP
        have hD : va_D A ([(ty_XO x w sp sv bu bl le)] ++ ws_33) := hD
        refine lv_isub hx hb dX10_loss_93 ?_
        refine lv_topi (fun x_34 _ => ?_)
        refine vx_ret ?_
        exact W.iret (v := x_34) hx hb hr (fun t ht hW => ⟨⟨x_34, ws_33, rfl, hT, by rw [ht]; exact hP, by rw [hAe]; exact hD⟩, hS.F ht⟩) hS.2.2 dX10_loss_94
      · refine lv_iconst (v := 0) hx hb dX10_loss_67 (by decide) ?_
        refine vx_ret ?_
        exact W.iret (v := 0) hx hb hr (fun t ht hW => ⟨⟨0, ws, rfl, hT, by rw [ht]; exact hP, by rw [hAe]; exact hD⟩, hS.F ht⟩) hS.2.2 dX10_loss_68
    · refine lv_aload_n hx hb dX10_loss_28 rfl (lv_at hl 0 rfl) ?_
      refine va_get (v := .ref w) (D := D) (ci := 10) (C := RX10) (T := TX10) (N := 6) hx hb hts in_X10 hown hK hP 0 rfl rfl 0 (by decide) (hts _ kl_RX10_10) (fun _ h9 => h9) rfl dX10_loss_29 ?_
      refine lv_iload hx hb dX10_loss_32 (lv_at hl 4 rfl) ?_
      refine lv_iload_n hx hb dX10_loss_34 rfl (lv_at hl 1 rfl) ?_
      refine ty_ki (wr := [(ty_XO x w sp sv bu bl le)]) (wc := ([] ++ ws)) (va_runVN (As := [.int y_10, .int p1]) (rest := []) ⟨hx, hb, hml, hown, hts⟩ (t_X9_recordCounts l D ct S ws ph xx w y_10 p1 _ hT h_w hph hy1) (cm_VN 2 hts kc_X9_recordCounts ki_RX9 kl_RX10_314 kv_X9_recordCounts kx_X9_recordCounts kd_X9_recordCounts ⟨Nat.le_of_ble_eq_true rfl, Nat.le_of_ble_eq_true rfl⟩) (ty_preV (wr := [(ty_XO x w sp sv bu bl le)]) (E := []) (ws := ws) (ci := 9) hP hK hD hS hA hX hT rfl h_w) rfl rfl hl.1 rfl (lv_room (Nat.le_of_ble_eq_true rfl)) dX10_loss_35 ⟨Nat.le_of_ble_eq_true rfl, Nat.le_of_ble_eq_true rfl⟩) hP hD hS hA (fun r_35 u H locs hw_36 hP hD hS => ?_)
      obtain ⟨ws_37, rfl⟩ : ∃ z, z = u := ⟨_, rfl⟩
      have hT := hw_36
      have hP : va_P D vwCl ([(ty_XO x w sp sv bu bl le)] ++ ws_37) H := hP
      have hD : va_D A ([(ty_XO x w sp sv bu bl le)] ++ ws_37) := hD
      refine lv_if_eq (tgt := 56) hx hb dX10_loss_38 (by decide) (fun hc_38 => ?_) (fun hc_38 => ?_)
      · refine lv_iinc (v := (y_10 + Int32.ofInt 1)) (lv' := [(4, .int (y_10 + Int32.ofInt 1)), (0, .ref x), (1, .int p1), (2, .int y_8), (3, .int y_9)]) hx hb dX10_loss_56 hl (k := 4) rfl rfl (by decide) rfl (fun ls hl => ?_)
        refine lv_goto (tgt := 13) hx hb dX10_loss_59 (by decide) ?_
        exact ih_13 _ _ _ _ (ty_inc (cm_lt hc_18)) ⟨ws_37, y_8, y_9, (y_10 + Int32.ofInt 1), rfl, hT, hP, hD, hS, (lv_sub hl [1, 2, 3, 4, 0] rfl)⟩
      · refine lv_iload_n hx hb dX10_loss_41 rfl (lv_at hl 2 rfl) ?_
        refine lv_iconst (v := (-1)) hx hb dX10_loss_42 (by decide) ?_
        refine lv_icmp_ne (tgt := 51) hx hb dX10_loss_43 (by decide) (fun hc_39 => ?_) (fun hc_39 => ?_)
        · refine lv_iload_n hx hb dX10_loss_51 rfl (lv_at hl 2 rfl) ?_
          refine lv_istore_n (lv' := [(2, .int y_8), (0, .ref x), (1, .int p1), (3, .int y_9), (4, .int y_10)]) hx hb dX10_loss_52 rfl hl (by decide) rfl (fun ls hl => ?_)
          refine lv_iload hx hb dX10_loss_53 (lv_at hl 4 rfl) ?_
          refine lv_istore_n (lv' := [(3, .int y_10), (2, .int y_8), (0, .ref x), (1, .int p1), (4, .int y_10)]) hx hb dX10_loss_55 rfl hl (by decide) rfl (fun ls hl => ?_)
          refine lv_iinc (v := (y_10 + Int32.ofInt 1)) (lv' := [(4, .int (y_10 + Int32.ofInt 1)), (3, .int y_10), (2, .int y_8), (0, .ref x), (1, .int p1)]) hx hb dX10_loss_56 hl (k := 4) rfl rfl (by decide) rfl (fun ls hl => ?_)
          refine lv_goto (tgt := 13) hx hb dX10_loss_59 (by decide) ?_
          exact ih_13 _ _ _ _ (ty_inc (cm_lt hc_18)) ⟨ws_37, y_8, y_10, (y_10 + Int32.ofInt 1), rfl, hT, hP, hD, hS, (lv_sub hl [3, 4, 2, 1, 0] rfl)⟩
        · refine lv_iload hx hb dX10_loss_46 (lv_at hl 4 rfl) ?_
          refine lv_goto (tgt := 52) hx hb dX10_loss_48 (by decide) ?_
          refine lv_istore_n (lv' := [(2, .int y_10), (0, .ref x), (1, .int p1), (3, .int y_9), (4, .int y_10)]) hx hb dX10_loss_52 rfl hl (by decide) rfl (fun ls hl => ?_)
          refine lv_iload hx hb dX10_loss_53 (lv_at hl 4 rfl) ?_
          refine lv_istore_n (lv' := [(3, .int y_10), (2, .int y_10), (0, .ref x), (1, .int p1), (4, .int y_10)]) hx hb dX10_loss_55 rfl hl (by decide) rfl (fun ls hl => ?_)
          refine lv_iinc (v := (y_10 + Int32.ofInt 1)) (lv' := [(4, .int (y_10 + Int32.ofInt 1)), (3, .int y_10), (2, .int y_10), (0, .ref x), (1, .int p1)]) hx hb dX10_loss_56 hl (k := 4) rfl rfl (by decide) rfl (fun ls hl => ?_)
          refine lv_goto (tgt := 13) hx hb dX10_loss_59 (by decide) ?_
          exact ih_13 _ _ _ _ (ty_inc (cm_lt hc_18)) ⟨ws_37, y_10, y_10, (y_10 + Int32.ofInt 1), rfl, hT, hP, hD, hS, (lv_sub hl [3, 4, 2, 1, 0] rfl)⟩
theorem dX10_logEntry_0 : decode cX10_logEntry 0 = .ok (.iload_n 2, 1) := by decide +kernel
theorem dX10_logEntry_1 : decode cX10_logEntry 1 = .ok (.iconst 0, 1) := by decide +kernel
theorem dX10_logEntry_2 : decode cX10_logEntry 2 = .ok (.iconst 3, 1) := by decide +kernel
theorem dX10_logEntry_3 : decode cX10_logEntry 3 = .ok (.invokestatic 81, 3) := by decide +kernel
theorem dX10_logEntry_6 : decode cX10_logEntry 6 = .ok (.iload_n 1, 1) := by decide +kernel
theorem dX10_logEntry_7 : decode cX10_logEntry 7 = .ok (.ifCond .lt 17, 3) := by decide +kernel
theorem dX10_logEntry_10 : decode cX10_logEntry 10 = .ok (.iload_n 1, 1) := by decide +kernel
theorem dX10_logEntry_11 : decode cX10_logEntry 11 = .ok (.aload_n 0, 1) := by decide +kernel
theorem dX10_logEntry_12 : decode cX10_logEntry 12 = .ok (.getfield 10, 3) := by decide +kernel
theorem dX10_logEntry_15 : decode cX10_logEntry 15 = .ok (.getfield 318, 3) := by decide +kernel
theorem dX10_logEntry_18 : decode cX10_logEntry 18 = .ok (.getfield 306, 3) := by decide +kernel
theorem dX10_logEntry_21 : decode cX10_logEntry 21 = .ok (.if_icmp .lt 7, 3) := by decide +kernel
theorem dX10_logEntry_24 : decode cX10_logEntry 24 = .ok (.iconst (-1), 1) := by decide +kernel
theorem dX10_logEntry_25 : decode cX10_logEntry 25 = .ok (.goto 15, 3) := by decide +kernel
theorem dX10_logEntry_28 : decode cX10_logEntry 28 = .ok (.aload_n 0, 1) := by decide +kernel
theorem dX10_logEntry_29 : decode cX10_logEntry 29 = .ok (.getfield 10, 3) := by decide +kernel
theorem dX10_logEntry_32 : decode cX10_logEntry 32 = .ok (.getfield 318, 3) := by decide +kernel
theorem dX10_logEntry_35 : decode cX10_logEntry 35 = .ok (.iload_n 1, 1) := by decide +kernel
theorem dX10_logEntry_36 : decode cX10_logEntry 36 = .ok (.iload_n 2, 1) := by decide +kernel
theorem dX10_logEntry_37 : decode cX10_logEntry 37 = .ok (.invokevirtual 311, 3) := by decide +kernel
theorem dX10_logEntry_40 : decode cX10_logEntry 40 = .ok (.ireturn, 1) := by decide +kernel
set_option maxRecDepth 100000 in
set_option maxHeartbeats 4000000 in
theorem t_X10_logEntry (l : Launch) (hfl : l.stackTraces = false) (D : va_G) (ct : Nat → ClassId) (S : ty_S) (ws : va_W) (ph : va_W → Prop) (xx : Nat → Nat → Nat → Prop) (x : Nat) (w : Nat) (sp : Nat) (sv : Nat) (bu : Nat) (ns : Nat) (bl : Int32) (le : Int32) (p1 : Int32) (p2 : Int32) (sz : Nat) (hT : ty_V ct S ph ws) (h_w : S w = some (.inl 9)) (h_sp : S sp = some (.inl 9)) (h_sv : S sv = some (.inr (4, ns))) (hph : ty_C ph xx) (hy1 : ty_y1 xx) : vx_Met l yX10_logEntry (ws_ yX10_logEntry cX10_logEntry 3 (some .int)) ({ frames := 7, cells := 1, slots := 6, locals := 112 } : Room) (va_Pc [.ref x, .int p1, .int p2] (cmP D ct sz ([(ty_XO x w sp sv bu bl le)] ++ ws))) (va_Qi (fun (r : Int32) (u9 : va_W) => ty_V ct S ph u9) (cmB D ([(ty_XO x w sp sv bu bl le)] ++ ws) sz (fun (u9 : va_W) => ([(ty_XO x w sp sv bu bl le)] ++ u9))) (va_A ([(ty_XO x w sp sv bu bl le)] ++ ws) sz)) (vx_X (fun (u9 : va_W) => ty_V ct S ph u9) (cmBY D ([(ty_XO x w sp sv bu bl le)] ++ ws) sz ["java/lang/IllegalArgumentException"] (fun (u9 : va_W) => ([(ty_XO x w sp sv bu bl le)] ++ u9))) (va_A ([(ty_XO x w sp sv bu bl le)] ++ ws) sz)) 1 6 (va_A ([(ty_XO x w sp sv bu bl le)] ++ ws) sz) := by
  refine vx_ofW (cc := cX10_logEntry) (maxL := 3) (ret := (some .int)) (by decide) rfl ?_
  intro p e s m args below meth c s₁ B hml hex hv
  obtain ⟨rfl, hsz, hP, hK, hD0, hX⟩ := hv
  have hx := B.exec
  have hb := B.bytes
  have hr := B.returns
  have hts := ws_all (atoms_spec (ws := ws_ yX10_logEntry cX10_logEntry 3 (some .int)) B.pre)
  have hown : s.vm.findClass RX10 = some m.cls := findClass_of_methodNamed B.named
  have hlocks := B.notSynchronized
  subst hsz
  have hD := hD0.self (sz := s.heap.size)
  generalize hAe : va_A ([(ty_XO x w sp sv bu bl le)] ++ ws) s.heap.size = A at hD hX ⊢
  have hA : ∀ q : Nat, s.heap.size ≤ q → A q := fun q h => by rw [← hAe]; exact Or.inr h
  have hS : va_S A s.heap s.heap [] := va_S.rf
  have hl := lv_entry ([.ref x, .int p1, .int p2]) (n := 3) (Nat.le_of_ble_eq_true rfl)
  rw [lg_entry_eq]
  generalize (lg_sl ([.ref x, .int p1, .int p2]) ++ List.replicate (3 - (lg_sl ([.ref x, .int p1, .int p2])).length) Slot.unset).toArray = ls at hl ⊢
  have hl : lv_has ls 3 [(0, .ref x), (1, .int p1), (2, .int p2)] := hl
  refine lv_iload_n hx hb dX10_logEntry_0 rfl (lv_at hl 2 rfl) ?_
  refine lv_iconst (v := 0) hx hb dX10_logEntry_1 (by decide) ?_
  refine lv_iconst (v := 3) hx hb dX10_logEntry_2 (by decide) ?_
  refine ty_xv (wr := [(ty_XO x w sp sv bu bl le)]) (wc := ([] ++ ws)) (vx_runS (As := [.int p2, .int 0, .int 3]) (rest := []) ⟨hx, hb, hml, hown, hts⟩ (t_X10_needRange l hfl D ct S ws ph xx p2 (0 : Int32) (3 : Int32) _ hT hph hy1) (cm_S 3 hts kc_X10_needRange ki_RX10 kl_RX10_81 ks_X10_needRange kd_X10_needRange ⟨Nat.le_of_ble_eq_true rfl, Nat.le_of_ble_eq_true rfl⟩) (ty_preS (wr := [(ty_XO x w sp sv bu bl le)]) (wc := ([] ++ ws)) hP hK hD hS hA hX) rfl rfl hl.1 rfl (lv_room (Nat.le_of_ble_eq_true rfl)) dX10_logEntry_3 ⟨Nat.le_of_ble_eq_true rfl, Nat.le_of_ble_eq_true rfl⟩) hP hD hS hA (fun E ce q9 u H locs hu hE hP hD hS hce hcv hcl => ?_) (fun u H locs hw_2 hP hD hS => ?_)
  · obtain ⟨ws_3, rfl⟩ : ∃ z, z = u := ⟨_, rfl⟩
    have hT := hu
    have hP : va_P D vwCl ([(ty_XO x w sp sv bu bl le)] ++ ws_3) H := hP
    have hD : va_D A ([(ty_XO x w sp sv bu bl le)] ++ ws_3) := hD
    exact vx_out (fun x hx => (hex x hx).elim) hlocks hce hcv hcl (fun t ht hW => ⟨ws_3, hT, ⟨hE, by rw [ht]; exact hP, by rw [hAe]; exact hD⟩, hS.F ht⟩) hS.2.2 (Nat.le_of_ble_eq_true rfl) (Nat.le_of_ble_eq_true rfl)
  · obtain ⟨ws_4, rfl⟩ : ∃ z, z = u := ⟨_, rfl⟩
    have hT := hw_2
    have hP : va_P D vwCl ([(ty_XO x w sp sv bu bl le)] ++ ws_4) H := hP
    have hD : va_D A ([(ty_XO x w sp sv bu bl le)] ++ ws_4) := hD
    refine W.widen (k := 1) (n := 6) (Nat.le_of_ble_eq_true rfl) (Nat.le_of_ble_eq_true rfl) ?_
    refine lv_iload_n hx hb dX10_logEntry_6 rfl (lv_at hl 1 rfl) ?_
    refine lv_if_lt (tgt := 24) hx hb dX10_logEntry_7 (by decide) (fun hc_5 => ?_) (fun hc_5 => ?_)
    · refine lv_iconst (v := (-1)) hx hb dX10_logEntry_24 (by decide) ?_
      refine lv_goto (tgt := 40) hx hb dX10_logEntry_25 (by decide) ?_
      refine vx_ret ?_
      exact W.iret (v := (-1)) hx hb hr (fun t ht hW => ⟨⟨(-1), ws_4, rfl, hT, by rw [ht]; exact hP, by rw [hAe]; exact hD⟩, hS.F ht⟩) hS.2.2 dX10_logEntry_40
    · refine lv_iload_n hx hb dX10_logEntry_10 rfl (lv_at hl 1 rfl) ?_
      refine lv_aload_n hx hb dX10_logEntry_11 rfl (lv_at hl 0 rfl) ?_
      refine va_get (v := .ref w) (D := D) (ci := 10) (C := RX10) (T := TX10) (N := 6) hx hb hts in_X10 hown hK hP 0 rfl rfl 0 (by decide) (hts _ kl_RX10_10) (fun _ h9 => h9) rfl dX10_logEntry_12 ?_
      refine ty_getN (E := [(ty_XO x w sp sv bu bl le)]) (ws := ws_4) (D := D) (ci := 9) (C := RX9) (T := TX9) (N := 8) hx hb hts in_X9 hown hK hP hT h_w rfl 7 (by decide) (hts _ kl_RX10_318) (fun _ h9 => h9) rfl dX10_logEntry_15 (fun _ hv_6 hf_7 => ?_)
      obtain ⟨a_8, rfl, ha_9⟩ := hv_6
      refine ty_getN (E := [(ty_XO x w sp sv bu bl le)]) (ws := ws_4) (D := D) (ci := 8) (C := RX8) (T := TX8) (N := 5) hx hb hts in_X8 hown hK hP hT ha_9 rfl 4 (by decide) (hts _ kl_RX10_306) (fun _ h9 => h9) rfl dX10_logEntry_18 (fun _ hv_10 hf_11 => ?_)
      obtain ⟨x_12, rfl⟩ := hv_10
      refine lv_icmp_lt (tgt := 28) hx hb dX10_logEntry_21 (by decide) (fun hc_13 => ?_) (fun hc_13 => ?_)
      · refine lv_aload_n hx hb dX10_logEntry_28 rfl (lv_at hl 0 rfl) ?_
        refine va_get (v := .ref w) (D := D) (ci := 10) (C := RX10) (T := TX10) (N := 6) hx hb hts in_X10 hown hK hP 0 rfl rfl 0 (by decide) (hts _ kl_RX10_10) (fun _ h9 => h9) rfl dX10_logEntry_29 ?_
        refine ty_getN (E := [(ty_XO x w sp sv bu bl le)]) (ws := ws_4) (D := D) (ci := 9) (C := RX9) (T := TX9) (N := 8) hx hb hts in_X9 hown hK hP hT h_w rfl 7 (by decide) (hts _ kl_RX10_318) (fun _ h9 => h9) rfl dX10_logEntry_32 (fun _ hv_14 hf_15 => ?_)
        obtain ⟨a_16, rfl, ha_17⟩ := hv_14
        refine lv_iload_n hx hb dX10_logEntry_35 rfl (lv_at hl 1 rfl) ?_
        refine lv_iload_n hx hb dX10_logEntry_36 rfl (lv_at hl 2 rfl) ?_
        refine ty_ki (wr := [(ty_XO x w sp sv bu bl le)]) (wc := ([] ++ ws_4)) (va_runVN (As := [.int p1, .int p2]) (rest := []) ⟨hx, hb, hml, hown, hts⟩ (t_X8_get l D ct S ws_4 ph xx a_16 p1 p2 _ hT ha_17 hph hy1) (cm_VN 2 hts kc_X8_get ki_RX8 kl_RX10_311 kv_X8_get kx_X8_get kd_X8_get ⟨Nat.le_of_ble_eq_true rfl, Nat.le_of_ble_eq_true rfl⟩) (ty_preV (wr := [(ty_XO x w sp sv bu bl le)]) (E := []) (ws := ws_4) (ci := 8) hP hK hD hS hA hX hT rfl ha_17) rfl rfl hl.1 rfl (lv_room (Nat.le_of_ble_eq_true rfl)) dX10_logEntry_37 ⟨Nat.le_of_ble_eq_true rfl, Nat.le_of_ble_eq_true rfl⟩) hP hD hS hA (fun r_18 u H locs hw_19 hP hD hS => ?_)
        obtain ⟨ws_20, rfl⟩ : ∃ z, z = u := ⟨_, rfl⟩
        have hT := hw_19
        have hP : va_P D vwCl ([(ty_XO x w sp sv bu bl le)] ++ ws_20) H := hP
        have hD : va_D A ([(ty_XO x w sp sv bu bl le)] ++ ws_20) := hD
        refine vx_ret ?_
        exact W.iret (v := r_18) hx hb hr (fun t ht hW => ⟨⟨r_18, ws_20, rfl, hT, by rw [ht]; exact hP, by rw [hAe]; exact hD⟩, hS.F ht⟩) hS.2.2 dX10_logEntry_40
      · refine lv_iconst (v := (-1)) hx hb dX10_logEntry_24 (by decide) ?_
        refine lv_goto (tgt := 40) hx hb dX10_logEntry_25 (by decide) ?_
        refine vx_ret ?_
        exact W.iret (v := (-1)) hx hb hr (fun t ht hW => ⟨⟨(-1), ws_4, rfl, hT, by rw [ht]; exact hP, by rw [hAe]; exact hD⟩, hS.F ht⟩) hS.2.2 dX10_logEntry_40
theorem dX10_eventsOf_0 : decode cX10_eventsOf 0 = .ok (.aload_n 0, 1) := by decide +kernel
theorem dX10_eventsOf_1 : decode cX10_eventsOf 1 = .ok (.iload_n 1, 1) := by decide +kernel
theorem dX10_eventsOf_2 : decode cX10_eventsOf 2 = .ok (.invokevirtual 172, 3) := by decide +kernel
theorem dX10_eventsOf_5 : decode cX10_eventsOf 5 = .ok (.pop, 1) := by decide +kernel
theorem dX10_eventsOf_6 : decode cX10_eventsOf 6 = .ok (.iload_n 2, 1) := by decide +kernel
theorem dX10_eventsOf_7 : decode cX10_eventsOf 7 = .ok (.iconst 0, 1) := by decide +kernel
theorem dX10_eventsOf_8 : decode cX10_eventsOf 8 = .ok (.iconst 5, 1) := by decide +kernel
theorem dX10_eventsOf_9 : decode cX10_eventsOf 9 = .ok (.invokestatic 81, 3) := by decide +kernel
theorem dX10_eventsOf_12 : decode cX10_eventsOf 12 = .ok (.iconst 0, 1) := by decide +kernel
theorem dX10_eventsOf_13 : decode cX10_eventsOf 13 = .ok (.istore_n 3, 1) := by decide +kernel
theorem dX10_eventsOf_14 : decode cX10_eventsOf 14 = .ok (.iconst 0, 1) := by decide +kernel
theorem dX10_eventsOf_15 : decode cX10_eventsOf 15 = .ok (.istore 4, 2) := by decide +kernel
theorem dX10_eventsOf_17 : decode cX10_eventsOf 17 = .ok (.iload 4, 2) := by decide +kernel
theorem dX10_eventsOf_19 : decode cX10_eventsOf 19 = .ok (.aload_n 0, 1) := by decide +kernel
theorem dX10_eventsOf_20 : decode cX10_eventsOf 20 = .ok (.getfield 10, 3) := by decide +kernel
theorem dX10_eventsOf_23 : decode cX10_eventsOf 23 = .ok (.getfield 318, 3) := by decide +kernel
theorem dX10_eventsOf_26 : decode cX10_eventsOf 26 = .ok (.getfield 306, 3) := by decide +kernel
theorem dX10_eventsOf_29 : decode cX10_eventsOf 29 = .ok (.if_icmp .ge 46, 3) := by decide +kernel
theorem dX10_eventsOf_32 : decode cX10_eventsOf 32 = .ok (.aload_n 0, 1) := by decide +kernel
theorem dX10_eventsOf_33 : decode cX10_eventsOf 33 = .ok (.getfield 10, 3) := by decide +kernel
theorem dX10_eventsOf_36 : decode cX10_eventsOf 36 = .ok (.getfield 318, 3) := by decide +kernel
theorem dX10_eventsOf_39 : decode cX10_eventsOf 39 = .ok (.iload 4, 2) := by decide +kernel
theorem dX10_eventsOf_41 : decode cX10_eventsOf 41 = .ok (.iconst 1, 1) := by decide +kernel
theorem dX10_eventsOf_42 : decode cX10_eventsOf 42 = .ok (.invokevirtual 311, 3) := by decide +kernel
theorem dX10_eventsOf_45 : decode cX10_eventsOf 45 = .ok (.iload_n 1, 1) := by decide +kernel
theorem dX10_eventsOf_46 : decode cX10_eventsOf 46 = .ok (.if_icmp .ne 23, 3) := by decide +kernel
theorem dX10_eventsOf_49 : decode cX10_eventsOf 49 = .ok (.aload_n 0, 1) := by decide +kernel
theorem dX10_eventsOf_50 : decode cX10_eventsOf 50 = .ok (.getfield 10, 3) := by decide +kernel
theorem dX10_eventsOf_53 : decode cX10_eventsOf 53 = .ok (.getfield 318, 3) := by decide +kernel
theorem dX10_eventsOf_56 : decode cX10_eventsOf 56 = .ok (.iload 4, 2) := by decide +kernel
theorem dX10_eventsOf_58 : decode cX10_eventsOf 58 = .ok (.iconst 2, 1) := by decide +kernel
theorem dX10_eventsOf_59 : decode cX10_eventsOf 59 = .ok (.invokevirtual 311, 3) := by decide +kernel
theorem dX10_eventsOf_62 : decode cX10_eventsOf 62 = .ok (.iload_n 2, 1) := by decide +kernel
theorem dX10_eventsOf_63 : decode cX10_eventsOf 63 = .ok (.if_icmp .ne 6, 3) := by decide +kernel
theorem dX10_eventsOf_66 : decode cX10_eventsOf 66 = .ok (.iinc 3 1, 3) := by decide +kernel
theorem dX10_eventsOf_69 : decode cX10_eventsOf 69 = .ok (.iinc 4 1, 3) := by decide +kernel
theorem dX10_eventsOf_72 : decode cX10_eventsOf 72 = .ok (.goto (-55), 3) := by decide +kernel
theorem dX10_eventsOf_75 : decode cX10_eventsOf 75 = .ok (.iload_n 3, 1) := by decide +kernel
theorem dX10_eventsOf_76 : decode cX10_eventsOf 76 = .ok (.ireturn, 1) := by decide +kernel
set_option maxRecDepth 100000 in
set_option maxHeartbeats 4000000 in
theorem t_X10_eventsOf (l : Launch) (hfl : l.stackTraces = false) (D : va_G) (ct : Nat → ClassId) (S : ty_S) (ws : va_W) (ph : va_W → Prop) (xx : Nat → Nat → Nat → Prop) (x : Nat) (w : Nat) (sp : Nat) (sv : Nat) (bu : Nat) (ns : Nat) (bl : Int32) (le : Int32) (p1 : Int32) (p2 : Int32) (sz : Nat) (hT : ty_V ct S ph ws) (h_w : S w = some (.inl 9)) (h_sp : S sp = some (.inl 9)) (h_sv : S sv = some (.inr (4, ns))) (hph : ty_C ph xx) (hy1 : ty_y1 xx) : vx_Met l yX10_eventsOf (ws_ yX10_eventsOf cX10_eventsOf 5 (some .int)) ({ frames := 7, cells := 2, slots := 12, locals := 112 } : Room) (va_Pc [.ref x, .int p1, .int p2] (cmP D ct sz ([(ty_XO x w sp sv bu bl le)] ++ ws))) (va_Qi (fun (r : Int32) (u9 : va_W) => ty_V ct S ph u9) (cmB D ([(ty_XO x w sp sv bu bl le)] ++ ws) sz (fun (u9 : va_W) => ([(ty_XO x w sp sv bu bl le)] ++ u9))) (va_A ([(ty_XO x w sp sv bu bl le)] ++ ws) sz)) (vx_X (fun (u9 : va_W) => ty_V ct S ph u9) (cmBY D ([(ty_XO x w sp sv bu bl le)] ++ ws) sz ["java/lang/IllegalArgumentException", "java/lang/IndexOutOfBoundsException"] (fun (u9 : va_W) => ([(ty_XO x w sp sv bu bl le)] ++ u9))) (va_A ([(ty_XO x w sp sv bu bl le)] ++ ws) sz)) 2 12 (va_A ([(ty_XO x w sp sv bu bl le)] ++ ws) sz) := by
  refine vx_ofW (cc := cX10_eventsOf) (maxL := 5) (ret := (some .int)) (by decide) rfl ?_
  intro p e s m args below meth c s₁ B hml hex hv
  obtain ⟨rfl, hsz, hP, hK, hD0, hX⟩ := hv
  have hx := B.exec
  have hb := B.bytes
  have hr := B.returns
  have hts := ws_all (atoms_spec (ws := ws_ yX10_eventsOf cX10_eventsOf 5 (some .int)) B.pre)
  have hown : s.vm.findClass RX10 = some m.cls := findClass_of_methodNamed B.named
  have hlocks := B.notSynchronized
  subst hsz
  have hD := hD0.self (sz := s.heap.size)
  generalize hAe : va_A ([(ty_XO x w sp sv bu bl le)] ++ ws) s.heap.size = A at hD hX ⊢
  have hA : ∀ q : Nat, s.heap.size ≤ q → A q := fun q h => by rw [← hAe]; exact Or.inr h
  have hS : va_S A s.heap s.heap [] := va_S.rf
  have hl := lv_entry ([.ref x, .int p1, .int p2]) (n := 5) (Nat.le_of_ble_eq_true rfl)
  rw [lg_entry_eq]
  generalize (lg_sl ([.ref x, .int p1, .int p2]) ++ List.replicate (5 - (lg_sl ([.ref x, .int p1, .int p2])).length) Slot.unset).toArray = ls at hl ⊢
  have hl : lv_has ls 5 [(0, .ref x), (1, .int p1), (2, .int p2)] := hl
  refine lv_aload_n hx hb dX10_eventsOf_0 rfl (lv_at hl 0 rfl) ?_
  refine lv_iload_n hx hb dX10_eventsOf_1 rfl (lv_at hl 1 rfl) ?_
  refine ty_xq (wr := []) (wc := ([(ty_XO x w sp sv bu bl le)] ++ ws)) (vx_runV (As := [.int p1]) (rest := []) ⟨hx, hb, hml, hown, hts⟩ (t_X10_needChannel l hfl D ct S ws ph xx x w sp sv bu ns bl le p1 _ hT h_w h_sp h_sv hph hy1) (cm_V 1 hts kc_X10_needChannel ki_RX10 kl_RX10_172 kv_X10_needChannel kx_X10_needChannel kd_X10_needChannel ⟨Nat.le_of_ble_eq_true rfl, Nat.le_of_ble_eq_true rfl⟩) (ty_preE (wr := []) (wc := ([(ty_XO x w sp sv bu bl le)] ++ ws)) (ci := 10) (q0 := 0) hP hK hD hS hA hX rfl rfl) rfl rfl hl.1 rfl (lv_room (Nat.le_of_ble_eq_true rfl)) dX10_eventsOf_2 ⟨Nat.le_of_ble_eq_true rfl, Nat.le_of_ble_eq_true rfl⟩) hP hD hS hA (fun E ce q9 u H locs hu hE hP hD hS hce hcv hcl => ?_) (fun r_1 u H locs hw_2 hP hD hS => ?_)
  · obtain ⟨ws_3, rfl⟩ : ∃ z, z = u := ⟨_, rfl⟩
    have hT := hu
    have hP : va_P D vwCl ([(ty_XO x w sp sv bu bl le)] ++ ws_3) H := hP
    have hD : va_D A ([(ty_XO x w sp sv bu bl le)] ++ ws_3) := hD
    exact vx_out (fun x hx => (hex x hx).elim) hlocks hce hcv hcl (fun t ht hW => ⟨ws_3, hT, ⟨(ty_mem hE (by decide)), by rw [ht]; exact hP, by rw [hAe]; exact hD⟩, hS.F ht⟩) hS.2.2 (Nat.le_of_ble_eq_true rfl) (Nat.le_of_ble_eq_true rfl)
  · obtain ⟨ws_4, rfl⟩ : ∃ z, z = u := ⟨_, rfl⟩
    obtain ⟨hT, hq_5⟩ := hw_2
    have hP : va_P D vwCl ([(ty_XO x w sp sv bu bl le)] ++ ws_4) H := hP
    have hD : va_D A ([(ty_XO x w sp sv bu bl le)] ++ ws_4) := hD
    refine W.widen (k := 1) (n := 6) (Nat.le_of_ble_eq_true rfl) (Nat.le_of_ble_eq_true rfl) ?_
    obtain ⟨a_6, rfl, ha_7⟩ := hq_5
    refine W.eq (g2 := F0 m 5 ls (.ref a_6 :: [])) rfl ?_
    refine lv_pop hx hb dX10_eventsOf_5 rfl ?_
    refine lv_iload_n hx hb dX10_eventsOf_6 rfl (lv_at hl 2 rfl) ?_
    refine lv_iconst (v := 0) hx hb dX10_eventsOf_7 (by decide) ?_
    refine lv_iconst (v := 5) hx hb dX10_eventsOf_8 (by decide) ?_
    refine ty_xv (wr := [(ty_XO x w sp sv bu bl le)]) (wc := ([] ++ ws_4)) (vx_runS (As := [.int p2, .int 0, .int 5]) (rest := []) ⟨hx, hb, hml, hown, hts⟩ (t_X10_needRange l hfl D ct S ws_4 ph xx p2 (0 : Int32) (5 : Int32) _ hT hph hy1) (cm_S 3 hts kc_X10_needRange ki_RX10 kl_RX10_81 ks_X10_needRange kd_X10_needRange ⟨Nat.le_of_ble_eq_true rfl, Nat.le_of_ble_eq_true rfl⟩) (ty_preS (wr := [(ty_XO x w sp sv bu bl le)]) (wc := ([] ++ ws_4)) hP hK hD hS hA hX) rfl rfl hl.1 rfl (lv_room (Nat.le_of_ble_eq_true rfl)) dX10_eventsOf_9 ⟨Nat.le_of_ble_eq_true rfl, Nat.le_of_ble_eq_true rfl⟩) hP hD hS hA (fun E ce q9 u H locs hu hE hP hD hS hce hcv hcl => ?_) (fun u H locs hw_9 hP hD hS => ?_)
    · obtain ⟨ws_10, rfl⟩ : ∃ z, z = u := ⟨_, rfl⟩
      have hT := hu
      have hP : va_P D vwCl ([(ty_XO x w sp sv bu bl le)] ++ ws_10) H := hP
      have hD : va_D A ([(ty_XO x w sp sv bu bl le)] ++ ws_10) := hD
      exact vx_out (fun x hx => (hex x hx).elim) hlocks hce hcv hcl (fun t ht hW => ⟨ws_10, hT, ⟨(ty_mem hE (by decide)), by rw [ht]; exact hP, by rw [hAe]; exact hD⟩, hS.F ht⟩) hS.2.2 (Nat.le_of_ble_eq_true rfl) (Nat.le_of_ble_eq_true rfl)
    · obtain ⟨ws_11, rfl⟩ : ∃ z, z = u := ⟨_, rfl⟩
      have hT := hw_9
      have hP : va_P D vwCl ([(ty_XO x w sp sv bu bl le)] ++ ws_11) H := hP
      have hD : va_D A ([(ty_XO x w sp sv bu bl le)] ++ ws_11) := hD
      refine W.widen (k := 2) (n := 12) (Nat.le_of_ble_eq_true rfl) (Nat.le_of_ble_eq_true rfl) ?_
      refine lv_iconst (v := 0) hx hb dX10_eventsOf_12 (by decide) ?_
      refine lv_istore_n (lv' := [(3, .int 0), (0, .ref x), (1, .int p1), (2, .int p2)]) hx hb dX10_eventsOf_13 rfl hl (by decide) rfl (fun ls hl => ?_)
      refine lv_iconst (v := 0) hx hb dX10_eventsOf_14 (by decide) ?_
      refine lv_istore (lv' := [(4, .int 0), (3, .int 0), (0, .ref x), (1, .int p1), (2, .int p2)]) hx hb dX10_eventsOf_15 hl (by decide) rfl (fun ls hl => ?_)
      refine ty_loop (I := fun μ H locs ls => ∃ (ws : va_W) (y_12 : Int32) (y_13 : Int32), μ = (2147483648 - y_13.toInt).toNat ∧ ty_V ct S ph ws ∧ va_P D vwCl ([(ty_XO x w sp sv bu bl le)] ++ ws) H ∧ va_D A ([(ty_XO x w sp sv bu bl le)] ++ ws) ∧ va_S A s.heap H locs ∧ lv_has ls 5 [(0, .ref x), (1, .int p1), (2, .int p2), (3, .int y_12), (4, .int y_13)]) ⟨_, ws_11, (0 : Int32), (0 : Int32), rfl, hT, hP, hD, hS, (lv_sub hl [2, 3, 4, 1, 0] rfl)⟩ (fun μ H locs ls hI ih_17 => ?_)
      obtain ⟨ws, y_12, y_13, rfl, hT, hP, hD, hS, hl⟩ := hI
      refine lv_iload hx hb dX10_eventsOf_17 (lv_at hl 4 rfl) ?_
      refine lv_aload_n hx hb dX10_eventsOf_19 rfl (lv_at hl 0 rfl) ?_
      refine va_get (v := .ref w) (D := D) (ci := 10) (C := RX10) (T := TX10) (N := 6) hx hb hts in_X10 hown hK hP 0 rfl rfl 0 (by decide) (hts _ kl_RX10_10) (fun _ h9 => h9) rfl dX10_eventsOf_20 ?_
      refine ty_getN (E := [(ty_XO x w sp sv bu bl le)]) (ws := ws) (D := D) (ci := 9) (C := RX9) (T := TX9) (N := 8) hx hb hts in_X9 hown hK hP hT h_w rfl 7 (by decide) (hts _ kl_RX10_318) (fun _ h9 => h9) rfl dX10_eventsOf_23 (fun _ hv_14 hf_15 => ?_)
      obtain ⟨a_16, rfl, ha_17⟩ := hv_14
      refine ty_getN (E := [(ty_XO x w sp sv bu bl le)]) (ws := ws) (D := D) (ci := 8) (C := RX8) (T := TX8) (N := 5) hx hb hts in_X8 hown hK hP hT ha_17 rfl 4 (by decide) (hts _ kl_RX10_306) (fun _ h9 => h9) rfl dX10_eventsOf_26 (fun _ hv_18 hf_19 => ?_)
      obtain ⟨x_20, rfl⟩ := hv_18
      refine lv_icmp_ge (tgt := 75) hx hb dX10_eventsOf_29 (by decide) (fun hc_21 => ?_) (fun hc_21 => ?_)
      · refine lv_iload_n hx hb dX10_eventsOf_75 rfl (lv_at hl 3 rfl) ?_
        refine vx_ret ?_
        exact W.iret (v := y_12) hx hb hr (fun t ht hW => ⟨⟨y_12, ws, rfl, hT, by rw [ht]; exact hP, by rw [hAe]; exact hD⟩, hS.F ht⟩) hS.2.2 dX10_eventsOf_76
      · refine lv_aload_n hx hb dX10_eventsOf_32 rfl (lv_at hl 0 rfl) ?_
        refine va_get (v := .ref w) (D := D) (ci := 10) (C := RX10) (T := TX10) (N := 6) hx hb hts in_X10 hown hK hP 0 rfl rfl 0 (by decide) (hts _ kl_RX10_10) (fun _ h9 => h9) rfl dX10_eventsOf_33 ?_
        refine ty_getN (E := [(ty_XO x w sp sv bu bl le)]) (ws := ws) (D := D) (ci := 9) (C := RX9) (T := TX9) (N := 8) hx hb hts in_X9 hown hK hP hT h_w rfl 7 (by decide) (hts _ kl_RX10_318) (fun _ h9 => h9) rfl dX10_eventsOf_36 (fun _ hv_22 hf_23 => ?_)
        obtain ⟨a_24, rfl, ha_25⟩ := hv_22
        refine lv_iload hx hb dX10_eventsOf_39 (lv_at hl 4 rfl) ?_
        refine lv_iconst (v := 1) hx hb dX10_eventsOf_41 (by decide) ?_
        refine ty_ki (wr := [(ty_XO x w sp sv bu bl le)]) (wc := ([] ++ ws)) (va_runVN (As := [.int y_13, .int 1]) (rest := []) ⟨hx, hb, hml, hown, hts⟩ (t_X8_get l D ct S ws ph xx a_24 y_13 (1 : Int32) _ hT ha_25 hph hy1) (cm_VN 2 hts kc_X8_get ki_RX8 kl_RX10_311 kv_X8_get kx_X8_get kd_X8_get ⟨Nat.le_of_ble_eq_true rfl, Nat.le_of_ble_eq_true rfl⟩) (ty_preV (wr := [(ty_XO x w sp sv bu bl le)]) (E := []) (ws := ws) (ci := 8) hP hK hD hS hA hX hT rfl ha_25) rfl rfl hl.1 rfl (lv_room (Nat.le_of_ble_eq_true rfl)) dX10_eventsOf_42 ⟨Nat.le_of_ble_eq_true rfl, Nat.le_of_ble_eq_true rfl⟩) hP hD hS hA (fun r_26 u H locs hw_27 hP hD hS => ?_)
        obtain ⟨ws_28, rfl⟩ : ∃ z, z = u := ⟨_, rfl⟩
        have hT := hw_27
        have hP : va_P D vwCl ([(ty_XO x w sp sv bu bl le)] ++ ws_28) H := hP
        have hD : va_D A ([(ty_XO x w sp sv bu bl le)] ++ ws_28) := hD
        refine lv_iload_n hx hb dX10_eventsOf_45 rfl (lv_at hl 1 rfl) ?_
        refine lv_icmp_ne (tgt := 69) hx hb dX10_eventsOf_46 (by decide) (fun hc_29 => ?_) (fun hc_29 => ?_)
        · refine lv_iinc (v := (y_13 + Int32.ofInt 1)) (lv' := [(4, .int (y_13 + Int32.ofInt 1)), (0, .ref x), (1, .int p1), (2, .int p2), (3, .int y_12)]) hx hb dX10_eventsOf_69 hl (k := 4) rfl rfl (by decide) rfl (fun ls hl => ?_)
          refine lv_goto (tgt := 17) hx hb dX10_eventsOf_72 (by decide) ?_
          exact ih_17 _ _ _ _ (ty_inc (cm_lt hc_21)) ⟨ws_28, y_12, (y_13 + Int32.ofInt 1), rfl, hT, hP, hD, hS, (lv_sub hl [1, 2, 3, 4, 0] rfl)⟩
        · refine lv_aload_n hx hb dX10_eventsOf_49 rfl (lv_at hl 0 rfl) ?_
          refine va_get (v := .ref w) (D := D) (ci := 10) (C := RX10) (T := TX10) (N := 6) hx hb hts in_X10 hown hK hP 0 rfl rfl 0 (by decide) (hts _ kl_RX10_10) (fun _ h9 => h9) rfl dX10_eventsOf_50 ?_
          refine ty_getN (E := [(ty_XO x w sp sv bu bl le)]) (ws := ws_28) (D := D) (ci := 9) (C := RX9) (T := TX9) (N := 8) hx hb hts in_X9 hown hK hP hT h_w rfl 7 (by decide) (hts _ kl_RX10_318) (fun _ h9 => h9) rfl dX10_eventsOf_53 (fun _ hv_30 hf_31 => ?_)
          obtain ⟨a_32, rfl, ha_33⟩ := hv_30
          refine lv_iload hx hb dX10_eventsOf_56 (lv_at hl 4 rfl) ?_
          refine lv_iconst (v := 2) hx hb dX10_eventsOf_58 (by decide) ?_
          refine ty_ki (wr := [(ty_XO x w sp sv bu bl le)]) (wc := ([] ++ ws_28)) (va_runVN (As := [.int y_13, .int 2]) (rest := []) ⟨hx, hb, hml, hown, hts⟩ (t_X8_get l D ct S ws_28 ph xx a_32 y_13 (2 : Int32) _ hT ha_33 hph hy1) (cm_VN 2 hts kc_X8_get ki_RX8 kl_RX10_311 kv_X8_get kx_X8_get kd_X8_get ⟨Nat.le_of_ble_eq_true rfl, Nat.le_of_ble_eq_true rfl⟩) (ty_preV (wr := [(ty_XO x w sp sv bu bl le)]) (E := []) (ws := ws_28) (ci := 8) hP hK hD hS hA hX hT rfl ha_33) rfl rfl hl.1 rfl (lv_room (Nat.le_of_ble_eq_true rfl)) dX10_eventsOf_59 ⟨Nat.le_of_ble_eq_true rfl, Nat.le_of_ble_eq_true rfl⟩) hP hD hS hA (fun r_34 u H locs hw_35 hP hD hS => ?_)
          obtain ⟨ws_36, rfl⟩ : ∃ z, z = u := ⟨_, rfl⟩
          have hT := hw_35
          have hP : va_P D vwCl ([(ty_XO x w sp sv bu bl le)] ++ ws_36) H := hP
          have hD : va_D A ([(ty_XO x w sp sv bu bl le)] ++ ws_36) := hD
          refine lv_iload_n hx hb dX10_eventsOf_62 rfl (lv_at hl 2 rfl) ?_
          refine lv_icmp_ne (tgt := 69) hx hb dX10_eventsOf_63 (by decide) (fun hc_37 => ?_) (fun hc_37 => ?_)
          · refine lv_iinc (v := (y_13 + Int32.ofInt 1)) (lv' := [(4, .int (y_13 + Int32.ofInt 1)), (0, .ref x), (1, .int p1), (2, .int p2), (3, .int y_12)]) hx hb dX10_eventsOf_69 hl (k := 4) rfl rfl (by decide) rfl (fun ls hl => ?_)
            refine lv_goto (tgt := 17) hx hb dX10_eventsOf_72 (by decide) ?_
            exact ih_17 _ _ _ _ (ty_inc (cm_lt hc_21)) ⟨ws_36, y_12, (y_13 + Int32.ofInt 1), rfl, hT, hP, hD, hS, (lv_sub hl [1, 2, 3, 4, 0] rfl)⟩
          · refine lv_iinc (v := (y_12 + Int32.ofInt 1)) (lv' := [(3, .int (y_12 + Int32.ofInt 1)), (0, .ref x), (1, .int p1), (2, .int p2), (4, .int y_13)]) hx hb dX10_eventsOf_66 hl (k := 3) rfl rfl (by decide) rfl (fun ls hl => ?_)
            refine lv_iinc (v := (y_13 + Int32.ofInt 1)) (lv' := [(4, .int (y_13 + Int32.ofInt 1)), (3, .int (y_12 + Int32.ofInt 1)), (0, .ref x), (1, .int p1), (2, .int p2)]) hx hb dX10_eventsOf_69 hl (k := 4) rfl rfl (by decide) rfl (fun ls hl => ?_)
            refine lv_goto (tgt := 17) hx hb dX10_eventsOf_72 (by decide) ?_
            exact ih_17 _ _ _ _ (ty_inc (cm_lt hc_21)) ⟨ws_36, (y_12 + Int32.ofInt 1), (y_13 + Int32.ofInt 1), rfl, hT, hP, hD, hS, (lv_sub hl [2, 3, 4, 1, 0] rfl)⟩
theorem dX0_takeCurve_0 : decode cX0_takeCurve 0 = .ok (.aload_n 0, 1) := by decide +kernel
theorem dX0_takeCurve_1 : decode cX0_takeCurve 1 = .ok (.aload_n 1, 1) := by decide +kernel
theorem dX0_takeCurve_2 : decode cX0_takeCurve 2 = .ok (.getfield 22, 3) := by decide +kernel
theorem dX0_takeCurve_5 : decode cX0_takeCurve 5 = .ok (.iload_n 2, 1) := by decide +kernel
theorem dX0_takeCurve_6 : decode cX0_takeCurve 6 = .ok (.invokestatic 27, 3) := by decide +kernel
theorem dX0_takeCurve_9 : decode cX0_takeCurve 9 = .ok (.putfield 31, 3) := by decide +kernel
theorem dX0_takeCurve_12 : decode cX0_takeCurve 12 = .ok (.iconst 0, 1) := by decide +kernel
theorem dX0_takeCurve_13 : decode cX0_takeCurve 13 = .ok (.istore_n 3, 1) := by decide +kernel
theorem dX0_takeCurve_14 : decode cX0_takeCurve 14 = .ok (.iload_n 3, 1) := by decide +kernel
theorem dX0_takeCurve_15 : decode cX0_takeCurve 15 = .ok (.aload_n 0, 1) := by decide +kernel
theorem dX0_takeCurve_16 : decode cX0_takeCurve 16 = .ok (.getfield 31, 3) := by decide +kernel
theorem dX0_takeCurve_19 : decode cX0_takeCurve 19 = .ok (.if_icmp .ge 23, 3) := by decide +kernel
theorem dX0_takeCurve_22 : decode cX0_takeCurve 22 = .ok (.aload_n 0, 1) := by decide +kernel
theorem dX0_takeCurve_23 : decode cX0_takeCurve 23 = .ok (.getfield 9, 3) := by decide +kernel
theorem dX0_takeCurve_26 : decode cX0_takeCurve 26 = .ok (.iload_n 3, 1) := by decide +kernel
theorem dX0_takeCurve_27 : decode cX0_takeCurve 27 = .ok (.aload_n 1, 1) := by decide +kernel
theorem dX0_takeCurve_28 : decode cX0_takeCurve 28 = .ok (.iload_n 2, 1) := by decide +kernel
theorem dX0_takeCurve_29 : decode cX0_takeCurve 29 = .ok (.iload_n 3, 1) := by decide +kernel
theorem dX0_takeCurve_30 : decode cX0_takeCurve 30 = .ok (.invokevirtual 34, 3) := by decide +kernel
theorem dX0_takeCurve_33 : decode cX0_takeCurve 33 = .ok (.invokestatic 38, 3) := by decide +kernel
theorem dX0_takeCurve_36 : decode cX0_takeCurve 36 = .ok (.iinc 3 1, 3) := by decide +kernel
theorem dX0_takeCurve_39 : decode cX0_takeCurve 39 = .ok (.goto (-25), 3) := by decide +kernel
theorem dX0_takeCurve_42 : decode cX0_takeCurve 42 = .ok (.return_, 1) := by decide +kernel
set_option maxRecDepth 100000 in
set_option maxHeartbeats 4000000 in
theorem t_X0_takeCurve (l : Launch) (D : va_G) (ct : Nat → ClassId) (S : ty_S) (ws : va_W) (ph : va_W → Prop) (xx : Nat → Nat → Nat → Prop) (h0 : Nat) (p1 : Nat) (p2 : Int32) (sz : Nat) (hT : ty_V ct S ph ws) (h_h0 : S h0 = some (.inl 0)) (h_p1 : S p1 = some (.inl 2)) (hph : ty_C ph xx) (hy1 : ty_y1 xx) : Met l yX0_takeCurve (ws_ yX0_takeCurve cX0_takeCurve 4 none) ({ frames := 2, cells := 0, slots := 0, locals := 43 } : Room) (va_Pc [.ref h0, .ref p1, .int p2] (cmP D ct sz ([] ++ ws))) (va_Qv (fun (u9 : va_W) => ty_V ct S ph u9) (cmB D ([] ++ ws) sz (fun (u9 : va_W) => ([] ++ u9))) (va_A ([] ++ ws) sz)) 0 0 (va_A ([] ++ ws) sz) := by
  refine Met.ofW (cc := cX0_takeCurve) (maxL := 4) (ret := none) (by decide) rfl ?_
  intro p e s m args below meth c s₁ B hml hv
  obtain ⟨rfl, hsz, hP, hK, hD0, hX⟩ := hv
  have hx := B.exec
  have hb := B.bytes
  have hr := B.returns
  have hts := ws_all (atoms_spec (ws := ws_ yX0_takeCurve cX0_takeCurve 4 none) B.pre)
  have hown : s.vm.findClass RX0 = some m.cls := findClass_of_methodNamed B.named
  have hlocks := B.notSynchronized
  subst hsz
  have hD := hD0.self (sz := s.heap.size)
  generalize hAe : va_A ([] ++ ws) s.heap.size = A at hD hX ⊢
  have hA : ∀ q : Nat, s.heap.size ≤ q → A q := fun q h => by rw [← hAe]; exact Or.inr h
  have hS : va_S A s.heap s.heap [] := va_S.rf
  have hl := lv_entry ([.ref h0, .ref p1, .int p2]) (n := 4) (Nat.le_of_ble_eq_true rfl)
  rw [lg_entry_eq]
  generalize (lg_sl ([.ref h0, .ref p1, .int p2]) ++ List.replicate (4 - (lg_sl ([.ref h0, .ref p1, .int p2])).length) Slot.unset).toArray = ls at hl ⊢
  have hl : lv_has ls 4 [(0, .ref h0), (1, .ref p1), (2, .int p2)] := hl
  refine lv_aload_n hx hb dX0_takeCurve_0 rfl (lv_at hl 0 rfl) ?_
  refine lv_aload_n hx hb dX0_takeCurve_1 rfl (lv_at hl 1 rfl) ?_
  refine ty_getN (E := []) (ws := ws) (D := D) (ci := 2) (C := RX2) (T := TX2) (N := 4) hx hb hts in_X2 hown hK hP hT h_p1 rfl 2 (by decide) (hts _ kl_RX0_22) (fun _ h9 => h9) rfl dX0_takeCurve_2 (fun _ hv_1 hf_2 => ?_)
  obtain ⟨a_3, n_4, rfl, ha_5⟩ := hv_1
  refine lv_iload_n hx hb dX0_takeCurve_5 rfl (lv_at hl 2 rfl) ?_
  refine ty_ki (wr := []) (wc := ([] ++ ws)) (va_runSN (As := [.ref a_3, .int p2]) (rest := [.ref h0]) ⟨hx, hb, hml, hown, hts⟩ (t_X10_at l D ct S ws ph xx a_3 n_4 p2 _ hT ha_5 hph hy1) (cm_SN 2 hts kc_X10_at ki_RX10 kl_RX0_27 ks_X10_at kd_X10_at ⟨Nat.le_of_ble_eq_true rfl, Nat.le_of_ble_eq_true rfl⟩) (ty_preS (wr := []) (wc := ([] ++ ws)) hP hK hD hS hA hX) rfl rfl hl.1 rfl (lv_room (Nat.le_of_ble_eq_true rfl)) dX0_takeCurve_6 ⟨Nat.le_of_ble_eq_true rfl, Nat.le_of_ble_eq_true rfl⟩) hP hD hS hA (fun r_6 u H locs hw_7 hP hD hS => ?_)
  obtain ⟨ws_8, rfl⟩ : ∃ z, z = u := ⟨_, rfl⟩
  have hT := hw_7
  have hP : va_P D vwCl ([] ++ ws_8) H := hP
  have hD : va_D A ([] ++ ws_8) := hD
  refine ty_put (v := .int r_6) (ty := .int) (E := []) (ws := ws_8) (D := D) (ci := 0) (C := RX0) (T := TX0) (N := 16) hx hb hts in_X0 tyX0 tyX0_ok nmX0 hown hK hP hD hS hT h_h0 rfl 1 (by decide) (hts _ kl_RX0_31) (fun _ h9 => h9) rfl (by decide +kernel) rfl rfl rfl ⟨_, rfl⟩ dX0_takeCurve_9 hph (hy1 0 1 h0 rfl) (fun ws_9 H locs hT hP hD hS => ?_)
  refine lv_iconst (v := 0) hx hb dX0_takeCurve_12 (by decide) ?_
  refine lv_istore_n (lv' := [(3, .int 0), (0, .ref h0), (1, .ref p1), (2, .int p2)]) hx hb dX0_takeCurve_13 rfl hl (by decide) rfl (fun ls hl => ?_)
  refine ty_loop (I := fun μ H locs ls => ∃ (ws : va_W) (y_10 : Int32), μ = (2147483648 - y_10.toInt).toNat ∧ ty_V ct S ph ws ∧ va_P D vwCl ([] ++ ws) H ∧ va_D A ([] ++ ws) ∧ va_S A s.heap H locs ∧ lv_has ls 4 [(0, .ref h0), (1, .ref p1), (2, .int p2), (3, .int y_10)]) ⟨_, ws_9, (0 : Int32), rfl, hT, hP, hD, hS, (lv_sub hl [1, 2, 3, 0] rfl)⟩ (fun μ H locs ls hI ih_14 => ?_)
  obtain ⟨ws, y_10, rfl, hT, hP, hD, hS, hl⟩ := hI
  refine lv_iload_n hx hb dX0_takeCurve_14 rfl (lv_at hl 3 rfl) ?_
  refine lv_aload_n hx hb dX0_takeCurve_15 rfl (lv_at hl 0 rfl) ?_
  refine ty_get (E := []) (ws := ws) (D := D) (ci := 0) (C := RX0) (T := TX0) (N := 16) hx hb hts in_X0 hown hK hP hT h_h0 rfl 1 (by decide) (hts _ kl_RX0_31) (fun _ h9 => h9) rfl dX0_takeCurve_16 (fun _ hv_11 hf_12 => ?_)
  obtain ⟨x_13, rfl⟩ := hv_11
  refine lv_icmp_ge (tgt := 42) hx hb dX0_takeCurve_19 (by decide) (fun hc_14 => ?_) (fun hc_14 => ?_)
  · exact W.vret hx hb hr (fun t ht hW => ⟨⟨ws, rfl, hT, by rw [ht]; exact hP, by rw [hAe]; exact hD⟩, hS.F ht⟩) hS.2.2 dX0_takeCurve_42
  · refine lv_aload_n hx hb dX0_takeCurve_22 rfl (lv_at hl 0 rfl) ?_
    refine ty_get (E := []) (ws := ws) (D := D) (ci := 0) (C := RX0) (T := TX0) (N := 16) hx hb hts in_X0 hown hK hP hT h_h0 rfl 0 (by decide) (hts _ kl_RX0_9) (fun _ h9 => h9) rfl dX0_takeCurve_23 (fun _ hv_15 hf_16 => ?_)
    obtain ⟨a_17, n_18, rfl, ha_19⟩ := hv_15
    refine lv_iload_n hx hb dX0_takeCurve_26 rfl (lv_at hl 3 rfl) ?_
    refine lv_aload_n hx hb dX0_takeCurve_27 rfl (lv_at hl 1 rfl) ?_
    refine lv_iload_n hx hb dX0_takeCurve_28 rfl (lv_at hl 2 rfl) ?_
    refine lv_iload_n hx hb dX0_takeCurve_29 rfl (lv_at hl 3 rfl) ?_
    refine ty_ki (wr := []) (wc := ([] ++ ws)) (va_runVN (As := [.int p2, .int y_10]) (rest := [.int y_10, .ref a_17]) ⟨hx, hb, hml, hown, hts⟩ (t_X2_voltageOf l D ct S ws ph xx p1 p2 y_10 _ hT h_p1 hph hy1) (cm_VN 2 hts kc_X2_voltageOf ki_RX2 kl_RX0_34 kv_X2_voltageOf kx_X2_voltageOf kd_X2_voltageOf ⟨Nat.le_of_ble_eq_true rfl, Nat.le_of_ble_eq_true rfl⟩) (ty_preV (wr := []) (E := []) (ws := ws) (ci := 2) hP hK hD hS hA hX hT rfl h_p1) rfl rfl hl.1 rfl (lv_room (Nat.le_of_ble_eq_true rfl)) dX0_takeCurve_30 ⟨Nat.le_of_ble_eq_true rfl, Nat.le_of_ble_eq_true rfl⟩) hP hD hS hA (fun r_20 u H locs hw_21 hP hD hS => ?_)
    obtain ⟨ws_22, rfl⟩ : ∃ z, z = u := ⟨_, rfl⟩
    have hT := hw_21
    have hP : va_P D vwCl ([] ++ ws_22) H := hP
    have hD : va_D A ([] ++ ws_22) := hD
    refine ty_kv (wr := []) (wc := ([] ++ ws_22)) (va_runSN (As := [.ref a_17, .int y_10, .int r_20]) (rest := []) ⟨hx, hb, hml, hown, hts⟩ (t_X10_put l D ct S ws_22 ph xx a_17 n_18 y_10 r_20 _ hT ha_19 hph hy1) (cm_SN 3 hts kc_X10_put ki_RX10 kl_RX0_38 ks_X10_put kd_X10_put ⟨Nat.le_of_ble_eq_true rfl, Nat.le_of_ble_eq_true rfl⟩) (ty_preS (wr := []) (wc := ([] ++ ws_22)) hP hK hD hS hA hX) rfl rfl hl.1 rfl (lv_room (Nat.le_of_ble_eq_true rfl)) dX0_takeCurve_33 ⟨Nat.le_of_ble_eq_true rfl, Nat.le_of_ble_eq_true rfl⟩) hP hD hS hA (fun u H locs hw_24 hP hD hS => ?_)
    obtain ⟨ws_25, rfl⟩ : ∃ z, z = u := ⟨_, rfl⟩
    obtain ⟨hT, hp_26⟩ := hw_24
    have hp_26 : ty_fdle ws_22 ws_25 := hp_26
    have hP : va_P D vwCl ([] ++ ws_25) H := hP
    have hD : va_D A ([] ++ ws_25) := hD
    refine lv_iinc (v := (y_10 + Int32.ofInt 1)) (lv' := [(3, .int (y_10 + Int32.ofInt 1)), (0, .ref h0), (1, .ref p1), (2, .int p2)]) hx hb dX0_takeCurve_36 hl (k := 3) rfl rfl (by decide) rfl (fun ls hl => ?_)
    refine lv_goto (tgt := 14) hx hb dX0_takeCurve_39 (by decide) ?_
    exact ih_14 _ _ _ _ (ty_inc (cm_lt hc_14)) ⟨ws_25, (y_10 + Int32.ofInt 1), rfl, hT, hP, hD, hS, (lv_sub hl [1, 2, 3, 0] rfl)⟩
theorem dX0_passCurrent_0 : decode cX0_passCurrent 0 = .ok (.aload_n 0, 1) := by decide +kernel
theorem dX0_passCurrent_1 : decode cX0_passCurrent 1 = .ok (.iload_n 1, 1) := by decide +kernel
theorem dX0_passCurrent_2 : decode cX0_passCurrent 2 = .ok (.invokevirtual 108, 3) := by decide +kernel
theorem dX0_passCurrent_5 : decode cX0_passCurrent 5 = .ok (.aload_n 0, 1) := by decide +kernel
theorem dX0_passCurrent_6 : decode cX0_passCurrent 6 = .ok (.iload_n 1, 1) := by decide +kernel
theorem dX0_passCurrent_7 : decode cX0_passCurrent 7 = .ok (.aload_n 2, 1) := by decide +kernel
theorem dX0_passCurrent_8 : decode cX0_passCurrent 8 = .ok (.invokevirtual 112, 3) := by decide +kernel
theorem dX0_passCurrent_11 : decode cX0_passCurrent 11 = .ok (.aload_n 0, 1) := by decide +kernel
theorem dX0_passCurrent_12 : decode cX0_passCurrent 12 = .ok (.iload_n 1, 1) := by decide +kernel
theorem dX0_passCurrent_13 : decode cX0_passCurrent 13 = .ok (.aload_n 2, 1) := by decide +kernel
theorem dX0_passCurrent_14 : decode cX0_passCurrent 14 = .ok (.invokevirtual 116, 3) := by decide +kernel
theorem dX0_passCurrent_17 : decode cX0_passCurrent 17 = .ok (.aload_n 0, 1) := by decide +kernel
theorem dX0_passCurrent_18 : decode cX0_passCurrent 18 = .ok (.iload_n 1, 1) := by decide +kernel
theorem dX0_passCurrent_19 : decode cX0_passCurrent 19 = .ok (.aload_n 2, 1) := by decide +kernel
theorem dX0_passCurrent_20 : decode cX0_passCurrent 20 = .ok (.invokevirtual 119, 3) := by decide +kernel
theorem dX0_passCurrent_23 : decode cX0_passCurrent 23 = .ok (.aload_n 0, 1) := by decide +kernel
theorem dX0_passCurrent_24 : decode cX0_passCurrent 24 = .ok (.iload_n 1, 1) := by decide +kernel
theorem dX0_passCurrent_25 : decode cX0_passCurrent 25 = .ok (.putfield 66, 3) := by decide +kernel
theorem dX0_passCurrent_28 : decode cX0_passCurrent 28 = .ok (.aload_n 0, 1) := by decide +kernel
theorem dX0_passCurrent_29 : decode cX0_passCurrent 29 = .ok (.aload_n 0, 1) := by decide +kernel
theorem dX0_passCurrent_30 : decode cX0_passCurrent 30 = .ok (.aload_n 0, 1) := by decide +kernel
theorem dX0_passCurrent_31 : decode cX0_passCurrent 31 = .ok (.getfield 42, 3) := by decide +kernel
theorem dX0_passCurrent_34 : decode cX0_passCurrent 34 = .ok (.invokevirtual 84, 3) := by decide +kernel
theorem dX0_passCurrent_37 : decode cX0_passCurrent 37 = .ok (.iload_n 1, 1) := by decide +kernel
theorem dX0_passCurrent_38 : decode cX0_passCurrent 38 = .ok (.aload_n 0, 1) := by decide +kernel
theorem dX0_passCurrent_39 : decode cX0_passCurrent 39 = .ok (.getfield 90, 3) := by decide +kernel
theorem dX0_passCurrent_42 : decode cX0_passCurrent 42 = .ok (.imul, 1) := by decide +kernel
theorem dX0_passCurrent_43 : decode cX0_passCurrent 43 = .ok (.sipush 1000, 3) := by decide +kernel
theorem dX0_passCurrent_46 : decode cX0_passCurrent 46 = .ok (.idiv, 1) := by decide +kernel
theorem dX0_passCurrent_47 : decode cX0_passCurrent 47 = .ok (.iadd, 1) := by decide +kernel
theorem dX0_passCurrent_48 : decode cX0_passCurrent 48 = .ok (.aload_n 0, 1) := by decide +kernel
theorem dX0_passCurrent_49 : decode cX0_passCurrent 49 = .ok (.getfield 57, 3) := by decide +kernel
theorem dX0_passCurrent_52 : decode cX0_passCurrent 52 = .ok (.iadd, 1) := by decide +kernel
theorem dX0_passCurrent_53 : decode cX0_passCurrent 53 = .ok (.putfield 69, 3) := by decide +kernel
theorem dX0_passCurrent_56 : decode cX0_passCurrent 56 = .ok (.iload_n 1, 1) := by decide +kernel
theorem dX0_passCurrent_57 : decode cX0_passCurrent 57 = .ok (.ifCond .le 26, 3) := by decide +kernel
theorem dX0_passCurrent_60 : decode cX0_passCurrent 60 = .ok (.aload_n 0, 1) := by decide +kernel
theorem dX0_passCurrent_61 : decode cX0_passCurrent 61 = .ok (.getfield 18, 3) := by decide +kernel
theorem dX0_passCurrent_64 : decode cX0_passCurrent 64 = .ok (.dup, 1) := by decide +kernel
theorem dX0_passCurrent_65 : decode cX0_passCurrent 65 = .ok (.getfield 122, 3) := by decide +kernel
theorem dX0_passCurrent_68 : decode cX0_passCurrent 68 = .ok (.iload_n 1, 1) := by decide +kernel
theorem dX0_passCurrent_69 : decode cX0_passCurrent 69 = .ok (.i2l, 1) := by decide +kernel
theorem dX0_passCurrent_70 : decode cX0_passCurrent 70 = .ok (.aload_n 0, 1) := by decide +kernel
theorem dX0_passCurrent_71 : decode cX0_passCurrent 71 = .ok (.getfield 69, 3) := by decide +kernel
theorem dX0_passCurrent_74 : decode cX0_passCurrent 74 = .ok (.i2l, 1) := by decide +kernel
theorem dX0_passCurrent_75 : decode cX0_passCurrent 75 = .ok (.lmul, 1) := by decide +kernel
theorem dX0_passCurrent_76 : decode cX0_passCurrent 76 = .ok (.ladd, 1) := by decide +kernel
theorem dX0_passCurrent_77 : decode cX0_passCurrent 77 = .ok (.putfield 122, 3) := by decide +kernel
theorem dX0_passCurrent_80 : decode cX0_passCurrent 80 = .ok (.goto 24, 3) := by decide +kernel
theorem dX0_passCurrent_83 : decode cX0_passCurrent 83 = .ok (.aload_n 0, 1) := by decide +kernel
theorem dX0_passCurrent_84 : decode cX0_passCurrent 84 = .ok (.getfield 18, 3) := by decide +kernel
theorem dX0_passCurrent_87 : decode cX0_passCurrent 87 = .ok (.dup, 1) := by decide +kernel
theorem dX0_passCurrent_88 : decode cX0_passCurrent 88 = .ok (.getfield 126, 3) := by decide +kernel
theorem dX0_passCurrent_91 : decode cX0_passCurrent 91 = .ok (.iload_n 1, 1) := by decide +kernel
theorem dX0_passCurrent_92 : decode cX0_passCurrent 92 = .ok (.i2l, 1) := by decide +kernel
theorem dX0_passCurrent_93 : decode cX0_passCurrent 93 = .ok (.lneg, 1) := by decide +kernel
theorem dX0_passCurrent_94 : decode cX0_passCurrent 94 = .ok (.aload_n 0, 1) := by decide +kernel
theorem dX0_passCurrent_95 : decode cX0_passCurrent 95 = .ok (.getfield 69, 3) := by decide +kernel
theorem dX0_passCurrent_98 : decode cX0_passCurrent 98 = .ok (.i2l, 1) := by decide +kernel
theorem dX0_passCurrent_99 : decode cX0_passCurrent 99 = .ok (.lmul, 1) := by decide +kernel
theorem dX0_passCurrent_100 : decode cX0_passCurrent 100 = .ok (.ladd, 1) := by decide +kernel
theorem dX0_passCurrent_101 : decode cX0_passCurrent 101 = .ok (.putfield 126, 3) := by decide +kernel
theorem dX0_passCurrent_104 : decode cX0_passCurrent 104 = .ok (.return_, 1) := by decide +kernel
set_option maxRecDepth 100000 in
set_option maxHeartbeats 4000000 in
theorem t_X0_passCurrent (l : Launch) (D : va_G) (ct : Nat → ClassId) (S : ty_S) (ws : va_W) (ph : va_W → Prop) (xx : Nat → Nat → Nat → Prop) (h0 : Nat) (p1 : Int32) (p2 : Nat) (sz : Nat) (hT : ty_V ct S ph ws) (h_h0 : S h0 = some (.inl 0)) (h_p2 : S p2 = some (.inl 7)) (hph : ty_C ph xx) (hy1 : ty_y1 xx) : Met l yX0_passCurrent (ws_ yX0_passCurrent cX0_passCurrent 3 none) ({ frames := 2, cells := 0, slots := 0, locals := 49 } : Room) (va_Pc [.ref h0, .int p1, .ref p2] (cmP D ct sz ([] ++ ws))) (va_Qv (fun (u9 : va_W) => ty_V ct S ph u9) (cmB D ([] ++ ws) sz (fun (u9 : va_W) => ([] ++ u9))) (va_A ([] ++ ws) sz)) 0 0 (va_A ([] ++ ws) sz) := by
  refine Met.ofW (cc := cX0_passCurrent) (maxL := 3) (ret := none) (by decide) rfl ?_
  intro p e s m args below meth c s₁ B hml hv
  obtain ⟨rfl, hsz, hP, hK, hD0, hX⟩ := hv
  have hx := B.exec
  have hb := B.bytes
  have hr := B.returns
  have hts := ws_all (atoms_spec (ws := ws_ yX0_passCurrent cX0_passCurrent 3 none) B.pre)
  have hown : s.vm.findClass RX0 = some m.cls := findClass_of_methodNamed B.named
  have hlocks := B.notSynchronized
  subst hsz
  have hD := hD0.self (sz := s.heap.size)
  generalize hAe : va_A ([] ++ ws) s.heap.size = A at hD hX ⊢
  have hA : ∀ q : Nat, s.heap.size ≤ q → A q := fun q h => by rw [← hAe]; exact Or.inr h
  have hS : va_S A s.heap s.heap [] := va_S.rf
  have hl := lv_entry ([.ref h0, .int p1, .ref p2]) (n := 3) (Nat.le_of_ble_eq_true rfl)
  rw [lg_entry_eq]
  generalize (lg_sl ([.ref h0, .int p1, .ref p2]) ++ List.replicate (3 - (lg_sl ([.ref h0, .int p1, .ref p2])).length) Slot.unset).toArray = ls at hl ⊢
  have hl : lv_has ls 3 [(0, .ref h0), (1, .int p1), (2, .ref p2)] := hl
  refine lv_aload_n hx hb dX0_passCurrent_0 rfl (lv_at hl 0 rfl) ?_
  refine lv_iload_n hx hb dX0_passCurrent_1 rfl (lv_at hl 1 rfl) ?_
  refine ty_kv (wr := []) (wc := ([] ++ ws)) (va_runV (As := [.int p1]) (rest := []) ⟨hx, hb, hml, hown, hts⟩ (t_X0_polarize l D ct S ws ph xx h0 p1 _ hT h_h0 hph hy1) (cm_V 1 hts kc_X0_polarize ki_RX0 kl_RX0_108 kv_X0_polarize kx_X0_polarize kd_X0_polarize ⟨Nat.le_of_ble_eq_true rfl, Nat.le_of_ble_eq_true rfl⟩) (ty_preV (wr := []) (E := []) (ws := ws) (ci := 0) hP hK hD hS hA hX hT rfl h_h0) rfl rfl hl.1 rfl (lv_room (Nat.le_of_ble_eq_true rfl)) dX0_passCurrent_2 ⟨Nat.le_of_ble_eq_true rfl, Nat.le_of_ble_eq_true rfl⟩) hP hD hS hA (fun u H locs hw_2 hP hD hS => ?_)
  obtain ⟨ws_3, rfl⟩ : ∃ z, z = u := ⟨_, rfl⟩
  have hT := hw_2
  have hP : va_P D vwCl ([] ++ ws_3) H := hP
  have hD : va_D A ([] ++ ws_3) := hD
  refine lv_aload_n hx hb dX0_passCurrent_5 rfl (lv_at hl 0 rfl) ?_
  refine lv_iload_n hx hb dX0_passCurrent_6 rfl (lv_at hl 1 rfl) ?_
  refine lv_aload_n hx hb dX0_passCurrent_7 rfl (lv_at hl 2 rfl) ?_
  refine ty_kv (wr := []) (wc := ([] ++ ws_3)) (va_runV (As := [.int p1, .ref p2]) (rest := []) ⟨hx, hb, hml, hown, hts⟩ (t_X0_moveCharge l D ct S ws_3 ph xx h0 p1 p2 _ hT h_h0 h_p2 hph hy1) (cm_V 2 hts kc_X0_moveCharge ki_RX0 kl_RX0_112 kv_X0_moveCharge kx_X0_moveCharge kd_X0_moveCharge ⟨Nat.le_of_ble_eq_true rfl, Nat.le_of_ble_eq_true rfl⟩) (ty_preV (wr := []) (E := []) (ws := ws_3) (ci := 0) hP hK hD hS hA hX hT rfl h_h0) rfl rfl hl.1 rfl (lv_room (Nat.le_of_ble_eq_true rfl)) dX0_passCurrent_8 ⟨Nat.le_of_ble_eq_true rfl, Nat.le_of_ble_eq_true rfl⟩) hP hD hS hA (fun u H locs hw_5 hP hD hS => ?_)
  obtain ⟨ws_6, rfl⟩ : ∃ z, z = u := ⟨_, rfl⟩
  have hT := hw_5
  have hP : va_P D vwCl ([] ++ ws_6) H := hP
  have hD : va_D A ([] ++ ws_6) := hD
  refine lv_aload_n hx hb dX0_passCurrent_11 rfl (lv_at hl 0 rfl) ?_
  refine lv_iload_n hx hb dX0_passCurrent_12 rfl (lv_at hl 1 rfl) ?_
  refine lv_aload_n hx hb dX0_passCurrent_13 rfl (lv_at hl 2 rfl) ?_
  refine ty_kv (wr := []) (wc := ([] ++ ws_6)) (va_runV (As := [.int p1, .ref p2]) (rest := []) ⟨hx, hb, hml, hown, hts⟩ (t_X0_wear l D ct S ws_6 ph xx h0 p1 p2 _ hT h_h0 h_p2 hph hy1) (cm_V 2 hts kc_X0_wear ki_RX0 kl_RX0_116 kv_X0_wear kx_X0_wear kd_X0_wear ⟨Nat.le_of_ble_eq_true rfl, Nat.le_of_ble_eq_true rfl⟩) (ty_preV (wr := []) (E := []) (ws := ws_6) (ci := 0) hP hK hD hS hA hX hT rfl h_h0) rfl rfl hl.1 rfl (lv_room (Nat.le_of_ble_eq_true rfl)) dX0_passCurrent_14 ⟨Nat.le_of_ble_eq_true rfl, Nat.le_of_ble_eq_true rfl⟩) hP hD hS hA (fun u H locs hw_8 hP hD hS => ?_)
  obtain ⟨ws_9, rfl⟩ : ∃ z, z = u := ⟨_, rfl⟩
  have hT := hw_8
  have hP : va_P D vwCl ([] ++ ws_9) H := hP
  have hD : va_D A ([] ++ ws_9) := hD
  refine lv_aload_n hx hb dX0_passCurrent_17 rfl (lv_at hl 0 rfl) ?_
  refine lv_iload_n hx hb dX0_passCurrent_18 rfl (lv_at hl 1 rfl) ?_
  refine lv_aload_n hx hb dX0_passCurrent_19 rfl (lv_at hl 2 rfl) ?_
  refine ty_kv (wr := []) (wc := ([] ++ ws_9)) (va_runV (As := [.int p1, .ref p2]) (rest := []) ⟨hx, hb, hml, hown, hts⟩ (t_X0_warm l D ct S ws_9 ph xx h0 p1 p2 _ hT h_h0 h_p2 hph hy1) (cm_V 2 hts kc_X0_warm ki_RX0 kl_RX0_119 kv_X0_warm kx_X0_warm kd_X0_warm ⟨Nat.le_of_ble_eq_true rfl, Nat.le_of_ble_eq_true rfl⟩) (ty_preV (wr := []) (E := []) (ws := ws_9) (ci := 0) hP hK hD hS hA hX hT rfl h_h0) rfl rfl hl.1 rfl (lv_room (Nat.le_of_ble_eq_true rfl)) dX0_passCurrent_20 ⟨Nat.le_of_ble_eq_true rfl, Nat.le_of_ble_eq_true rfl⟩) hP hD hS hA (fun u H locs hw_11 hP hD hS => ?_)
  obtain ⟨ws_12, rfl⟩ : ∃ z, z = u := ⟨_, rfl⟩
  have hT := hw_11
  have hP : va_P D vwCl ([] ++ ws_12) H := hP
  have hD : va_D A ([] ++ ws_12) := hD
  refine lv_aload_n hx hb dX0_passCurrent_23 rfl (lv_at hl 0 rfl) ?_
  refine lv_iload_n hx hb dX0_passCurrent_24 rfl (lv_at hl 1 rfl) ?_
  refine ty_put (v := .int p1) (ty := .int) (E := []) (ws := ws_12) (D := D) (ci := 0) (C := RX0) (T := TX0) (N := 16) hx hb hts in_X0 tyX0 tyX0_ok nmX0 hown hK hP hD hS hT h_h0 rfl 13 (by decide) (hts _ kl_RX0_66) (fun _ h9 => h9) rfl (by decide +kernel) rfl rfl rfl ⟨_, rfl⟩ dX0_passCurrent_25 hph (hy1 0 13 h0 rfl) (fun ws_13 H locs hT hP hD hS => ?_)
  refine lv_aload_n hx hb dX0_passCurrent_28 rfl (lv_at hl 0 rfl) ?_
  refine lv_aload_n hx hb dX0_passCurrent_29 rfl (lv_at hl 0 rfl) ?_
  refine lv_aload_n hx hb dX0_passCurrent_30 rfl (lv_at hl 0 rfl) ?_
  refine ty_get (E := []) (ws := ws_13) (D := D) (ci := 0) (C := RX0) (T := TX0) (N := 16) hx hb hts in_X0 hown hK hP hT h_h0 rfl 6 (by decide) (hts _ kl_RX0_42) (fun _ h9 => h9) rfl dX0_passCurrent_31 (fun _ hv_14 hf_15 => ?_)
  obtain ⟨x_16, rfl⟩ := hv_14
  refine ty_ki (wr := []) (wc := ([] ++ ws_13)) (va_runV (As := [.int x_16]) (rest := [.ref h0]) ⟨hx, hb, hml, hown, hts⟩ (t_X0_restVoltageAt l D ct S ws_13 ph xx h0 x_16 _ hT h_h0 hph hy1) (cm_V 1 hts kc_X0_restVoltageAt ki_RX0 kl_RX0_84 kv_X0_restVoltageAt kx_X0_restVoltageAt kd_X0_restVoltageAt ⟨Nat.le_of_ble_eq_true rfl, Nat.le_of_ble_eq_true rfl⟩) (ty_preV (wr := []) (E := []) (ws := ws_13) (ci := 0) hP hK hD hS hA hX hT rfl h_h0) rfl rfl hl.1 rfl (lv_room (Nat.le_of_ble_eq_true rfl)) dX0_passCurrent_34 ⟨Nat.le_of_ble_eq_true rfl, Nat.le_of_ble_eq_true rfl⟩) hP hD hS hA (fun r_17 u H locs hw_18 hP hD hS => ?_)
  obtain ⟨ws_19, rfl⟩ : ∃ z, z = u := ⟨_, rfl⟩
  have hT := hw_18
  have hP : va_P D vwCl ([] ++ ws_19) H := hP
  have hD : va_D A ([] ++ ws_19) := hD
  refine lv_iload_n hx hb dX0_passCurrent_37 rfl (lv_at hl 1 rfl) ?_
  refine lv_aload_n hx hb dX0_passCurrent_38 rfl (lv_at hl 0 rfl) ?_
  refine ty_get (E := []) (ws := ws_19) (D := D) (ci := 0) (C := RX0) (T := TX0) (N := 16) hx hb hts in_X0 hown hK hP hT h_h0 rfl 3 (by decide) (hts _ kl_RX0_90) (fun _ h9 => h9) rfl dX0_passCurrent_39 (fun _ hv_20 hf_21 => ?_)
  obtain ⟨x_22, rfl⟩ := hv_20
  refine lv_imul hx hb dX0_passCurrent_42 ?_
  refine lv_topi (fun x_23 _ => ?_)
  refine lv_sipush (v := 1000) hx hb dX0_passCurrent_43 (by decide) ?_
  refine lv_idiv hx hb dX0_passCurrent_46 (by decide) ?_
  refine lv_topi (fun x_24 _ => ?_)
  refine lv_iadd hx hb dX0_passCurrent_47 ?_
  refine lv_topi (fun x_25 _ => ?_)
  refine lv_aload_n hx hb dX0_passCurrent_48 rfl (lv_at hl 0 rfl) ?_
  refine ty_get (E := []) (ws := ws_19) (D := D) (ci := 0) (C := RX0) (T := TX0) (N := 16) hx hb hts in_X0 hown hK hP hT h_h0 rfl 10 (by decide) (hts _ kl_RX0_57) (fun _ h9 => h9) rfl dX0_passCurrent_49 (fun _ hv_26 hf_27 => ?_)
  obtain ⟨x_28, rfl⟩ := hv_26
  refine lv_iadd hx hb dX0_passCurrent_52 ?_
  refine lv_topi (fun x_29 _ => ?_)
  refine ty_put (v := .int x_29) (ty := .int) (E := []) (ws := ws_19) (D := D) (ci := 0) (C := RX0) (T := TX0) (N := 16) hx hb hts in_X0 tyX0 tyX0_ok nmX0 hown hK hP hD hS hT h_h0 rfl 14 (by decide) (hts _ kl_RX0_69) (fun _ h9 => h9) rfl (by decide +kernel) rfl rfl rfl ⟨_, rfl⟩ dX0_passCurrent_53 hph (hy1 0 14 h0 rfl) (fun ws_30 H locs hT hP hD hS => ?_)
  refine lv_iload_n hx hb dX0_passCurrent_56 rfl (lv_at hl 1 rfl) ?_
  refine lv_if_le (tgt := 83) hx hb dX0_passCurrent_57 (by decide) (fun hc_31 => ?_) (fun hc_31 => ?_)
  · refine lv_aload_n hx hb dX0_passCurrent_83 rfl (lv_at hl 0 rfl) ?_
    refine ty_get (E := []) (ws := ws_30) (D := D) (ci := 0) (C := RX0) (T := TX0) (N := 16) hx hb hts in_X0 hown hK hP hT h_h0 rfl 15 (by decide) (hts _ kl_RX0_18) (fun _ h9 => h9) rfl dX0_passCurrent_84 (fun _ hv_32 hf_33 => ?_)
    obtain ⟨a_34, rfl, ha_35⟩ := hv_32
    refine lv_dup hx hb dX0_passCurrent_87 rfl ?_
    refine ty_getN (E := []) (ws := ws_30) (D := D) (ci := 3) (C := RX3) (T := TX3) (N := 4) hx hb hts in_X3 hown hK hP hT ha_35 rfl 3 (by decide) (hts _ kl_RX0_126) (fun _ h9 => h9) rfl dX0_passCurrent_88 (fun _ hv_36 hf_37 => ?_)
    obtain ⟨x_38, rfl⟩ := hv_36
    refine lv_iload_n hx hb dX0_passCurrent_91 rfl (lv_at hl 1 rfl) ?_
    refine lv_i2l hx hb dX0_passCurrent_92 rfl ?_
    refine lv_topl (fun x_39 _ => ?_)
    refine lv_lneg hx hb dX0_passCurrent_93 ?_
    refine lv_topl (fun x_40 _ => ?_)
    refine lv_aload_n hx hb dX0_passCurrent_94 rfl (lv_at hl 0 rfl) ?_
    refine ty_get (E := []) (ws := ws_30) (D := D) (ci := 0) (C := RX0) (T := TX0) (N := 16) hx hb hts in_X0 hown hK hP hT h_h0 rfl 14 (by decide) (hts _ kl_RX0_69) (fun _ h9 => h9) rfl dX0_passCurrent_95 (fun _ hv_41 hf_42 => ?_)
    obtain ⟨x_43, rfl⟩ := hv_41
    refine lv_i2l hx hb dX0_passCurrent_98 rfl ?_
    refine lv_topl (fun x_44 _ => ?_)
    refine lv_lmul hx hb dX0_passCurrent_99 ?_
    refine lv_topl (fun x_45 _ => ?_)
    refine lv_ladd hx hb dX0_passCurrent_100 ?_
    refine lv_topl (fun x_46 _ => ?_)
    refine ty_putN (v := .long x_46) (ty := .long) (E := []) (ws := ws_30) (D := D) (ci := 3) (C := RX3) (T := TX3) (N := 4) hx hb hts in_X3 tyX3 tyX3_ok nmX3 hown hK hP hD hS hT ha_35 rfl 3 (by decide) (hts _ kl_RX0_126) (fun _ h9 => h9) rfl (by decide +kernel) rfl rfl rfl ⟨_, rfl⟩ dX0_passCurrent_101 hph (hy1 3 3 a_34 rfl) (fun ws_47 H locs hT hP hD hS => ?_)
    exact W.vret hx hb hr (fun t ht hW => ⟨⟨ws_47, rfl, hT, by rw [ht]; exact hP, by rw [hAe]; exact hD⟩, hS.F ht⟩) hS.2.2 dX0_passCurrent_104
  · refine lv_aload_n hx hb dX0_passCurrent_60 rfl (lv_at hl 0 rfl) ?_
    refine ty_get (E := []) (ws := ws_30) (D := D) (ci := 0) (C := RX0) (T := TX0) (N := 16) hx hb hts in_X0 hown hK hP hT h_h0 rfl 15 (by decide) (hts _ kl_RX0_18) (fun _ h9 => h9) rfl dX0_passCurrent_61 (fun _ hv_48 hf_49 => ?_)
    obtain ⟨a_50, rfl, ha_51⟩ := hv_48
    refine lv_dup hx hb dX0_passCurrent_64 rfl ?_
    refine ty_getN (E := []) (ws := ws_30) (D := D) (ci := 3) (C := RX3) (T := TX3) (N := 4) hx hb hts in_X3 hown hK hP hT ha_51 rfl 2 (by decide) (hts _ kl_RX0_122) (fun _ h9 => h9) rfl dX0_passCurrent_65 (fun _ hv_52 hf_53 => ?_)
    obtain ⟨x_54, rfl⟩ := hv_52
    refine lv_iload_n hx hb dX0_passCurrent_68 rfl (lv_at hl 1 rfl) ?_
    refine lv_i2l hx hb dX0_passCurrent_69 rfl ?_
    refine lv_topl (fun x_55 _ => ?_)
    refine lv_aload_n hx hb dX0_passCurrent_70 rfl (lv_at hl 0 rfl) ?_
    refine ty_get (E := []) (ws := ws_30) (D := D) (ci := 0) (C := RX0) (T := TX0) (N := 16) hx hb hts in_X0 hown hK hP hT h_h0 rfl 14 (by decide) (hts _ kl_RX0_69) (fun _ h9 => h9) rfl dX0_passCurrent_71 (fun _ hv_56 hf_57 => ?_)
    obtain ⟨x_58, rfl⟩ := hv_56
    refine lv_i2l hx hb dX0_passCurrent_74 rfl ?_
    refine lv_topl (fun x_59 _ => ?_)
    refine lv_lmul hx hb dX0_passCurrent_75 ?_
    refine lv_topl (fun x_60 _ => ?_)
    refine lv_ladd hx hb dX0_passCurrent_76 ?_
    refine lv_topl (fun x_61 _ => ?_)
    refine ty_putN (v := .long x_61) (ty := .long) (E := []) (ws := ws_30) (D := D) (ci := 3) (C := RX3) (T := TX3) (N := 4) hx hb hts in_X3 tyX3 tyX3_ok nmX3 hown hK hP hD hS hT ha_51 rfl 2 (by decide) (hts _ kl_RX0_122) (fun _ h9 => h9) rfl (by decide +kernel) rfl rfl rfl ⟨_, rfl⟩ dX0_passCurrent_77 hph (hy1 3 2 a_50 rfl) (fun ws_62 H locs hT hP hD hS => ?_)
    refine lv_goto (tgt := 104) hx hb dX0_passCurrent_80 (by decide) ?_
    exact W.vret hx hb hr (fun t ht hW => ⟨⟨ws_62, rfl, hT, by rw [ht]; exact hP, by rw [hAe]; exact hD⟩, hS.F ht⟩) hS.2.2 dX0_passCurrent_104
theorem dX1_insertCell_0 : decode cX1_insertCell 0 = .ok (.aload_n 0, 1) := by decide +kernel
theorem dX1_insertCell_1 : decode cX1_insertCell 1 = .ok (.getfield 18, 3) := by decide +kernel
theorem dX1_insertCell_4 : decode cX1_insertCell 4 = .ok (.iload_n 1, 1) := by decide +kernel
theorem dX1_insertCell_5 : decode cX1_insertCell 5 = .ok (.iload_n 2, 1) := by decide +kernel
theorem dX1_insertCell_6 : decode cX1_insertCell 6 = .ok (.invokevirtual 36, 3) := by decide +kernel
theorem dX1_insertCell_9 : decode cX1_insertCell 9 = .ok (.aload_n 0, 1) := by decide +kernel
theorem dX1_insertCell_10 : decode cX1_insertCell 10 = .ok (.getfield 25, 3) := by decide +kernel
theorem dX1_insertCell_13 : decode cX1_insertCell 13 = .ok (.invokevirtual 40, 3) := by decide +kernel
theorem dX1_insertCell_16 : decode cX1_insertCell 16 = .ok (.aload_n 0, 1) := by decide +kernel
theorem dX1_insertCell_17 : decode cX1_insertCell 17 = .ok (.iconst 0, 1) := by decide +kernel
theorem dX1_insertCell_18 : decode cX1_insertCell 18 = .ok (.putfield 43, 3) := by decide +kernel
theorem dX1_insertCell_21 : decode cX1_insertCell 21 = .ok (.aload_n 0, 1) := by decide +kernel
theorem dX1_insertCell_22 : decode cX1_insertCell 22 = .ok (.iconst (-1), 1) := by decide +kernel
theorem dX1_insertCell_23 : decode cX1_insertCell 23 = .ok (.putfield 46, 3) := by decide +kernel
theorem dX1_insertCell_26 : decode cX1_insertCell 26 = .ok (.aload_n 0, 1) := by decide +kernel
theorem dX1_insertCell_27 : decode cX1_insertCell 27 = .ok (.iconst 0, 1) := by decide +kernel
theorem dX1_insertCell_28 : decode cX1_insertCell 28 = .ok (.putfield 49, 3) := by decide +kernel
theorem dX1_insertCell_31 : decode cX1_insertCell 31 = .ok (.aload_n 0, 1) := by decide +kernel
theorem dX1_insertCell_32 : decode cX1_insertCell 32 = .ok (.iconst 0, 1) := by decide +kernel
theorem dX1_insertCell_33 : decode cX1_insertCell 33 = .ok (.putfield 52, 3) := by decide +kernel
theorem dX1_insertCell_36 : decode cX1_insertCell 36 = .ok (.aload_n 0, 1) := by decide +kernel
theorem dX1_insertCell_37 : decode cX1_insertCell 37 = .ok (.getfield 29, 3) := by decide +kernel
theorem dX1_insertCell_40 : decode cX1_insertCell 40 = .ok (.invokestatic 55, 3) := by decide +kernel
theorem dX1_insertCell_43 : decode cX1_insertCell 43 = .ok (.aload_n 0, 1) := by decide +kernel
theorem dX1_insertCell_44 : decode cX1_insertCell 44 = .ok (.iconst 0, 1) := by decide +kernel
theorem dX1_insertCell_45 : decode cX1_insertCell 45 = .ok (.putfield 59, 3) := by decide +kernel
theorem dX1_insertCell_48 : decode cX1_insertCell 48 = .ok (.aload_n 0, 1) := by decide +kernel
theorem dX1_insertCell_49 : decode cX1_insertCell 49 = .ok (.lconst 0, 1) := by decide +kernel
theorem dX1_insertCell_50 : decode cX1_insertCell 50 = .ok (.putfield 62, 3) := by decide +kernel
theorem dX1_insertCell_53 : decode cX1_insertCell 53 = .ok (.aload_n 0, 1) := by decide +kernel
theorem dX1_insertCell_54 : decode cX1_insertCell 54 = .ok (.lconst 0, 1) := by decide +kernel
theorem dX1_insertCell_55 : decode cX1_insertCell 55 = .ok (.putfield 66, 3) := by decide +kernel
theorem dX1_insertCell_58 : decode cX1_insertCell 58 = .ok (.aload_n 0, 1) := by decide +kernel
theorem dX1_insertCell_59 : decode cX1_insertCell 59 = .ok (.iconst 0, 1) := by decide +kernel
theorem dX1_insertCell_60 : decode cX1_insertCell 60 = .ok (.putfield 69, 3) := by decide +kernel
theorem dX1_insertCell_63 : decode cX1_insertCell 63 = .ok (.aload_n 0, 1) := by decide +kernel
theorem dX1_insertCell_64 : decode cX1_insertCell 64 = .ok (.lconst 0, 1) := by decide +kernel
theorem dX1_insertCell_65 : decode cX1_insertCell 65 = .ok (.putfield 73, 3) := by decide +kernel
theorem dX1_insertCell_68 : decode cX1_insertCell 68 = .ok (.return_, 1) := by decide +kernel
set_option maxRecDepth 100000 in
set_option maxHeartbeats 4000000 in
theorem t_X1_insertCell (l : Launch) (D : va_G) (ct : Nat → ClassId) (S : ty_S) (ws : va_W) (ph : va_W → Prop) (xx : Nat → Nat → Nat → Prop) (h0 : Nat) (p1 : Int32) (p2 : Int32) (sz : Nat) (hT : ty_V ct S ph ws) (h_h0 : S h0 = some (.inl 1)) (hph : ty_C ph xx) (hy1 : ty_y1 xx) : Met l yX1_insertCell (ws_ yX1_insertCell cX1_insertCell 3 none) ({ frames := 2, cells := 0, slots := 0, locals := 42 } : Room) (va_Pc [.ref h0, .int p1, .int p2] (cmP D ct sz ([] ++ ws))) (va_Qv (fun (u9 : va_W) => ty_V ct S ph u9) (cmB D ([] ++ ws) sz (fun (u9 : va_W) => ([] ++ u9))) (va_A ([] ++ ws) sz)) 0 0 (va_A ([] ++ ws) sz) := by
  refine Met.ofW (cc := cX1_insertCell) (maxL := 3) (ret := none) (by decide) rfl ?_
  intro p e s m args below meth c s₁ B hml hv
  obtain ⟨rfl, hsz, hP, hK, hD0, hX⟩ := hv
  have hx := B.exec
  have hb := B.bytes
  have hr := B.returns
  have hts := ws_all (atoms_spec (ws := ws_ yX1_insertCell cX1_insertCell 3 none) B.pre)
  have hown : s.vm.findClass RX1 = some m.cls := findClass_of_methodNamed B.named
  have hlocks := B.notSynchronized
  subst hsz
  have hD := hD0.self (sz := s.heap.size)
  generalize hAe : va_A ([] ++ ws) s.heap.size = A at hD hX ⊢
  have hA : ∀ q : Nat, s.heap.size ≤ q → A q := fun q h => by rw [← hAe]; exact Or.inr h
  have hS : va_S A s.heap s.heap [] := va_S.rf
  have hl := lv_entry ([.ref h0, .int p1, .int p2]) (n := 3) (Nat.le_of_ble_eq_true rfl)
  rw [lg_entry_eq]
  generalize (lg_sl ([.ref h0, .int p1, .int p2]) ++ List.replicate (3 - (lg_sl ([.ref h0, .int p1, .int p2])).length) Slot.unset).toArray = ls at hl ⊢
  have hl : lv_has ls 3 [(0, .ref h0), (1, .int p1), (2, .int p2)] := hl
  refine lv_aload_n hx hb dX1_insertCell_0 rfl (lv_at hl 0 rfl) ?_
  refine ty_get (E := []) (ws := ws) (D := D) (ci := 1) (C := RX1) (T := TX1) (N := 14) hx hb hts in_X1 hown hK hP hT h_h0 rfl 1 (by decide) (hts _ kl_RX1_18) (fun _ h9 => h9) rfl dX1_insertCell_1 (fun _ hv_1 hf_2 => ?_)
  obtain ⟨a_3, rfl, ha_4⟩ := hv_1
  refine lv_iload_n hx hb dX1_insertCell_4 rfl (lv_at hl 1 rfl) ?_
  refine lv_iload_n hx hb dX1_insertCell_5 rfl (lv_at hl 2 rfl) ?_
  refine ty_kv (wr := []) (wc := ([] ++ ws)) (va_runVN (As := [.int p1, .int p2]) (rest := []) ⟨hx, hb, hml, hown, hts⟩ (t_X0_renew l D ct S ws ph xx a_3 p1 p2 _ hT ha_4 hph hy1) (cm_VN 2 hts kc_X0_renew ki_RX0 kl_RX1_36 kv_X0_renew kx_X0_renew kd_X0_renew ⟨Nat.le_of_ble_eq_true rfl, Nat.le_of_ble_eq_true rfl⟩) (ty_preV (wr := []) (E := []) (ws := ws) (ci := 0) hP hK hD hS hA hX hT rfl ha_4) rfl rfl hl.1 rfl (lv_room (Nat.le_of_ble_eq_true rfl)) dX1_insertCell_6 ⟨Nat.le_of_ble_eq_true rfl, Nat.le_of_ble_eq_true rfl⟩) hP hD hS hA (fun u H locs hw_6 hP hD hS => ?_)
  obtain ⟨ws_7, rfl⟩ : ∃ z, z = u := ⟨_, rfl⟩
  have hT := hw_6
  have hP : va_P D vwCl ([] ++ ws_7) H := hP
  have hD : va_D A ([] ++ ws_7) := hD
  refine lv_aload_n hx hb dX1_insertCell_9 rfl (lv_at hl 0 rfl) ?_
  refine ty_get (E := []) (ws := ws_7) (D := D) (ci := 1) (C := RX1) (T := TX1) (N := 14) hx hb hts in_X1 hown hK hP hT h_h0 rfl 2 (by decide) (hts _ kl_RX1_25) (fun _ h9 => h9) rfl dX1_insertCell_10 (fun _ hv_8 hf_9 => ?_)
  obtain ⟨a_10, rfl, ha_11⟩ := hv_8
  refine ty_kv (wr := []) (wc := ([] ++ ws_7)) (va_runVN (As := []) (rest := []) ⟨hx, hb, hml, hown, hts⟩ (t_X4_clear l D ct S ws_7 ph xx a_10 _ hT ha_11 hph hy1) (cm_VN 0 hts kc_X4_clear ki_RX4 kl_RX1_40 kv_X4_clear kx_X4_clear kd_X4_clear ⟨Nat.le_of_ble_eq_true rfl, Nat.le_of_ble_eq_true rfl⟩) (ty_preV (wr := []) (E := []) (ws := ws_7) (ci := 4) hP hK hD hS hA hX hT rfl ha_11) rfl rfl hl.1 rfl (lv_room (Nat.le_of_ble_eq_true rfl)) dX1_insertCell_13 ⟨Nat.le_of_ble_eq_true rfl, Nat.le_of_ble_eq_true rfl⟩) hP hD hS hA (fun u H locs hw_13 hP hD hS => ?_)
  obtain ⟨ws_14, rfl⟩ : ∃ z, z = u := ⟨_, rfl⟩
  have hT := hw_13
  have hP : va_P D vwCl ([] ++ ws_14) H := hP
  have hD : va_D A ([] ++ ws_14) := hD
  refine lv_aload_n hx hb dX1_insertCell_16 rfl (lv_at hl 0 rfl) ?_
  refine lv_iconst (v := 0) hx hb dX1_insertCell_17 (by decide) ?_
  refine ty_put (v := .int 0) (ty := .int) (E := []) (ws := ws_14) (D := D) (ci := 1) (C := RX1) (T := TX1) (N := 14) hx hb hts in_X1 tyX1 tyX1_ok nmX1 hown hK hP hD hS hT h_h0 rfl 3 (by decide) (hts _ kl_RX1_43) (fun _ h9 => h9) rfl (by decide +kernel) rfl rfl rfl ⟨_, rfl⟩ dX1_insertCell_18 hph (hy1 1 3 h0 rfl) (fun ws_15 H locs hT hP hD hS => ?_)
  refine lv_aload_n hx hb dX1_insertCell_21 rfl (lv_at hl 0 rfl) ?_
  refine lv_iconst (v := (-1)) hx hb dX1_insertCell_22 (by decide) ?_
  refine ty_put (v := .int (-1)) (ty := .int) (E := []) (ws := ws_15) (D := D) (ci := 1) (C := RX1) (T := TX1) (N := 14) hx hb hts in_X1 tyX1 tyX1_ok nmX1 hown hK hP hD hS hT h_h0 rfl 4 (by decide) (hts _ kl_RX1_46) (fun _ h9 => h9) rfl (by decide +kernel) rfl rfl rfl ⟨_, rfl⟩ dX1_insertCell_23 hph (hy1 1 4 h0 rfl) (fun ws_16 H locs hT hP hD hS => ?_)
  refine lv_aload_n hx hb dX1_insertCell_26 rfl (lv_at hl 0 rfl) ?_
  refine lv_iconst (v := 0) hx hb dX1_insertCell_27 (by decide) ?_
  refine ty_put (v := .int 0) (ty := .int) (E := []) (ws := ws_16) (D := D) (ci := 1) (C := RX1) (T := TX1) (N := 14) hx hb hts in_X1 tyX1 tyX1_ok nmX1 hown hK hP hD hS hT h_h0 rfl 5 (by decide) (hts _ kl_RX1_49) (fun _ h9 => h9) rfl (by decide +kernel) rfl rfl rfl ⟨_, rfl⟩ dX1_insertCell_28 hph (hy1 1 5 h0 rfl) (fun ws_17 H locs hT hP hD hS => ?_)
  refine lv_aload_n hx hb dX1_insertCell_31 rfl (lv_at hl 0 rfl) ?_
  refine lv_iconst (v := 0) hx hb dX1_insertCell_32 (by decide) ?_
  refine ty_put (v := .int 0) (ty := .int) (E := []) (ws := ws_17) (D := D) (ci := 1) (C := RX1) (T := TX1) (N := 14) hx hb hts in_X1 tyX1 tyX1_ok nmX1 hown hK hP hD hS hT h_h0 rfl 6 (by decide) (hts _ kl_RX1_52) (fun _ h9 => h9) rfl (by decide +kernel) rfl rfl rfl ⟨_, rfl⟩ dX1_insertCell_33 hph (hy1 1 6 h0 rfl) (fun ws_18 H locs hT hP hD hS => ?_)
  refine lv_aload_n hx hb dX1_insertCell_36 rfl (lv_at hl 0 rfl) ?_
  refine ty_get (E := []) (ws := ws_18) (D := D) (ci := 1) (C := RX1) (T := TX1) (N := 14) hx hb hts in_X1 hown hK hP hT h_h0 rfl 7 (by decide) (hts _ kl_RX1_29) (fun _ h9 => h9) rfl dX1_insertCell_37 (fun _ hv_19 hf_20 => ?_)
  obtain ⟨a_21, n_22, rfl, ha_23⟩ := hv_19
  refine ty_kv (wr := []) (wc := ([] ++ ws_18)) (va_runSN (As := [.ref a_21]) (rest := []) ⟨hx, hb, hml, hown, hts⟩ (t_X10_clearRow l D ct S ws_18 ph xx a_21 n_22 _ hT ha_23 hph hy1) (cm_SN 1 hts kc_X10_clearRow ki_RX10 kl_RX1_55 ks_X10_clearRow kd_X10_clearRow ⟨Nat.le_of_ble_eq_true rfl, Nat.le_of_ble_eq_true rfl⟩) (ty_preS (wr := []) (wc := ([] ++ ws_18)) hP hK hD hS hA hX) rfl rfl hl.1 rfl (lv_room (Nat.le_of_ble_eq_true rfl)) dX1_insertCell_40 ⟨Nat.le_of_ble_eq_true rfl, Nat.le_of_ble_eq_true rfl⟩) hP hD hS hA (fun u H locs hw_25 hP hD hS => ?_)
  obtain ⟨ws_26, rfl⟩ : ∃ z, z = u := ⟨_, rfl⟩
  have hT := hw_25
  have hP : va_P D vwCl ([] ++ ws_26) H := hP
  have hD : va_D A ([] ++ ws_26) := hD
  refine lv_aload_n hx hb dX1_insertCell_43 rfl (lv_at hl 0 rfl) ?_
  refine lv_iconst (v := 0) hx hb dX1_insertCell_44 (by decide) ?_
  refine ty_put (v := .int 0) (ty := .int) (E := []) (ws := ws_26) (D := D) (ci := 1) (C := RX1) (T := TX1) (N := 14) hx hb hts in_X1 tyX1 tyX1_ok nmX1 hown hK hP hD hS hT h_h0 rfl 9 (by decide) (hts _ kl_RX1_59) (fun _ h9 => h9) rfl (by decide +kernel) rfl rfl rfl ⟨_, rfl⟩ dX1_insertCell_45 hph (hy1 1 9 h0 rfl) (fun ws_27 H locs hT hP hD hS => ?_)
  refine lv_aload_n hx hb dX1_insertCell_48 rfl (lv_at hl 0 rfl) ?_
  refine lv_lconst (v := 0) hx hb dX1_insertCell_49 (by decide) ?_
  refine ty_put (v := .long 0) (ty := .long) (E := []) (ws := ws_27) (D := D) (ci := 1) (C := RX1) (T := TX1) (N := 14) hx hb hts in_X1 tyX1 tyX1_ok nmX1 hown hK hP hD hS hT h_h0 rfl 10 (by decide) (hts _ kl_RX1_62) (fun _ h9 => h9) rfl (by decide +kernel) rfl rfl rfl ⟨_, rfl⟩ dX1_insertCell_50 hph (hy1 1 10 h0 rfl) (fun ws_28 H locs hT hP hD hS => ?_)
  refine lv_aload_n hx hb dX1_insertCell_53 rfl (lv_at hl 0 rfl) ?_
  refine lv_lconst (v := 0) hx hb dX1_insertCell_54 (by decide) ?_
  refine ty_put (v := .long 0) (ty := .long) (E := []) (ws := ws_28) (D := D) (ci := 1) (C := RX1) (T := TX1) (N := 14) hx hb hts in_X1 tyX1 tyX1_ok nmX1 hown hK hP hD hS hT h_h0 rfl 11 (by decide) (hts _ kl_RX1_66) (fun _ h9 => h9) rfl (by decide +kernel) rfl rfl rfl ⟨_, rfl⟩ dX1_insertCell_55 hph (hy1 1 11 h0 rfl) (fun ws_29 H locs hT hP hD hS => ?_)
  refine lv_aload_n hx hb dX1_insertCell_58 rfl (lv_at hl 0 rfl) ?_
  refine lv_iconst (v := 0) hx hb dX1_insertCell_59 (by decide) ?_
  refine ty_put (v := .int 0) (ty := .boolean) (E := []) (ws := ws_29) (D := D) (ci := 1) (C := RX1) (T := TX1) (N := 14) hx hb hts in_X1 tyX1 tyX1_ok nmX1 hown hK hP hD hS hT h_h0 rfl 12 (by decide) (hts _ kl_RX1_69) (fun _ h9 => h9) rfl (by decide +kernel) (by decide) rfl rfl ⟨0, rfl, by decide⟩ dX1_insertCell_60 hph (hy1 1 12 h0 rfl) (fun ws_30 H locs hT hP hD hS => ?_)
  refine lv_aload_n hx hb dX1_insertCell_63 rfl (lv_at hl 0 rfl) ?_
  refine lv_lconst (v := 0) hx hb dX1_insertCell_64 (by decide) ?_
  refine ty_put (v := .long 0) (ty := .long) (E := []) (ws := ws_30) (D := D) (ci := 1) (C := RX1) (T := TX1) (N := 14) hx hb hts in_X1 tyX1 tyX1_ok nmX1 hown hK hP hD hS hT h_h0 rfl 13 (by decide) (hts _ kl_RX1_73) (fun _ h9 => h9) rfl (by decide +kernel) rfl rfl rfl ⟨_, rfl⟩ dX1_insertCell_65 hph (hy1 1 13 h0 rfl) (fun ws_31 H locs hT hP hD hS => ?_)
  exact W.vret hx hb hr (fun t ht hW => ⟨⟨ws_31, rfl, hT, by rw [ht]; exact hP, by rw [hAe]; exact hD⟩, hS.F ht⟩) hS.2.2 dX1_insertCell_68
theorem dX1_begin_0 : decode cX1_begin 0 = .ok (.aload_n 0, 1) := by decide +kernel
theorem dX1_begin_1 : decode cX1_begin 1 = .ok (.iconst 1, 1) := by decide +kernel
theorem dX1_begin_2 : decode cX1_begin 2 = .ok (.putfield 43, 3) := by decide +kernel
theorem dX1_begin_5 : decode cX1_begin 5 = .ok (.aload_n 0, 1) := by decide +kernel
theorem dX1_begin_6 : decode cX1_begin 6 = .ok (.iload_n 1, 1) := by decide +kernel
theorem dX1_begin_7 : decode cX1_begin 7 = .ok (.putfield 46, 3) := by decide +kernel
theorem dX1_begin_10 : decode cX1_begin 10 = .ok (.aload_n 0, 1) := by decide +kernel
theorem dX1_begin_11 : decode cX1_begin 11 = .ok (.getfield 29, 3) := by decide +kernel
theorem dX1_begin_14 : decode cX1_begin 14 = .ok (.invokestatic 55, 3) := by decide +kernel
theorem dX1_begin_17 : decode cX1_begin 17 = .ok (.aload_n 0, 1) := by decide +kernel
theorem dX1_begin_18 : decode cX1_begin 18 = .ok (.invokevirtual 97, 3) := by decide +kernel
theorem dX1_begin_21 : decode cX1_begin 21 = .ok (.aload_n 2, 1) := by decide +kernel
theorem dX1_begin_22 : decode cX1_begin 22 = .ok (.aload_n 0, 1) := by decide +kernel
theorem dX1_begin_23 : decode cX1_begin 23 = .ok (.getfield 9, 3) := by decide +kernel
theorem dX1_begin_26 : decode cX1_begin 26 = .ok (.iconst 0, 1) := by decide +kernel
theorem dX1_begin_27 : decode cX1_begin 27 = .ok (.iload_n 1, 1) := by decide +kernel
theorem dX1_begin_28 : decode cX1_begin 28 = .ok (.invokevirtual 100, 3) := by decide +kernel
theorem dX1_begin_31 : decode cX1_begin 31 = .ok (.aload_n 0, 1) := by decide +kernel
theorem dX1_begin_32 : decode cX1_begin 32 = .ok (.iconst 0, 1) := by decide +kernel
theorem dX1_begin_33 : decode cX1_begin 33 = .ok (.invokevirtual 106, 3) := by decide +kernel
theorem dX1_begin_36 : decode cX1_begin 36 = .ok (.return_, 1) := by decide +kernel
set_option maxRecDepth 100000 in
set_option maxHeartbeats 4000000 in
theorem t_X1_begin (l : Launch) (D : va_G) (ct : Nat → ClassId) (S : ty_S) (ws : va_W) (ph : va_W → Prop) (xx : Nat → Nat → Nat → Prop) (h0 : Nat) (p1 : Int32) (p2 : Nat) (sz : Nat) (hT : ty_V ct S ph ws) (h_h0 : S h0 = some (.inl 1)) (h_p2 : S p2 = some (.inl 9)) (hph : ty_C ph xx) (hy1 : ty_y1 xx) : Met l yX1_begin (ws_ yX1_begin cX1_begin 3 none) ({ frames := 2, cells := 0, slots := 0, locals := 46 } : Room) (va_Pc [.ref h0, .int p1, .ref p2] (cmP D ct sz ([] ++ ws))) (va_Qv (fun (u9 : va_W) => ty_V ct S ph u9) (cmB D ([] ++ ws) sz (fun (u9 : va_W) => ([] ++ u9))) (va_A ([] ++ ws) sz)) 0 0 (va_A ([] ++ ws) sz) := by
  refine Met.ofW (cc := cX1_begin) (maxL := 3) (ret := none) (by decide) rfl ?_
  intro p e s m args below meth c s₁ B hml hv
  obtain ⟨rfl, hsz, hP, hK, hD0, hX⟩ := hv
  have hx := B.exec
  have hb := B.bytes
  have hr := B.returns
  have hts := ws_all (atoms_spec (ws := ws_ yX1_begin cX1_begin 3 none) B.pre)
  have hown : s.vm.findClass RX1 = some m.cls := findClass_of_methodNamed B.named
  have hlocks := B.notSynchronized
  subst hsz
  have hD := hD0.self (sz := s.heap.size)
  generalize hAe : va_A ([] ++ ws) s.heap.size = A at hD hX ⊢
  have hA : ∀ q : Nat, s.heap.size ≤ q → A q := fun q h => by rw [← hAe]; exact Or.inr h
  have hS : va_S A s.heap s.heap [] := va_S.rf
  have hl := lv_entry ([.ref h0, .int p1, .ref p2]) (n := 3) (Nat.le_of_ble_eq_true rfl)
  rw [lg_entry_eq]
  generalize (lg_sl ([.ref h0, .int p1, .ref p2]) ++ List.replicate (3 - (lg_sl ([.ref h0, .int p1, .ref p2])).length) Slot.unset).toArray = ls at hl ⊢
  have hl : lv_has ls 3 [(0, .ref h0), (1, .int p1), (2, .ref p2)] := hl
  refine lv_aload_n hx hb dX1_begin_0 rfl (lv_at hl 0 rfl) ?_
  refine lv_iconst (v := 1) hx hb dX1_begin_1 (by decide) ?_
  refine ty_put (v := .int 1) (ty := .int) (E := []) (ws := ws) (D := D) (ci := 1) (C := RX1) (T := TX1) (N := 14) hx hb hts in_X1 tyX1 tyX1_ok nmX1 hown hK hP hD hS hT h_h0 rfl 3 (by decide) (hts _ kl_RX1_43) (fun _ h9 => h9) rfl (by decide +kernel) rfl rfl rfl ⟨_, rfl⟩ dX1_begin_2 hph (hy1 1 3 h0 rfl) (fun ws_1 H locs hT hP hD hS => ?_)
  refine lv_aload_n hx hb dX1_begin_5 rfl (lv_at hl 0 rfl) ?_
  refine lv_iload_n hx hb dX1_begin_6 rfl (lv_at hl 1 rfl) ?_
  refine ty_put (v := .int p1) (ty := .int) (E := []) (ws := ws_1) (D := D) (ci := 1) (C := RX1) (T := TX1) (N := 14) hx hb hts in_X1 tyX1 tyX1_ok nmX1 hown hK hP hD hS hT h_h0 rfl 4 (by decide) (hts _ kl_RX1_46) (fun _ h9 => h9) rfl (by decide +kernel) rfl rfl rfl ⟨_, rfl⟩ dX1_begin_7 hph (hy1 1 4 h0 rfl) (fun ws_2 H locs hT hP hD hS => ?_)
  refine lv_aload_n hx hb dX1_begin_10 rfl (lv_at hl 0 rfl) ?_
  refine ty_get (E := []) (ws := ws_2) (D := D) (ci := 1) (C := RX1) (T := TX1) (N := 14) hx hb hts in_X1 hown hK hP hT h_h0 rfl 7 (by decide) (hts _ kl_RX1_29) (fun _ h9 => h9) rfl dX1_begin_11 (fun _ hv_3 hf_4 => ?_)
  obtain ⟨a_5, n_6, rfl, ha_7⟩ := hv_3
  refine ty_kv (wr := []) (wc := ([] ++ ws_2)) (va_runSN (As := [.ref a_5]) (rest := []) ⟨hx, hb, hml, hown, hts⟩ (t_X10_clearRow l D ct S ws_2 ph xx a_5 n_6 _ hT ha_7 hph hy1) (cm_SN 1 hts kc_X10_clearRow ki_RX10 kl_RX1_55 ks_X10_clearRow kd_X10_clearRow ⟨Nat.le_of_ble_eq_true rfl, Nat.le_of_ble_eq_true rfl⟩) (ty_preS (wr := []) (wc := ([] ++ ws_2)) hP hK hD hS hA hX) rfl rfl hl.1 rfl (lv_room (Nat.le_of_ble_eq_true rfl)) dX1_begin_14 ⟨Nat.le_of_ble_eq_true rfl, Nat.le_of_ble_eq_true rfl⟩) hP hD hS hA (fun u H locs hw_9 hP hD hS => ?_)
  obtain ⟨ws_10, rfl⟩ : ∃ z, z = u := ⟨_, rfl⟩
  have hT := hw_9
  have hP : va_P D vwCl ([] ++ ws_10) H := hP
  have hD : va_D A ([] ++ ws_10) := hD
  refine lv_aload_n hx hb dX1_begin_17 rfl (lv_at hl 0 rfl) ?_
  refine ty_kv (wr := []) (wc := ([] ++ ws_10)) (va_runV (As := []) (rest := []) ⟨hx, hb, hml, hown, hts⟩ (t_X1_countFromHere l D ct S ws_10 ph xx h0 _ hT h_h0 hph hy1) (cm_V 0 hts kc_X1_countFromHere ki_RX1 kl_RX1_97 kv_X1_countFromHere kx_X1_countFromHere kd_X1_countFromHere ⟨Nat.le_of_ble_eq_true rfl, Nat.le_of_ble_eq_true rfl⟩) (ty_preV (wr := []) (E := []) (ws := ws_10) (ci := 1) hP hK hD hS hA hX hT rfl h_h0) rfl rfl hl.1 rfl (lv_room (Nat.le_of_ble_eq_true rfl)) dX1_begin_18 ⟨Nat.le_of_ble_eq_true rfl, Nat.le_of_ble_eq_true rfl⟩) hP hD hS hA (fun u H locs hw_12 hP hD hS => ?_)
  obtain ⟨ws_13, rfl⟩ : ∃ z, z = u := ⟨_, rfl⟩
  have hT := hw_12
  have hP : va_P D vwCl ([] ++ ws_13) H := hP
  have hD : va_D A ([] ++ ws_13) := hD
  refine lv_aload_n hx hb dX1_begin_21 rfl (lv_at hl 2 rfl) ?_
  refine lv_aload_n hx hb dX1_begin_22 rfl (lv_at hl 0 rfl) ?_
  refine ty_get (E := []) (ws := ws_13) (D := D) (ci := 1) (C := RX1) (T := TX1) (N := 14) hx hb hts in_X1 hown hK hP hT h_h0 rfl 0 (by decide) (hts _ kl_RX1_9) (fun _ h9 => h9) rfl dX1_begin_23 (fun _ hv_14 hf_15 => ?_)
  obtain ⟨x_16, rfl⟩ := hv_14
  refine lv_iconst (v := 0) hx hb dX1_begin_26 (by decide) ?_
  refine lv_iload_n hx hb dX1_begin_27 rfl (lv_at hl 1 rfl) ?_
  refine ty_kv (wr := []) (wc := ([] ++ ws_13)) (va_runVN (As := [.int x_16, .int 0, .int p1]) (rest := []) ⟨hx, hb, hml, hown, hts⟩ (t_X9_note l D ct S ws_13 ph xx p2 x_16 (0 : Int32) p1 _ hT h_p2 hph hy1) (cm_VN 3 hts kc_X9_note ki_RX9 kl_RX1_100 kv_X9_note kx_X9_note kd_X9_note ⟨Nat.le_of_ble_eq_true rfl, Nat.le_of_ble_eq_true rfl⟩) (ty_preV (wr := []) (E := []) (ws := ws_13) (ci := 9) hP hK hD hS hA hX hT rfl h_p2) rfl rfl hl.1 rfl (lv_room (Nat.le_of_ble_eq_true rfl)) dX1_begin_28 ⟨Nat.le_of_ble_eq_true rfl, Nat.le_of_ble_eq_true rfl⟩) hP hD hS hA (fun u H locs hw_18 hP hD hS => ?_)
  obtain ⟨ws_19, rfl⟩ : ∃ z, z = u := ⟨_, rfl⟩
  have hT := hw_18
  have hP : va_P D vwCl ([] ++ ws_19) H := hP
  have hD : va_D A ([] ++ ws_19) := hD
  refine lv_aload_n hx hb dX1_begin_31 rfl (lv_at hl 0 rfl) ?_
  refine lv_iconst (v := 0) hx hb dX1_begin_32 (by decide) ?_
  refine ty_kv (wr := []) (wc := ([] ++ ws_19)) (va_runV (As := [.int 0]) (rest := []) ⟨hx, hb, hml, hown, hts⟩ (t_X1_enterStep l D ct S ws_19 ph xx h0 (0 : Int32) _ hT h_h0 hph hy1) (cm_V 1 hts kc_X1_enterStep ki_RX1 kl_RX1_106 kv_X1_enterStep kx_X1_enterStep kd_X1_enterStep ⟨Nat.le_of_ble_eq_true rfl, Nat.le_of_ble_eq_true rfl⟩) (ty_preV (wr := []) (E := []) (ws := ws_19) (ci := 1) hP hK hD hS hA hX hT rfl h_h0) rfl rfl hl.1 rfl (lv_room (Nat.le_of_ble_eq_true rfl)) dX1_begin_33 ⟨Nat.le_of_ble_eq_true rfl, Nat.le_of_ble_eq_true rfl⟩) hP hD hS hA (fun u H locs hw_21 hP hD hS => ?_)
  obtain ⟨ws_22, rfl⟩ : ∃ z, z = u := ⟨_, rfl⟩
  have hT := hw_21
  have hP : va_P D vwCl ([] ++ ws_22) H := hP
  have hD : va_D A ([] ++ ws_22) := hD
  exact W.vret hx hb hr (fun t ht hW => ⟨⟨ws_22, rfl, hT, by rw [ht]; exact hP, by rw [hAe]; exact hD⟩, hS.F ht⟩) hS.2.2 dX1_begin_36
theorem dX1_wantedCurrent_0 : decode cX1_wantedCurrent 0 = .ok (.aload_n 0, 1) := by decide +kernel
theorem dX1_wantedCurrent_1 : decode cX1_wantedCurrent 1 = .ok (.getfield 43, 3) := by decide +kernel
theorem dX1_wantedCurrent_4 : decode cX1_wantedCurrent 4 = .ok (.iconst 1, 1) := by decide +kernel
theorem dX1_wantedCurrent_5 : decode cX1_wantedCurrent 5 = .ok (.if_icmp .eq 5, 3) := by decide +kernel
theorem dX1_wantedCurrent_8 : decode cX1_wantedCurrent 8 = .ok (.iconst 0, 1) := by decide +kernel
theorem dX1_wantedCurrent_9 : decode cX1_wantedCurrent 9 = .ok (.ireturn, 1) := by decide +kernel
theorem dX1_wantedCurrent_10 : decode cX1_wantedCurrent 10 = .ok (.aload_n 1, 1) := by decide +kernel
theorem dX1_wantedCurrent_11 : decode cX1_wantedCurrent 11 = .ok (.getfield 175, 3) := by decide +kernel
theorem dX1_wantedCurrent_14 : decode cX1_wantedCurrent 14 = .ok (.aload_n 0, 1) := by decide +kernel
theorem dX1_wantedCurrent_15 : decode cX1_wantedCurrent 15 = .ok (.getfield 46, 3) := by decide +kernel
theorem dX1_wantedCurrent_18 : decode cX1_wantedCurrent 18 = .ok (.aload_n 0, 1) := by decide +kernel
theorem dX1_wantedCurrent_19 : decode cX1_wantedCurrent 19 = .ok (.getfield 49, 3) := by decide +kernel
theorem dX1_wantedCurrent_22 : decode cX1_wantedCurrent 22 = .ok (.invokevirtual 196, 3) := by decide +kernel
theorem dX1_wantedCurrent_25 : decode cX1_wantedCurrent 25 = .ok (.istore_n 2, 1) := by decide +kernel
theorem dX1_wantedCurrent_26 : decode cX1_wantedCurrent 26 = .ok (.aload_n 1, 1) := by decide +kernel
theorem dX1_wantedCurrent_27 : decode cX1_wantedCurrent 27 = .ok (.getfield 175, 3) := by decide +kernel
theorem dX1_wantedCurrent_30 : decode cX1_wantedCurrent 30 = .ok (.aload_n 0, 1) := by decide +kernel
theorem dX1_wantedCurrent_31 : decode cX1_wantedCurrent 31 = .ok (.getfield 46, 3) := by decide +kernel
theorem dX1_wantedCurrent_34 : decode cX1_wantedCurrent 34 = .ok (.aload_n 0, 1) := by decide +kernel
theorem dX1_wantedCurrent_35 : decode cX1_wantedCurrent 35 = .ok (.getfield 49, 3) := by decide +kernel
theorem dX1_wantedCurrent_38 : decode cX1_wantedCurrent 38 = .ok (.invokevirtual 201, 3) := by decide +kernel
theorem dX1_wantedCurrent_41 : decode cX1_wantedCurrent 41 = .ok (.tableswitch 41 0 2 #[27, 29, 38], 27) := by decide +kernel
theorem dX1_wantedCurrent_68 : decode cX1_wantedCurrent 68 = .ok (.iload_n 2, 1) := by decide +kernel
theorem dX1_wantedCurrent_69 : decode cX1_wantedCurrent 69 = .ok (.ireturn, 1) := by decide +kernel
theorem dX1_wantedCurrent_70 : decode cX1_wantedCurrent 70 = .ok (.aload_n 0, 1) := by decide +kernel
theorem dX1_wantedCurrent_71 : decode cX1_wantedCurrent 71 = .ok (.getfield 18, 3) := by decide +kernel
theorem dX1_wantedCurrent_74 : decode cX1_wantedCurrent 74 = .ok (.iload_n 2, 1) := by decide +kernel
theorem dX1_wantedCurrent_75 : decode cX1_wantedCurrent 75 = .ok (.invokevirtual 204, 3) := by decide +kernel
theorem dX1_wantedCurrent_78 : decode cX1_wantedCurrent 78 = .ok (.ireturn, 1) := by decide +kernel
theorem dX1_wantedCurrent_79 : decode cX1_wantedCurrent 79 = .ok (.iload_n 2, 1) := by decide +kernel
theorem dX1_wantedCurrent_80 : decode cX1_wantedCurrent 80 = .ok (.ineg, 1) := by decide +kernel
theorem dX1_wantedCurrent_81 : decode cX1_wantedCurrent 81 = .ok (.ireturn, 1) := by decide +kernel
theorem dX1_wantedCurrent_82 : decode cX1_wantedCurrent 82 = .ok (.iconst 0, 1) := by decide +kernel
theorem dX1_wantedCurrent_83 : decode cX1_wantedCurrent 83 = .ok (.ireturn, 1) := by decide +kernel
set_option maxRecDepth 100000 in
set_option maxHeartbeats 4000000 in
theorem t_X1_wantedCurrent (l : Launch) (D : va_G) (ct : Nat → ClassId) (S : ty_S) (ws : va_W) (ph : va_W → Prop) (xx : Nat → Nat → Nat → Prop) (h0 : Nat) (p1 : Nat) (sz : Nat) (hT : ty_V ct S ph ws) (h_h0 : S h0 = some (.inl 1)) (h_p1 : S p1 = some (.inl 9)) (hph : ty_C ph xx) (hy1 : ty_y1 xx) : Met l yX1_wantedCurrent (ws_ yX1_wantedCurrent cX1_wantedCurrent 3 (some .int)) ({ frames := 3, cells := 0, slots := 0, locals := 74 } : Room) (va_Pc [.ref h0, .ref p1] (cmP D ct sz ([] ++ ws))) (va_Qi (fun (r : Int32) (u9 : va_W) => ty_V ct S ph u9) (cmB D ([] ++ ws) sz (fun (u9 : va_W) => ([] ++ u9))) (va_A ([] ++ ws) sz)) 0 0 (va_A ([] ++ ws) sz) := by
  refine Met.ofW (cc := cX1_wantedCurrent) (maxL := 3) (ret := (some .int)) (by decide) rfl ?_
  intro p e s m args below meth c s₁ B hml hv
  obtain ⟨rfl, hsz, hP, hK, hD0, hX⟩ := hv
  have hx := B.exec
  have hb := B.bytes
  have hr := B.returns
  have hts := ws_all (atoms_spec (ws := ws_ yX1_wantedCurrent cX1_wantedCurrent 3 (some .int)) B.pre)
  have hown : s.vm.findClass RX1 = some m.cls := findClass_of_methodNamed B.named
  have hlocks := B.notSynchronized
  subst hsz
  have hD := hD0.self (sz := s.heap.size)
  generalize hAe : va_A ([] ++ ws) s.heap.size = A at hD hX ⊢
  have hA : ∀ q : Nat, s.heap.size ≤ q → A q := fun q h => by rw [← hAe]; exact Or.inr h
  have hS : va_S A s.heap s.heap [] := va_S.rf
  have hl := lv_entry ([.ref h0, .ref p1]) (n := 3) (Nat.le_of_ble_eq_true rfl)
  rw [lg_entry_eq]
  generalize (lg_sl ([.ref h0, .ref p1]) ++ List.replicate (3 - (lg_sl ([.ref h0, .ref p1])).length) Slot.unset).toArray = ls at hl ⊢
  have hl : lv_has ls 3 [(0, .ref h0), (1, .ref p1)] := hl
  refine lv_aload_n hx hb dX1_wantedCurrent_0 rfl (lv_at hl 0 rfl) ?_
  refine ty_get (E := []) (ws := ws) (D := D) (ci := 1) (C := RX1) (T := TX1) (N := 14) hx hb hts in_X1 hown hK hP hT h_h0 rfl 3 (by decide) (hts _ kl_RX1_43) (fun _ h9 => h9) rfl dX1_wantedCurrent_1 (fun _ hv_1 hf_2 => ?_)
  obtain ⟨x_3, rfl⟩ := hv_1
  refine lv_iconst (v := 1) hx hb dX1_wantedCurrent_4 (by decide) ?_
  refine lv_icmp_eq (tgt := 10) hx hb dX1_wantedCurrent_5 (by decide) (fun hc_4 => ?_) (fun hc_4 => ?_)
  · refine lv_aload_n hx hb dX1_wantedCurrent_10 rfl (lv_at hl 1 rfl) ?_
    refine ty_getN (E := []) (ws := ws) (D := D) (ci := 9) (C := RX9) (T := TX9) (N := 8) hx hb hts in_X9 hown hK hP hT h_p1 rfl 3 (by decide) (hts _ kl_RX1_175) (fun _ h9 => h9) rfl dX1_wantedCurrent_11 (fun _ hv_5 hf_6 => ?_)
    obtain ⟨a_7, rfl, ha_8⟩ := hv_5
    refine lv_aload_n hx hb dX1_wantedCurrent_14 rfl (lv_at hl 0 rfl) ?_
    refine ty_get (E := []) (ws := ws) (D := D) (ci := 1) (C := RX1) (T := TX1) (N := 14) hx hb hts in_X1 hown hK hP hT h_h0 rfl 4 (by decide) (hts _ kl_RX1_46) (fun _ h9 => h9) rfl dX1_wantedCurrent_15 (fun _ hv_9 hf_10 => ?_)
    obtain ⟨x_11, rfl⟩ := hv_9
    refine lv_aload_n hx hb dX1_wantedCurrent_18 rfl (lv_at hl 0 rfl) ?_
    refine ty_get (E := []) (ws := ws) (D := D) (ci := 1) (C := RX1) (T := TX1) (N := 14) hx hb hts in_X1 hown hK hP hT h_h0 rfl 5 (by decide) (hts _ kl_RX1_49) (fun _ h9 => h9) rfl dX1_wantedCurrent_19 (fun _ hv_12 hf_13 => ?_)
    obtain ⟨x_14, rfl⟩ := hv_12
    refine ty_ki (wr := []) (wc := ([] ++ ws)) (va_runVN (As := [.int x_11, .int x_14]) (rest := []) ⟨hx, hb, hml, hown, hts⟩ (t_X5_firstOf l D ct S ws ph xx a_7 x_11 x_14 _ hT ha_8 hph hy1) (cm_VN 2 hts kc_X5_firstOf ki_RX5 kl_RX1_196 kv_X5_firstOf kx_X5_firstOf kd_X5_firstOf ⟨Nat.le_of_ble_eq_true rfl, Nat.le_of_ble_eq_true rfl⟩) (ty_preV (wr := []) (E := []) (ws := ws) (ci := 5) hP hK hD hS hA hX hT rfl ha_8) rfl rfl hl.1 rfl (lv_room (Nat.le_of_ble_eq_true rfl)) dX1_wantedCurrent_22 ⟨Nat.le_of_ble_eq_true rfl, Nat.le_of_ble_eq_true rfl⟩) hP hD hS hA (fun r_15 u H locs hw_16 hP hD hS => ?_)
    obtain ⟨ws_17, rfl⟩ : ∃ z, z = u := ⟨_, rfl⟩
    have hT := hw_16
    have hP : va_P D vwCl ([] ++ ws_17) H := hP
    have hD : va_D A ([] ++ ws_17) := hD
    refine lv_istore_n (lv' := [(2, .int r_15), (0, .ref h0), (1, .ref p1)]) hx hb dX1_wantedCurrent_25 rfl hl (by decide) rfl (fun ls hl => ?_)
    refine lv_aload_n hx hb dX1_wantedCurrent_26 rfl (lv_at hl 2 rfl) ?_
    refine ty_getN (E := []) (ws := ws_17) (D := D) (ci := 9) (C := RX9) (T := TX9) (N := 8) hx hb hts in_X9 hown hK hP hT h_p1 rfl 3 (by decide) (hts _ kl_RX1_175) (fun _ h9 => h9) rfl dX1_wantedCurrent_27 (fun _ hv_18 hf_19 => ?_)
    obtain ⟨a_20, rfl, ha_21⟩ := hv_18
    refine lv_aload_n hx hb dX1_wantedCurrent_30 rfl (lv_at hl 1 rfl) ?_
    refine ty_get (E := []) (ws := ws_17) (D := D) (ci := 1) (C := RX1) (T := TX1) (N := 14) hx hb hts in_X1 hown hK hP hT h_h0 rfl 4 (by decide) (hts _ kl_RX1_46) (fun _ h9 => h9) rfl dX1_wantedCurrent_31 (fun _ hv_22 hf_23 => ?_)
    obtain ⟨x_24, rfl⟩ := hv_22
    refine lv_aload_n hx hb dX1_wantedCurrent_34 rfl (lv_at hl 1 rfl) ?_
    refine ty_get (E := []) (ws := ws_17) (D := D) (ci := 1) (C := RX1) (T := TX1) (N := 14) hx hb hts in_X1 hown hK hP hT h_h0 rfl 5 (by decide) (hts _ kl_RX1_49) (fun _ h9 => h9) rfl dX1_wantedCurrent_35 (fun _ hv_25 hf_26 => ?_)
    obtain ⟨x_27, rfl⟩ := hv_25
    refine ty_ki (wr := []) (wc := ([] ++ ws_17)) (va_runVN (As := [.int x_24, .int x_27]) (rest := []) ⟨hx, hb, hml, hown, hts⟩ (t_X5_kindOf l D ct S ws_17 ph xx a_20 x_24 x_27 _ hT ha_21 hph hy1) (cm_VN 2 hts kc_X5_kindOf ki_RX5 kl_RX1_201 kv_X5_kindOf kx_X5_kindOf kd_X5_kindOf ⟨Nat.le_of_ble_eq_true rfl, Nat.le_of_ble_eq_true rfl⟩) (ty_preV (wr := []) (E := []) (ws := ws_17) (ci := 5) hP hK hD hS hA hX hT rfl ha_21) rfl rfl hl.1 rfl (lv_room (Nat.le_of_ble_eq_true rfl)) dX1_wantedCurrent_38 ⟨Nat.le_of_ble_eq_true rfl, Nat.le_of_ble_eq_true rfl⟩) hP hD hS hA (fun r_28 u H locs hw_29 hP hD hS => ?_)
    obtain ⟨ws_30, rfl⟩ : ∃ z, z = u := ⟨_, rfl⟩
    have hT := hw_29
    have hP : va_P D vwCl ([] ++ ws_30) H := hP
    have hD : va_D A ([] ++ ws_30) := hD
    by_cases hk_31 : r_28 = 0
    · refine cm_cst hk_31 (lv_tableIn (off := 27) (tgt := 68) hx hb dX1_wantedCurrent_41 (by decide) (by decide) (by decide) (by decide) ?_)
      refine lv_iload_n hx hb dX1_wantedCurrent_68 rfl (lv_at hl 0 rfl) ?_
      exact W.iret (v := r_15) hx hb hr (fun t ht hW => ⟨⟨r_15, ws_30, rfl, hT, by rw [ht]; exact hP, by rw [hAe]; exact hD⟩, hS.F ht⟩) hS.2.2 dX1_wantedCurrent_69
    by_cases hk_32 : r_28 = 1
    · refine cm_cst hk_32 (lv_tableIn (off := 29) (tgt := 70) hx hb dX1_wantedCurrent_41 (by decide) (by decide) (by decide) (by decide) ?_)
      refine lv_aload_n hx hb dX1_wantedCurrent_70 rfl (lv_at hl 1 rfl) ?_
      refine ty_get (E := []) (ws := ws_30) (D := D) (ci := 1) (C := RX1) (T := TX1) (N := 14) hx hb hts in_X1 hown hK hP hT h_h0 rfl 1 (by decide) (hts _ kl_RX1_18) (fun _ h9 => h9) rfl dX1_wantedCurrent_71 (fun _ hv_33 hf_34 => ?_)
      obtain ⟨a_35, rfl, ha_36⟩ := hv_33
      refine lv_iload_n hx hb dX1_wantedCurrent_74 rfl (lv_at hl 0 rfl) ?_
      refine ty_ki (wr := []) (wc := ([] ++ ws_30)) (va_runVN (As := [.int r_15]) (rest := []) ⟨hx, hb, hml, hown, hts⟩ (t_X0_holding l D ct S ws_30 ph xx a_35 r_15 _ hT ha_36 hph hy1) (cm_VN 1 hts kc_X0_holding ki_RX0 kl_RX1_204 kv_X0_holding kx_X0_holding kd_X0_holding ⟨Nat.le_of_ble_eq_true rfl, Nat.le_of_ble_eq_true rfl⟩) (ty_preV (wr := []) (E := []) (ws := ws_30) (ci := 0) hP hK hD hS hA hX hT rfl ha_36) rfl rfl hl.1 rfl (lv_room (Nat.le_of_ble_eq_true rfl)) dX1_wantedCurrent_75 ⟨Nat.le_of_ble_eq_true rfl, Nat.le_of_ble_eq_true rfl⟩) hP hD hS hA (fun r_37 u H locs hw_38 hP hD hS => ?_)
      obtain ⟨ws_39, rfl⟩ : ∃ z, z = u := ⟨_, rfl⟩
      have hT := hw_38
      have hP : va_P D vwCl ([] ++ ws_39) H := hP
      have hD : va_D A ([] ++ ws_39) := hD
      exact W.iret (v := r_37) hx hb hr (fun t ht hW => ⟨⟨r_37, ws_39, rfl, hT, by rw [ht]; exact hP, by rw [hAe]; exact hD⟩, hS.F ht⟩) hS.2.2 dX1_wantedCurrent_78
    by_cases hk_40 : r_28 = 2
    · refine cm_cst hk_40 (lv_tableIn (off := 38) (tgt := 79) hx hb dX1_wantedCurrent_41 (by decide) (by decide) (by decide) (by decide) ?_)
      refine lv_iload_n hx hb dX1_wantedCurrent_79 rfl (lv_at hl 0 rfl) ?_
      refine lv_ineg hx hb dX1_wantedCurrent_80 ?_
      refine lv_topi (fun x_41 _ => ?_)
      exact W.iret (v := x_41) hx hb hr (fun t ht hW => ⟨⟨x_41, ws_30, rfl, hT, by rw [ht]; exact hP, by rw [hAe]; exact hD⟩, hS.F ht⟩) hS.2.2 dX1_wantedCurrent_81
    refine lv_tableOut (tgt := 82) hx hb dX1_wantedCurrent_41 (ty_sw0_2 hk_31 hk_32 hk_40) (by decide) ?_
    refine lv_iconst (v := 0) hx hb dX1_wantedCurrent_82 (by decide) ?_
    exact W.iret (v := 0) hx hb hr (fun t ht hW => ⟨⟨0, ws_30, rfl, hT, by rw [ht]; exact hP, by rw [hAe]; exact hD⟩, hS.F ht⟩) hS.2.2 dX1_wantedCurrent_83
  · refine lv_iconst (v := 0) hx hb dX1_wantedCurrent_8 (by decide) ?_
    exact W.iret (v := 0) hx hb hr (fun t ht hW => ⟨⟨0, ws, rfl, hT, by rw [ht]; exact hP, by rw [hAe]; exact hD⟩, hS.F ht⟩) hS.2.2 dX1_wantedCurrent_9
theorem dX1_warn_0 : decode cX1_warn 0 = .ok (.aload_n 1, 1) := by decide +kernel
theorem dX1_warn_1 : decode cX1_warn 1 = .ok (.getfield 140, 3) := by decide +kernel
theorem dX1_warn_4 : decode cX1_warn 4 = .ok (.astore_n 2, 1) := by decide +kernel
theorem dX1_warn_5 : decode cX1_warn 5 = .ok (.iconst 0, 1) := by decide +kernel
theorem dX1_warn_6 : decode cX1_warn 6 = .ok (.istore_n 3, 1) := by decide +kernel
theorem dX1_warn_7 : decode cX1_warn 7 = .ok (.aload_n 0, 1) := by decide +kernel
theorem dX1_warn_8 : decode cX1_warn 8 = .ok (.getfield 18, 3) := by decide +kernel
theorem dX1_warn_11 : decode cX1_warn 11 = .ok (.getfield 79, 3) := by decide +kernel
theorem dX1_warn_14 : decode cX1_warn 14 = .ok (.aload_n 2, 1) := by decide +kernel
theorem dX1_warn_15 : decode cX1_warn 15 = .ok (.getfield 208, 3) := by decide +kernel
theorem dX1_warn_18 : decode cX1_warn 18 = .ok (.if_icmp .le 8, 3) := by decide +kernel
theorem dX1_warn_21 : decode cX1_warn 21 = .ok (.iconst 1, 1) := by decide +kernel
theorem dX1_warn_22 : decode cX1_warn 22 = .ok (.istore_n 3, 1) := by decide +kernel
theorem dX1_warn_23 : decode cX1_warn 23 = .ok (.goto 38, 3) := by decide +kernel
theorem dX1_warn_26 : decode cX1_warn 26 = .ok (.aload_n 0, 1) := by decide +kernel
theorem dX1_warn_27 : decode cX1_warn 27 = .ok (.getfield 18, 3) := by decide +kernel
theorem dX1_warn_30 : decode cX1_warn 30 = .ok (.getfield 79, 3) := by decide +kernel
theorem dX1_warn_33 : decode cX1_warn 33 = .ok (.aload_n 2, 1) := by decide +kernel
theorem dX1_warn_34 : decode cX1_warn 34 = .ok (.getfield 213, 3) := by decide +kernel
theorem dX1_warn_37 : decode cX1_warn 37 = .ok (.if_icmp .ge 8, 3) := by decide +kernel
theorem dX1_warn_40 : decode cX1_warn 40 = .ok (.iconst 2, 1) := by decide +kernel
theorem dX1_warn_41 : decode cX1_warn 41 = .ok (.istore_n 3, 1) := by decide +kernel
theorem dX1_warn_42 : decode cX1_warn 42 = .ok (.goto 19, 3) := by decide +kernel
theorem dX1_warn_45 : decode cX1_warn 45 = .ok (.aload_n 0, 1) := by decide +kernel
theorem dX1_warn_46 : decode cX1_warn 46 = .ok (.getfield 18, 3) := by decide +kernel
theorem dX1_warn_49 : decode cX1_warn 49 = .ok (.getfield 91, 3) := by decide +kernel
theorem dX1_warn_52 : decode cX1_warn 52 = .ok (.aload_n 2, 1) := by decide +kernel
theorem dX1_warn_53 : decode cX1_warn 53 = .ok (.getfield 216, 3) := by decide +kernel
theorem dX1_warn_56 : decode cX1_warn 56 = .ok (.if_icmp .le 5, 3) := by decide +kernel
theorem dX1_warn_59 : decode cX1_warn 59 = .ok (.iconst 3, 1) := by decide +kernel
theorem dX1_warn_60 : decode cX1_warn 60 = .ok (.istore_n 3, 1) := by decide +kernel
theorem dX1_warn_61 : decode cX1_warn 61 = .ok (.iload_n 3, 1) := by decide +kernel
theorem dX1_warn_62 : decode cX1_warn 62 = .ok (.ifCond .eq 37, 3) := by decide +kernel
theorem dX1_warn_65 : decode cX1_warn 65 = .ok (.iload_n 3, 1) := by decide +kernel
theorem dX1_warn_66 : decode cX1_warn 66 = .ok (.aload_n 0, 1) := by decide +kernel
theorem dX1_warn_67 : decode cX1_warn 67 = .ok (.getfield 25, 3) := by decide +kernel
theorem dX1_warn_70 : decode cX1_warn 70 = .ok (.getfield 159, 3) := by decide +kernel
theorem dX1_warn_73 : decode cX1_warn 73 = .ok (.if_icmp .eq 26, 3) := by decide +kernel
theorem dX1_warn_76 : decode cX1_warn 76 = .ok (.aload_n 0, 1) := by decide +kernel
theorem dX1_warn_77 : decode cX1_warn 77 = .ok (.getfield 25, 3) := by decide +kernel
theorem dX1_warn_80 : decode cX1_warn 80 = .ok (.dup, 1) := by decide +kernel
theorem dX1_warn_81 : decode cX1_warn 81 = .ok (.getfield 219, 3) := by decide +kernel
theorem dX1_warn_84 : decode cX1_warn 84 = .ok (.iconst 1, 1) := by decide +kernel
theorem dX1_warn_85 : decode cX1_warn 85 = .ok (.iadd, 1) := by decide +kernel
theorem dX1_warn_86 : decode cX1_warn 86 = .ok (.putfield 219, 3) := by decide +kernel
theorem dX1_warn_89 : decode cX1_warn 89 = .ok (.aload_n 1, 1) := by decide +kernel
theorem dX1_warn_90 : decode cX1_warn 90 = .ok (.aload_n 0, 1) := by decide +kernel
theorem dX1_warn_91 : decode cX1_warn 91 = .ok (.getfield 9, 3) := by decide +kernel
theorem dX1_warn_94 : decode cX1_warn 94 = .ok (.iconst 4, 1) := by decide +kernel
theorem dX1_warn_95 : decode cX1_warn 95 = .ok (.iload_n 3, 1) := by decide +kernel
theorem dX1_warn_96 : decode cX1_warn 96 = .ok (.invokevirtual 100, 3) := by decide +kernel
theorem dX1_warn_99 : decode cX1_warn 99 = .ok (.aload_n 0, 1) := by decide +kernel
theorem dX1_warn_100 : decode cX1_warn 100 = .ok (.getfield 25, 3) := by decide +kernel
theorem dX1_warn_103 : decode cX1_warn 103 = .ok (.iload_n 3, 1) := by decide +kernel
theorem dX1_warn_104 : decode cX1_warn 104 = .ok (.putfield 159, 3) := by decide +kernel
theorem dX1_warn_107 : decode cX1_warn 107 = .ok (.return_, 1) := by decide +kernel
set_option maxRecDepth 100000 in
set_option maxHeartbeats 4000000 in
theorem t_X1_warn (l : Launch) (D : va_G) (ct : Nat → ClassId) (S : ty_S) (ws : va_W) (ph : va_W → Prop) (xx : Nat → Nat → Nat → Prop) (h0 : Nat) (p1 : Nat) (sz : Nat) (hT : ty_V ct S ph ws) (h_h0 : S h0 = some (.inl 1)) (h_p1 : S p1 = some (.inl 9)) (hph : ty_C ph xx) (hy1 : ty_y1 xx) : Met l yX1_warn (ws_ yX1_warn cX1_warn 4 none) ({ frames := 2, cells := 0, slots := 0, locals := 46 } : Room) (va_Pc [.ref h0, .ref p1] (cmP D ct sz ([] ++ ws))) (va_Qv (fun (u9 : va_W) => ty_V ct S ph u9) (cmB D ([] ++ ws) sz (fun (u9 : va_W) => ([] ++ u9))) (va_A ([] ++ ws) sz)) 0 0 (va_A ([] ++ ws) sz) := by
  refine Met.ofW (cc := cX1_warn) (maxL := 4) (ret := none) (by decide) rfl ?_
  intro p e s m args below meth c s₁ B hml hv
  obtain ⟨rfl, hsz, hP, hK, hD0, hX⟩ := hv
  have hx := B.exec
  have hb := B.bytes
  have hr := B.returns
  have hts := ws_all (atoms_spec (ws := ws_ yX1_warn cX1_warn 4 none) B.pre)
  have hown : s.vm.findClass RX1 = some m.cls := findClass_of_methodNamed B.named
  have hlocks := B.notSynchronized
  subst hsz
  have hD := hD0.self (sz := s.heap.size)
  generalize hAe : va_A ([] ++ ws) s.heap.size = A at hD hX ⊢
  have hA : ∀ q : Nat, s.heap.size ≤ q → A q := fun q h => by rw [← hAe]; exact Or.inr h
  have hS : va_S A s.heap s.heap [] := va_S.rf
  have hl := lv_entry ([.ref h0, .ref p1]) (n := 4) (Nat.le_of_ble_eq_true rfl)
  rw [lg_entry_eq]
  generalize (lg_sl ([.ref h0, .ref p1]) ++ List.replicate (4 - (lg_sl ([.ref h0, .ref p1])).length) Slot.unset).toArray = ls at hl ⊢
  have hl : lv_has ls 4 [(0, .ref h0), (1, .ref p1)] := hl
  refine lv_aload_n hx hb dX1_warn_0 rfl (lv_at hl 1 rfl) ?_
  refine ty_getN (E := []) (ws := ws) (D := D) (ci := 9) (C := RX9) (T := TX9) (N := 8) hx hb hts in_X9 hown hK hP hT h_p1 rfl 1 (by decide) (hts _ kl_RX1_140) (fun _ h9 => h9) rfl dX1_warn_1 (fun _ hv_1 hf_2 => ?_)
  obtain ⟨a_3, rfl, ha_4⟩ := hv_1
  refine lv_astore_n (lv' := [(2, .ref a_3), (0, .ref h0), (1, .ref p1)]) hx hb dX1_warn_4 rfl hl (by decide) rfl (fun ls hl => ?_)
  refine lv_iconst (v := 0) hx hb dX1_warn_5 (by decide) ?_
  refine lv_istore_n (lv' := [(3, .int 0), (2, .ref a_3), (0, .ref h0), (1, .ref p1)]) hx hb dX1_warn_6 rfl hl (by decide) rfl (fun ls hl => ?_)
  refine lv_aload_n hx hb dX1_warn_7 rfl (lv_at hl 2 rfl) ?_
  refine ty_get (E := []) (ws := ws) (D := D) (ci := 1) (C := RX1) (T := TX1) (N := 14) hx hb hts in_X1 hown hK hP hT h_h0 rfl 1 (by decide) (hts _ kl_RX1_18) (fun _ h9 => h9) rfl dX1_warn_8 (fun _ hv_5 hf_6 => ?_)
  obtain ⟨a_7, rfl, ha_8⟩ := hv_5
  refine ty_getN (E := []) (ws := ws) (D := D) (ci := 0) (C := RX0) (T := TX0) (N := 16) hx hb hts in_X0 hown hK hP hT ha_8 rfl 14 (by decide) (hts _ kl_RX1_79) (fun _ h9 => h9) rfl dX1_warn_11 (fun _ hv_9 hf_10 => ?_)
  obtain ⟨x_11, rfl⟩ := hv_9
  refine lv_aload_n hx hb dX1_warn_14 rfl (lv_at hl 1 rfl) ?_
  refine ty_getN (E := []) (ws := ws) (D := D) (ci := 7) (C := RX7) (T := TX7) (N := 12) hx hb hts in_X7 hown hK hP hT ha_4 rfl 9 (by decide) (hts _ kl_RX1_208) (fun _ h9 => h9) rfl dX1_warn_15 (fun _ hv_12 hf_13 => ?_)
  obtain ⟨x_14, rfl⟩ := hv_12
  refine lv_icmp_le (tgt := 26) hx hb dX1_warn_18 (by decide) (fun hc_15 => ?_) (fun hc_15 => ?_)
  · refine lv_aload_n hx hb dX1_warn_26 rfl (lv_at hl 2 rfl) ?_
    refine ty_get (E := []) (ws := ws) (D := D) (ci := 1) (C := RX1) (T := TX1) (N := 14) hx hb hts in_X1 hown hK hP hT h_h0 rfl 1 (by decide) (hts _ kl_RX1_18) (fun _ h9 => h9) rfl dX1_warn_27 (fun _ hv_16 hf_17 => ?_)
    obtain ⟨a_18, rfl, ha_19⟩ := hv_16
    refine ty_getN (E := []) (ws := ws) (D := D) (ci := 0) (C := RX0) (T := TX0) (N := 16) hx hb hts in_X0 hown hK hP hT ha_19 rfl 14 (by decide) (hts _ kl_RX1_79) (fun _ h9 => h9) rfl dX1_warn_30 (fun _ hv_20 hf_21 => ?_)
    obtain ⟨x_22, rfl⟩ := hv_20
    refine lv_aload_n hx hb dX1_warn_33 rfl (lv_at hl 1 rfl) ?_
    refine ty_getN (E := []) (ws := ws) (D := D) (ci := 7) (C := RX7) (T := TX7) (N := 12) hx hb hts in_X7 hown hK hP hT ha_4 rfl 8 (by decide) (hts _ kl_RX1_213) (fun _ h9 => h9) rfl dX1_warn_34 (fun _ hv_23 hf_24 => ?_)
    obtain ⟨x_25, rfl⟩ := hv_23
    refine lv_icmp_ge (tgt := 45) hx hb dX1_warn_37 (by decide) (fun hc_26 => ?_) (fun hc_26 => ?_)
    · refine lv_aload_n hx hb dX1_warn_45 rfl (lv_at hl 2 rfl) ?_
      refine ty_get (E := []) (ws := ws) (D := D) (ci := 1) (C := RX1) (T := TX1) (N := 14) hx hb hts in_X1 hown hK hP hT h_h0 rfl 1 (by decide) (hts _ kl_RX1_18) (fun _ h9 => h9) rfl dX1_warn_46 (fun _ hv_27 hf_28 => ?_)
      obtain ⟨a_29, rfl, ha_30⟩ := hv_27
      refine ty_getN (E := []) (ws := ws) (D := D) (ci := 0) (C := RX0) (T := TX0) (N := 16) hx hb hts in_X0 hown hK hP hT ha_30 rfl 11 (by decide) (hts _ kl_RX1_91) (fun _ h9 => h9) rfl dX1_warn_49 (fun _ hv_31 hf_32 => ?_)
      obtain ⟨x_33, rfl⟩ := hv_31
      refine lv_aload_n hx hb dX1_warn_52 rfl (lv_at hl 1 rfl) ?_
      refine ty_getN (E := []) (ws := ws) (D := D) (ci := 7) (C := RX7) (T := TX7) (N := 12) hx hb hts in_X7 hown hK hP hT ha_4 rfl 10 (by decide) (hts _ kl_RX1_216) (fun _ h9 => h9) rfl dX1_warn_53 (fun _ hv_34 hf_35 => ?_)
      obtain ⟨x_36, rfl⟩ := hv_34
      refine lv_icmp_le (tgt := 61) hx hb dX1_warn_56 (by decide) (fun hc_37 => ?_) (fun hc_37 => ?_)
      · refine lv_iload_n hx hb dX1_warn_61 rfl (lv_at hl 0 rfl) ?_
        refine lv_if_eq (tgt := 99) hx hb dX1_warn_62 (by decide) (fun _ => ?_) (fun hc => absurd (by decide) hc)
        refine lv_aload_n hx hb dX1_warn_99 rfl (lv_at hl 2 rfl) ?_
        refine ty_get (E := []) (ws := ws) (D := D) (ci := 1) (C := RX1) (T := TX1) (N := 14) hx hb hts in_X1 hown hK hP hT h_h0 rfl 2 (by decide) (hts _ kl_RX1_25) (fun _ h9 => h9) rfl dX1_warn_100 (fun _ hv_38 hf_39 => ?_)
        obtain ⟨a_40, rfl, ha_41⟩ := hv_38
        refine lv_iload_n hx hb dX1_warn_103 rfl (lv_at hl 0 rfl) ?_
        refine ty_putN (v := .int 0) (ty := .int) (E := []) (ws := ws) (D := D) (ci := 4) (C := RX4) (T := TX4) (N := 7) hx hb hts in_X4 tyX4 tyX4_ok nmX4 hown hK hP hD hS hT ha_41 rfl 4 (by decide) (hts _ kl_RX1_159) (fun _ h9 => h9) rfl (by decide +kernel) rfl rfl rfl ⟨_, rfl⟩ dX1_warn_104 hph (hy1 4 4 a_40 rfl) (fun ws_42 H locs hT hP hD hS => ?_)
        exact W.vret hx hb hr (fun t ht hW => ⟨⟨ws_42, rfl, hT, by rw [ht]; exact hP, by rw [hAe]; exact hD⟩, hS.F ht⟩) hS.2.2 dX1_warn_107
      · refine lv_iconst (v := 3) hx hb dX1_warn_59 (by decide) ?_
        refine lv_istore_n (lv' := [(3, .int 3), (2, .ref a_3), (0, .ref h0), (1, .ref p1)]) hx hb dX1_warn_60 rfl hl (by decide) rfl (fun ls hl => ?_)
        refine lv_iload_n hx hb dX1_warn_61 rfl (lv_at hl 0 rfl) ?_
        refine lv_if_eq (tgt := 99) hx hb dX1_warn_62 (by decide) (fun hc => absurd hc (by decide)) (fun _ => ?_)
        refine lv_iload_n hx hb dX1_warn_65 rfl (lv_at hl 0 rfl) ?_
        refine lv_aload_n hx hb dX1_warn_66 rfl (lv_at hl 2 rfl) ?_
        refine ty_get (E := []) (ws := ws) (D := D) (ci := 1) (C := RX1) (T := TX1) (N := 14) hx hb hts in_X1 hown hK hP hT h_h0 rfl 2 (by decide) (hts _ kl_RX1_25) (fun _ h9 => h9) rfl dX1_warn_67 (fun _ hv_43 hf_44 => ?_)
        obtain ⟨a_45, rfl, ha_46⟩ := hv_43
        refine ty_getN (E := []) (ws := ws) (D := D) (ci := 4) (C := RX4) (T := TX4) (N := 7) hx hb hts in_X4 hown hK hP hT ha_46 rfl 4 (by decide) (hts _ kl_RX1_159) (fun _ h9 => h9) rfl dX1_warn_70 (fun _ hv_47 hf_48 => ?_)
        obtain ⟨x_49, rfl⟩ := hv_47
        refine lv_icmp_eq (tgt := 99) hx hb dX1_warn_73 (by decide) (fun hc_50 => ?_) (fun hc_50 => ?_)
        · refine lv_aload_n hx hb dX1_warn_99 rfl (lv_at hl 2 rfl) ?_
          refine ty_get (E := []) (ws := ws) (D := D) (ci := 1) (C := RX1) (T := TX1) (N := 14) hx hb hts in_X1 hown hK hP hT h_h0 rfl 2 (by decide) (hts _ kl_RX1_25) (fun _ h9 => h9) rfl dX1_warn_100 (fun _ hv_51 hf_52 => ?_)
          obtain ⟨a_53, rfl, ha_54⟩ := hv_51
          refine lv_iload_n hx hb dX1_warn_103 rfl (lv_at hl 0 rfl) ?_
          refine ty_putN (v := .int 3) (ty := .int) (E := []) (ws := ws) (D := D) (ci := 4) (C := RX4) (T := TX4) (N := 7) hx hb hts in_X4 tyX4 tyX4_ok nmX4 hown hK hP hD hS hT ha_54 rfl 4 (by decide) (hts _ kl_RX1_159) (fun _ h9 => h9) rfl (by decide +kernel) rfl rfl rfl ⟨_, rfl⟩ dX1_warn_104 hph (hy1 4 4 a_53 rfl) (fun ws_55 H locs hT hP hD hS => ?_)
          exact W.vret hx hb hr (fun t ht hW => ⟨⟨ws_55, rfl, hT, by rw [ht]; exact hP, by rw [hAe]; exact hD⟩, hS.F ht⟩) hS.2.2 dX1_warn_107
        · refine lv_aload_n hx hb dX1_warn_76 rfl (lv_at hl 2 rfl) ?_
          refine ty_get (E := []) (ws := ws) (D := D) (ci := 1) (C := RX1) (T := TX1) (N := 14) hx hb hts in_X1 hown hK hP hT h_h0 rfl 2 (by decide) (hts _ kl_RX1_25) (fun _ h9 => h9) rfl dX1_warn_77 (fun _ hv_56 hf_57 => ?_)
          obtain ⟨a_58, rfl, ha_59⟩ := hv_56
          refine lv_dup hx hb dX1_warn_80 rfl ?_
          refine ty_getN (E := []) (ws := ws) (D := D) (ci := 4) (C := RX4) (T := TX4) (N := 7) hx hb hts in_X4 hown hK hP hT ha_59 rfl 5 (by decide) (hts _ kl_RX1_219) (fun _ h9 => h9) rfl dX1_warn_81 (fun _ hv_60 hf_61 => ?_)
          obtain ⟨x_62, rfl⟩ := hv_60
          refine lv_iconst (v := 1) hx hb dX1_warn_84 (by decide) ?_
          refine lv_iadd hx hb dX1_warn_85 ?_
          refine lv_topi (fun x_63 _ => ?_)
          refine ty_putN (v := .int x_63) (ty := .int) (E := []) (ws := ws) (D := D) (ci := 4) (C := RX4) (T := TX4) (N := 7) hx hb hts in_X4 tyX4 tyX4_ok nmX4 hown hK hP hD hS hT ha_59 rfl 5 (by decide) (hts _ kl_RX1_219) (fun _ h9 => h9) rfl (by decide +kernel) rfl rfl rfl ⟨_, rfl⟩ dX1_warn_86 hph (hy1 4 5 a_58 rfl) (fun ws_64 H locs hT hP hD hS => ?_)
          refine lv_aload_n hx hb dX1_warn_89 rfl (lv_at hl 3 rfl) ?_
          refine lv_aload_n hx hb dX1_warn_90 rfl (lv_at hl 2 rfl) ?_
          refine ty_get (E := []) (ws := ws_64) (D := D) (ci := 1) (C := RX1) (T := TX1) (N := 14) hx hb hts in_X1 hown hK hP hT h_h0 rfl 0 (by decide) (hts _ kl_RX1_9) (fun _ h9 => h9) rfl dX1_warn_91 (fun _ hv_65 hf_66 => ?_)
          obtain ⟨x_67, rfl⟩ := hv_65
          refine lv_iconst (v := 4) hx hb dX1_warn_94 (by decide) ?_
          refine lv_iload_n hx hb dX1_warn_95 rfl (lv_at hl 0 rfl) ?_
          refine ty_kv (wr := []) (wc := ([] ++ ws_64)) (va_runVN (As := [.int x_67, .int 4, .int 3]) (rest := []) ⟨hx, hb, hml, hown, hts⟩ (t_X9_note l D ct S ws_64 ph xx p1 x_67 (4 : Int32) (3 : Int32) _ hT h_p1 hph hy1) (cm_VN 3 hts kc_X9_note ki_RX9 kl_RX1_100 kv_X9_note kx_X9_note kd_X9_note ⟨Nat.le_of_ble_eq_true rfl, Nat.le_of_ble_eq_true rfl⟩) (ty_preV (wr := []) (E := []) (ws := ws_64) (ci := 9) hP hK hD hS hA hX hT rfl h_p1) rfl rfl hl.1 rfl (lv_room (Nat.le_of_ble_eq_true rfl)) dX1_warn_96 ⟨Nat.le_of_ble_eq_true rfl, Nat.le_of_ble_eq_true rfl⟩) hP hD hS hA (fun u H locs hw_69 hP hD hS => ?_)
          obtain ⟨ws_70, rfl⟩ : ∃ z, z = u := ⟨_, rfl⟩
          have hT := hw_69
          have hP : va_P D vwCl ([] ++ ws_70) H := hP
          have hD : va_D A ([] ++ ws_70) := hD
          refine lv_aload_n hx hb dX1_warn_99 rfl (lv_at hl 2 rfl) ?_
          refine ty_get (E := []) (ws := ws_70) (D := D) (ci := 1) (C := RX1) (T := TX1) (N := 14) hx hb hts in_X1 hown hK hP hT h_h0 rfl 2 (by decide) (hts _ kl_RX1_25) (fun _ h9 => h9) rfl dX1_warn_100 (fun _ hv_71 hf_72 => ?_)
          obtain ⟨a_73, rfl, ha_74⟩ := hv_71
          refine lv_iload_n hx hb dX1_warn_103 rfl (lv_at hl 0 rfl) ?_
          refine ty_putN (v := .int 3) (ty := .int) (E := []) (ws := ws_70) (D := D) (ci := 4) (C := RX4) (T := TX4) (N := 7) hx hb hts in_X4 tyX4 tyX4_ok nmX4 hown hK hP hD hS hT ha_74 rfl 4 (by decide) (hts _ kl_RX1_159) (fun _ h9 => h9) rfl (by decide +kernel) rfl rfl rfl ⟨_, rfl⟩ dX1_warn_104 hph (hy1 4 4 a_73 rfl) (fun ws_75 H locs hT hP hD hS => ?_)
          exact W.vret hx hb hr (fun t ht hW => ⟨⟨ws_75, rfl, hT, by rw [ht]; exact hP, by rw [hAe]; exact hD⟩, hS.F ht⟩) hS.2.2 dX1_warn_107
    · refine lv_iconst (v := 2) hx hb dX1_warn_40 (by decide) ?_
      refine lv_istore_n (lv' := [(3, .int 2), (2, .ref a_3), (0, .ref h0), (1, .ref p1)]) hx hb dX1_warn_41 rfl hl (by decide) rfl (fun ls hl => ?_)
      refine lv_goto (tgt := 61) hx hb dX1_warn_42 (by decide) ?_
      refine lv_iload_n hx hb dX1_warn_61 rfl (lv_at hl 0 rfl) ?_
      refine lv_if_eq (tgt := 99) hx hb dX1_warn_62 (by decide) (fun hc => absurd hc (by decide)) (fun _ => ?_)
      refine lv_iload_n hx hb dX1_warn_65 rfl (lv_at hl 0 rfl) ?_
      refine lv_aload_n hx hb dX1_warn_66 rfl (lv_at hl 2 rfl) ?_
      refine ty_get (E := []) (ws := ws) (D := D) (ci := 1) (C := RX1) (T := TX1) (N := 14) hx hb hts in_X1 hown hK hP hT h_h0 rfl 2 (by decide) (hts _ kl_RX1_25) (fun _ h9 => h9) rfl dX1_warn_67 (fun _ hv_76 hf_77 => ?_)
      obtain ⟨a_78, rfl, ha_79⟩ := hv_76
      refine ty_getN (E := []) (ws := ws) (D := D) (ci := 4) (C := RX4) (T := TX4) (N := 7) hx hb hts in_X4 hown hK hP hT ha_79 rfl 4 (by decide) (hts _ kl_RX1_159) (fun _ h9 => h9) rfl dX1_warn_70 (fun _ hv_80 hf_81 => ?_)
      obtain ⟨x_82, rfl⟩ := hv_80
      refine lv_icmp_eq (tgt := 99) hx hb dX1_warn_73 (by decide) (fun hc_83 => ?_) (fun hc_83 => ?_)
      · refine lv_aload_n hx hb dX1_warn_99 rfl (lv_at hl 2 rfl) ?_
        refine ty_get (E := []) (ws := ws) (D := D) (ci := 1) (C := RX1) (T := TX1) (N := 14) hx hb hts in_X1 hown hK hP hT h_h0 rfl 2 (by decide) (hts _ kl_RX1_25) (fun _ h9 => h9) rfl dX1_warn_100 (fun _ hv_84 hf_85 => ?_)
        obtain ⟨a_86, rfl, ha_87⟩ := hv_84
        refine lv_iload_n hx hb dX1_warn_103 rfl (lv_at hl 0 rfl) ?_
        refine ty_putN (v := .int 2) (ty := .int) (E := []) (ws := ws) (D := D) (ci := 4) (C := RX4) (T := TX4) (N := 7) hx hb hts in_X4 tyX4 tyX4_ok nmX4 hown hK hP hD hS hT ha_87 rfl 4 (by decide) (hts _ kl_RX1_159) (fun _ h9 => h9) rfl (by decide +kernel) rfl rfl rfl ⟨_, rfl⟩ dX1_warn_104 hph (hy1 4 4 a_86 rfl) (fun ws_88 H locs hT hP hD hS => ?_)
        exact W.vret hx hb hr (fun t ht hW => ⟨⟨ws_88, rfl, hT, by rw [ht]; exact hP, by rw [hAe]; exact hD⟩, hS.F ht⟩) hS.2.2 dX1_warn_107
      · refine lv_aload_n hx hb dX1_warn_76 rfl (lv_at hl 2 rfl) ?_
        refine ty_get (E := []) (ws := ws) (D := D) (ci := 1) (C := RX1) (T := TX1) (N := 14) hx hb hts in_X1 hown hK hP hT h_h0 rfl 2 (by decide) (hts _ kl_RX1_25) (fun _ h9 => h9) rfl dX1_warn_77 (fun _ hv_89 hf_90 => ?_)
        obtain ⟨a_91, rfl, ha_92⟩ := hv_89
        refine lv_dup hx hb dX1_warn_80 rfl ?_
        refine ty_getN (E := []) (ws := ws) (D := D) (ci := 4) (C := RX4) (T := TX4) (N := 7) hx hb hts in_X4 hown hK hP hT ha_92 rfl 5 (by decide) (hts _ kl_RX1_219) (fun _ h9 => h9) rfl dX1_warn_81 (fun _ hv_93 hf_94 => ?_)
        obtain ⟨x_95, rfl⟩ := hv_93
        refine lv_iconst (v := 1) hx hb dX1_warn_84 (by decide) ?_
        refine lv_iadd hx hb dX1_warn_85 ?_
        refine lv_topi (fun x_96 _ => ?_)
        refine ty_putN (v := .int x_96) (ty := .int) (E := []) (ws := ws) (D := D) (ci := 4) (C := RX4) (T := TX4) (N := 7) hx hb hts in_X4 tyX4 tyX4_ok nmX4 hown hK hP hD hS hT ha_92 rfl 5 (by decide) (hts _ kl_RX1_219) (fun _ h9 => h9) rfl (by decide +kernel) rfl rfl rfl ⟨_, rfl⟩ dX1_warn_86 hph (hy1 4 5 a_91 rfl) (fun ws_97 H locs hT hP hD hS => ?_)
        refine lv_aload_n hx hb dX1_warn_89 rfl (lv_at hl 3 rfl) ?_
        refine lv_aload_n hx hb dX1_warn_90 rfl (lv_at hl 2 rfl) ?_
        refine ty_get (E := []) (ws := ws_97) (D := D) (ci := 1) (C := RX1) (T := TX1) (N := 14) hx hb hts in_X1 hown hK hP hT h_h0 rfl 0 (by decide) (hts _ kl_RX1_9) (fun _ h9 => h9) rfl dX1_warn_91 (fun _ hv_98 hf_99 => ?_)
        obtain ⟨x_100, rfl⟩ := hv_98
        refine lv_iconst (v := 4) hx hb dX1_warn_94 (by decide) ?_
        refine lv_iload_n hx hb dX1_warn_95 rfl (lv_at hl 0 rfl) ?_
        refine ty_kv (wr := []) (wc := ([] ++ ws_97)) (va_runVN (As := [.int x_100, .int 4, .int 2]) (rest := []) ⟨hx, hb, hml, hown, hts⟩ (t_X9_note l D ct S ws_97 ph xx p1 x_100 (4 : Int32) (2 : Int32) _ hT h_p1 hph hy1) (cm_VN 3 hts kc_X9_note ki_RX9 kl_RX1_100 kv_X9_note kx_X9_note kd_X9_note ⟨Nat.le_of_ble_eq_true rfl, Nat.le_of_ble_eq_true rfl⟩) (ty_preV (wr := []) (E := []) (ws := ws_97) (ci := 9) hP hK hD hS hA hX hT rfl h_p1) rfl rfl hl.1 rfl (lv_room (Nat.le_of_ble_eq_true rfl)) dX1_warn_96 ⟨Nat.le_of_ble_eq_true rfl, Nat.le_of_ble_eq_true rfl⟩) hP hD hS hA (fun u H locs hw_102 hP hD hS => ?_)
        obtain ⟨ws_103, rfl⟩ : ∃ z, z = u := ⟨_, rfl⟩
        have hT := hw_102
        have hP : va_P D vwCl ([] ++ ws_103) H := hP
        have hD : va_D A ([] ++ ws_103) := hD
        refine lv_aload_n hx hb dX1_warn_99 rfl (lv_at hl 2 rfl) ?_
        refine ty_get (E := []) (ws := ws_103) (D := D) (ci := 1) (C := RX1) (T := TX1) (N := 14) hx hb hts in_X1 hown hK hP hT h_h0 rfl 2 (by decide) (hts _ kl_RX1_25) (fun _ h9 => h9) rfl dX1_warn_100 (fun _ hv_104 hf_105 => ?_)
        obtain ⟨a_106, rfl, ha_107⟩ := hv_104
        refine lv_iload_n hx hb dX1_warn_103 rfl (lv_at hl 0 rfl) ?_
        refine ty_putN (v := .int 2) (ty := .int) (E := []) (ws := ws_103) (D := D) (ci := 4) (C := RX4) (T := TX4) (N := 7) hx hb hts in_X4 tyX4 tyX4_ok nmX4 hown hK hP hD hS hT ha_107 rfl 4 (by decide) (hts _ kl_RX1_159) (fun _ h9 => h9) rfl (by decide +kernel) rfl rfl rfl ⟨_, rfl⟩ dX1_warn_104 hph (hy1 4 4 a_106 rfl) (fun ws_108 H locs hT hP hD hS => ?_)
        exact W.vret hx hb hr (fun t ht hW => ⟨⟨ws_108, rfl, hT, by rw [ht]; exact hP, by rw [hAe]; exact hD⟩, hS.F ht⟩) hS.2.2 dX1_warn_107
  · refine lv_iconst (v := 1) hx hb dX1_warn_21 (by decide) ?_
    refine lv_istore_n (lv' := [(3, .int 1), (2, .ref a_3), (0, .ref h0), (1, .ref p1)]) hx hb dX1_warn_22 rfl hl (by decide) rfl (fun ls hl => ?_)
    refine lv_goto (tgt := 61) hx hb dX1_warn_23 (by decide) ?_
    refine lv_iload_n hx hb dX1_warn_61 rfl (lv_at hl 0 rfl) ?_
    refine lv_if_eq (tgt := 99) hx hb dX1_warn_62 (by decide) (fun hc => absurd hc (by decide)) (fun _ => ?_)
    refine lv_iload_n hx hb dX1_warn_65 rfl (lv_at hl 0 rfl) ?_
    refine lv_aload_n hx hb dX1_warn_66 rfl (lv_at hl 2 rfl) ?_
    refine ty_get (E := []) (ws := ws) (D := D) (ci := 1) (C := RX1) (T := TX1) (N := 14) hx hb hts in_X1 hown hK hP hT h_h0 rfl 2 (by decide) (hts _ kl_RX1_25) (fun _ h9 => h9) rfl dX1_warn_67 (fun _ hv_109 hf_110 => ?_)
    obtain ⟨a_111, rfl, ha_112⟩ := hv_109
    refine ty_getN (E := []) (ws := ws) (D := D) (ci := 4) (C := RX4) (T := TX4) (N := 7) hx hb hts in_X4 hown hK hP hT ha_112 rfl 4 (by decide) (hts _ kl_RX1_159) (fun _ h9 => h9) rfl dX1_warn_70 (fun _ hv_113 hf_114 => ?_)
    obtain ⟨x_115, rfl⟩ := hv_113
    refine lv_icmp_eq (tgt := 99) hx hb dX1_warn_73 (by decide) (fun hc_116 => ?_) (fun hc_116 => ?_)
    · refine lv_aload_n hx hb dX1_warn_99 rfl (lv_at hl 2 rfl) ?_
      refine ty_get (E := []) (ws := ws) (D := D) (ci := 1) (C := RX1) (T := TX1) (N := 14) hx hb hts in_X1 hown hK hP hT h_h0 rfl 2 (by decide) (hts _ kl_RX1_25) (fun _ h9 => h9) rfl dX1_warn_100 (fun _ hv_117 hf_118 => ?_)
      obtain ⟨a_119, rfl, ha_120⟩ := hv_117
      refine lv_iload_n hx hb dX1_warn_103 rfl (lv_at hl 0 rfl) ?_
      refine ty_putN (v := .int 1) (ty := .int) (E := []) (ws := ws) (D := D) (ci := 4) (C := RX4) (T := TX4) (N := 7) hx hb hts in_X4 tyX4 tyX4_ok nmX4 hown hK hP hD hS hT ha_120 rfl 4 (by decide) (hts _ kl_RX1_159) (fun _ h9 => h9) rfl (by decide +kernel) rfl rfl rfl ⟨_, rfl⟩ dX1_warn_104 hph (hy1 4 4 a_119 rfl) (fun ws_121 H locs hT hP hD hS => ?_)
      exact W.vret hx hb hr (fun t ht hW => ⟨⟨ws_121, rfl, hT, by rw [ht]; exact hP, by rw [hAe]; exact hD⟩, hS.F ht⟩) hS.2.2 dX1_warn_107
    · refine lv_aload_n hx hb dX1_warn_76 rfl (lv_at hl 2 rfl) ?_
      refine ty_get (E := []) (ws := ws) (D := D) (ci := 1) (C := RX1) (T := TX1) (N := 14) hx hb hts in_X1 hown hK hP hT h_h0 rfl 2 (by decide) (hts _ kl_RX1_25) (fun _ h9 => h9) rfl dX1_warn_77 (fun _ hv_122 hf_123 => ?_)
      obtain ⟨a_124, rfl, ha_125⟩ := hv_122
      refine lv_dup hx hb dX1_warn_80 rfl ?_
      refine ty_getN (E := []) (ws := ws) (D := D) (ci := 4) (C := RX4) (T := TX4) (N := 7) hx hb hts in_X4 hown hK hP hT ha_125 rfl 5 (by decide) (hts _ kl_RX1_219) (fun _ h9 => h9) rfl dX1_warn_81 (fun _ hv_126 hf_127 => ?_)
      obtain ⟨x_128, rfl⟩ := hv_126
      refine lv_iconst (v := 1) hx hb dX1_warn_84 (by decide) ?_
      refine lv_iadd hx hb dX1_warn_85 ?_
      refine lv_topi (fun x_129 _ => ?_)
      refine ty_putN (v := .int x_129) (ty := .int) (E := []) (ws := ws) (D := D) (ci := 4) (C := RX4) (T := TX4) (N := 7) hx hb hts in_X4 tyX4 tyX4_ok nmX4 hown hK hP hD hS hT ha_125 rfl 5 (by decide) (hts _ kl_RX1_219) (fun _ h9 => h9) rfl (by decide +kernel) rfl rfl rfl ⟨_, rfl⟩ dX1_warn_86 hph (hy1 4 5 a_124 rfl) (fun ws_130 H locs hT hP hD hS => ?_)
      refine lv_aload_n hx hb dX1_warn_89 rfl (lv_at hl 3 rfl) ?_
      refine lv_aload_n hx hb dX1_warn_90 rfl (lv_at hl 2 rfl) ?_
      refine ty_get (E := []) (ws := ws_130) (D := D) (ci := 1) (C := RX1) (T := TX1) (N := 14) hx hb hts in_X1 hown hK hP hT h_h0 rfl 0 (by decide) (hts _ kl_RX1_9) (fun _ h9 => h9) rfl dX1_warn_91 (fun _ hv_131 hf_132 => ?_)
      obtain ⟨x_133, rfl⟩ := hv_131
      refine lv_iconst (v := 4) hx hb dX1_warn_94 (by decide) ?_
      refine lv_iload_n hx hb dX1_warn_95 rfl (lv_at hl 0 rfl) ?_
      refine ty_kv (wr := []) (wc := ([] ++ ws_130)) (va_runVN (As := [.int x_133, .int 4, .int 1]) (rest := []) ⟨hx, hb, hml, hown, hts⟩ (t_X9_note l D ct S ws_130 ph xx p1 x_133 (4 : Int32) (1 : Int32) _ hT h_p1 hph hy1) (cm_VN 3 hts kc_X9_note ki_RX9 kl_RX1_100 kv_X9_note kx_X9_note kd_X9_note ⟨Nat.le_of_ble_eq_true rfl, Nat.le_of_ble_eq_true rfl⟩) (ty_preV (wr := []) (E := []) (ws := ws_130) (ci := 9) hP hK hD hS hA hX hT rfl h_p1) rfl rfl hl.1 rfl (lv_room (Nat.le_of_ble_eq_true rfl)) dX1_warn_96 ⟨Nat.le_of_ble_eq_true rfl, Nat.le_of_ble_eq_true rfl⟩) hP hD hS hA (fun u H locs hw_135 hP hD hS => ?_)
      obtain ⟨ws_136, rfl⟩ : ∃ z, z = u := ⟨_, rfl⟩
      have hT := hw_135
      have hP : va_P D vwCl ([] ++ ws_136) H := hP
      have hD : va_D A ([] ++ ws_136) := hD
      refine lv_aload_n hx hb dX1_warn_99 rfl (lv_at hl 2 rfl) ?_
      refine ty_get (E := []) (ws := ws_136) (D := D) (ci := 1) (C := RX1) (T := TX1) (N := 14) hx hb hts in_X1 hown hK hP hT h_h0 rfl 2 (by decide) (hts _ kl_RX1_25) (fun _ h9 => h9) rfl dX1_warn_100 (fun _ hv_137 hf_138 => ?_)
      obtain ⟨a_139, rfl, ha_140⟩ := hv_137
      refine lv_iload_n hx hb dX1_warn_103 rfl (lv_at hl 0 rfl) ?_
      refine ty_putN (v := .int 1) (ty := .int) (E := []) (ws := ws_136) (D := D) (ci := 4) (C := RX4) (T := TX4) (N := 7) hx hb hts in_X4 tyX4 tyX4_ok nmX4 hown hK hP hD hS hT ha_140 rfl 4 (by decide) (hts _ kl_RX1_159) (fun _ h9 => h9) rfl (by decide +kernel) rfl rfl rfl ⟨_, rfl⟩ dX1_warn_104 hph (hy1 4 4 a_139 rfl) (fun ws_141 H locs hT hP hD hS => ?_)
      exact W.vret hx hb hr (fun t ht hW => ⟨⟨ws_141, rfl, hT, by rw [ht]; exact hP, by rw [hAe]; exact hD⟩, hS.F ht⟩) hS.2.2 dX1_warn_107
