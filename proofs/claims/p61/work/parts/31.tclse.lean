theorem dX10_stepValue_0 : decode cX10_stepValue 0 = .ok (.aload_n 0, 1) := by decide +kernel
theorem dX10_stepValue_1 : decode cX10_stepValue 1 = .ok (.iload_n 1, 1) := by decide +kernel
theorem dX10_stepValue_2 : decode cX10_stepValue 2 = .ok (.invokevirtual 146, 3) := by decide +kernel
theorem dX10_stepValue_5 : decode cX10_stepValue 5 = .ok (.iload_n 3, 1) := by decide +kernel
theorem dX10_stepValue_6 : decode cX10_stepValue 6 = .ok (.iconst 0, 1) := by decide +kernel
theorem dX10_stepValue_7 : decode cX10_stepValue 7 = .ok (.iconst 2, 1) := by decide +kernel
theorem dX10_stepValue_8 : decode cX10_stepValue 8 = .ok (.invokestatic 81, 3) := by decide +kernel
theorem dX10_stepValue_11 : decode cX10_stepValue 11 = .ok (.iload_n 2, 1) := by decide +kernel
theorem dX10_stepValue_12 : decode cX10_stepValue 12 = .ok (.ifCond .lt 18, 3) := by decide +kernel
theorem dX10_stepValue_15 : decode cX10_stepValue 15 = .ok (.iload_n 2, 1) := by decide +kernel
theorem dX10_stepValue_16 : decode cX10_stepValue 16 = .ok (.aload_n 0, 1) := by decide +kernel
theorem dX10_stepValue_17 : decode cX10_stepValue 17 = .ok (.getfield 10, 3) := by decide +kernel
theorem dX10_stepValue_20 : decode cX10_stepValue 20 = .ok (.getfield 85, 3) := by decide +kernel
theorem dX10_stepValue_23 : decode cX10_stepValue 23 = .ok (.iload_n 1, 1) := by decide +kernel
theorem dX10_stepValue_24 : decode cX10_stepValue 24 = .ok (.invokevirtual 150, 3) := by decide +kernel
theorem dX10_stepValue_27 : decode cX10_stepValue 27 = .ok (.if_icmp .lt 5, 3) := by decide +kernel
theorem dX10_stepValue_30 : decode cX10_stepValue 30 = .ok (.iconst (-1), 1) := by decide +kernel
theorem dX10_stepValue_31 : decode cX10_stepValue 31 = .ok (.ireturn, 1) := by decide +kernel
theorem dX10_stepValue_32 : decode cX10_stepValue 32 = .ok (.iload_n 3, 1) := by decide +kernel
theorem dX10_stepValue_33 : decode cX10_stepValue 33 = .ok (.lookupswitch 53 #[(0, 27), (1, 40)], 27) := by decide +kernel
theorem dX10_stepValue_60 : decode cX10_stepValue 60 = .ok (.aload_n 0, 1) := by decide +kernel
theorem dX10_stepValue_61 : decode cX10_stepValue 61 = .ok (.getfield 10, 3) := by decide +kernel
theorem dX10_stepValue_64 : decode cX10_stepValue 64 = .ok (.getfield 85, 3) := by decide +kernel
theorem dX10_stepValue_67 : decode cX10_stepValue 67 = .ok (.iload_n 1, 1) := by decide +kernel
theorem dX10_stepValue_68 : decode cX10_stepValue 68 = .ok (.iload_n 2, 1) := by decide +kernel
theorem dX10_stepValue_69 : decode cX10_stepValue 69 = .ok (.invokevirtual 154, 3) := by decide +kernel
theorem dX10_stepValue_72 : decode cX10_stepValue 72 = .ok (.ireturn, 1) := by decide +kernel
theorem dX10_stepValue_73 : decode cX10_stepValue 73 = .ok (.aload_n 0, 1) := by decide +kernel
theorem dX10_stepValue_74 : decode cX10_stepValue 74 = .ok (.getfield 10, 3) := by decide +kernel
theorem dX10_stepValue_77 : decode cX10_stepValue 77 = .ok (.getfield 85, 3) := by decide +kernel
theorem dX10_stepValue_80 : decode cX10_stepValue 80 = .ok (.iload_n 1, 1) := by decide +kernel
theorem dX10_stepValue_81 : decode cX10_stepValue 81 = .ok (.iload_n 2, 1) := by decide +kernel
theorem dX10_stepValue_82 : decode cX10_stepValue 82 = .ok (.invokevirtual 158, 3) := by decide +kernel
theorem dX10_stepValue_85 : decode cX10_stepValue 85 = .ok (.ireturn, 1) := by decide +kernel
theorem dX10_stepValue_86 : decode cX10_stepValue 86 = .ok (.aload_n 0, 1) := by decide +kernel
theorem dX10_stepValue_87 : decode cX10_stepValue 87 = .ok (.getfield 10, 3) := by decide +kernel
theorem dX10_stepValue_90 : decode cX10_stepValue 90 = .ok (.getfield 85, 3) := by decide +kernel
theorem dX10_stepValue_93 : decode cX10_stepValue 93 = .ok (.iload_n 1, 1) := by decide +kernel
theorem dX10_stepValue_94 : decode cX10_stepValue 94 = .ok (.iload_n 2, 1) := by decide +kernel
theorem dX10_stepValue_95 : decode cX10_stepValue 95 = .ok (.invokevirtual 161, 3) := by decide +kernel
theorem dX10_stepValue_98 : decode cX10_stepValue 98 = .ok (.ireturn, 1) := by decide +kernel
set_option maxRecDepth 100000 in
set_option maxHeartbeats 4000000 in
theorem t_X10_stepValue (l : Launch) (hfl : l.stackTraces = false) (D : va_G) (ct : Nat → ClassId) (S : ty_S) (ws : va_W) (ph : va_W → Prop) (xx : Nat → Nat → Nat → Prop) (x : Nat) (w : Nat) (sp : Nat) (sv : Nat) (bu : Nat) (ns : Nat) (bl : Int32) (le : Int32) (p1 : Int32) (p2 : Int32) (p3 : Int32) (sz : Nat) (hT : ty_V ct S ph ws) (h_w : S w = some (.inl 9)) (h_sp : S sp = some (.inl 9)) (h_sv : S sv = some (.inr (4, ns))) (hph : ty_C ph xx) (hy1 : ty_y1 xx) : vx_Met l yX10_stepValue (ws_ yX10_stepValue cX10_stepValue 4 (some .int)) ({ frames := 7, cells := 2, slots := 12, locals := 112 } : Room) (va_Pc [.ref x, .int p1, .int p2, .int p3] (cmP D ct sz ([(ty_XO x w sp sv bu bl le)] ++ ws))) (va_Qi (fun (r : Int32) (u9 : va_W) => ty_V ct S ph u9) (cmB D ([(ty_XO x w sp sv bu bl le)] ++ ws) sz (fun (u9 : va_W) => ([(ty_XO x w sp sv bu bl le)] ++ u9))) (va_A ([(ty_XO x w sp sv bu bl le)] ++ ws) sz)) (vx_X (fun (u9 : va_W) => ty_V ct S ph u9) (cmBY D ([(ty_XO x w sp sv bu bl le)] ++ ws) sz ["java/lang/IllegalArgumentException", "java/lang/IndexOutOfBoundsException"] (fun (u9 : va_W) => ([(ty_XO x w sp sv bu bl le)] ++ u9))) (va_A ([(ty_XO x w sp sv bu bl le)] ++ ws) sz)) 2 12 (va_A ([(ty_XO x w sp sv bu bl le)] ++ ws) sz) := by
  refine vx_ofW (cc := cX10_stepValue) (maxL := 4) (ret := (some .int)) (by decide) rfl ?_
  intro p e s m args below meth c s₁ B hml hex hv
  obtain ⟨rfl, hsz, hP, hK, hD0, hX⟩ := hv
  have hx := B.exec
  have hb := B.bytes
  have hr := B.returns
  have hts := ws_all (atoms_spec (ws := ws_ yX10_stepValue cX10_stepValue 4 (some .int)) B.pre)
  have hown : s.vm.findClass RX10 = some m.cls := findClass_of_methodNamed B.named
  have hlocks := B.notSynchronized
  subst hsz
  have hD := hD0.self (sz := s.heap.size)
  generalize hAe : va_A ([(ty_XO x w sp sv bu bl le)] ++ ws) s.heap.size = A at hD hX ⊢
  have hA : ∀ q : Nat, s.heap.size ≤ q → A q := fun q h => by rw [← hAe]; exact Or.inr h
  have hS : va_S A s.heap s.heap [] := va_S.rf
  have hl := lv_entry ([.ref x, .int p1, .int p2, .int p3]) (n := 4) (Nat.le_of_ble_eq_true rfl)
  rw [lg_entry_eq]
  generalize (lg_sl ([.ref x, .int p1, .int p2, .int p3]) ++ List.replicate (4 - (lg_sl ([.ref x, .int p1, .int p2, .int p3])).length) Slot.unset).toArray = ls at hl ⊢
  have hl : lv_has ls 4 [(0, .ref x), (1, .int p1), (2, .int p2), (3, .int p3)] := hl
  refine lv_aload_n hx hb dX10_stepValue_0 rfl (lv_at hl 0 rfl) ?_
  refine lv_iload_n hx hb dX10_stepValue_1 rfl (lv_at hl 1 rfl) ?_
  refine ty_xv (wr := []) (wc := ([(ty_XO x w sp sv bu bl le)] ++ ws)) (vx_runV (As := [.int p1]) (rest := []) ⟨hx, hb, hml, hown, hts⟩ (t_X10_needProgram l hfl D ct S ws ph xx x w sp sv bu ns bl le p1 _ hT h_w h_sp h_sv hph hy1) (cm_V 1 hts kc_X10_needProgram ki_RX10 kl_RX10_146 kv_X10_needProgram kx_X10_needProgram kd_X10_needProgram ⟨Nat.le_of_ble_eq_true rfl, Nat.le_of_ble_eq_true rfl⟩) (ty_preE (wr := []) (wc := ([(ty_XO x w sp sv bu bl le)] ++ ws)) (ci := 10) (q0 := 0) hP hK hD hS hA hX rfl rfl) rfl rfl hl.1 rfl (lv_room (Nat.le_of_ble_eq_true rfl)) dX10_stepValue_2 ⟨Nat.le_of_ble_eq_true rfl, Nat.le_of_ble_eq_true rfl⟩) hP hD hS hA (fun E ce q9 u H locs hu hE hP hD hS hce hcv hcl => ?_) (fun u H locs hw_2 hP hD hS => ?_)
  · obtain ⟨ws_3, rfl⟩ : ∃ z, z = u := ⟨_, rfl⟩
    have hT := hu
    have hP : va_P D vwCl ([(ty_XO x w sp sv bu bl le)] ++ ws_3) H := hP
    have hD : va_D A ([(ty_XO x w sp sv bu bl le)] ++ ws_3) := hD
    exact vx_out (fun x hx => (hex x hx).elim) hlocks hce hcv hcl (fun t ht hW => ⟨ws_3, hT, ⟨(ty_mem hE (by decide)), by rw [ht]; exact hP, by rw [hAe]; exact hD⟩, hS.F ht⟩) hS.2.2 (Nat.le_of_ble_eq_true rfl) (Nat.le_of_ble_eq_true rfl)
  · obtain ⟨ws_4, rfl⟩ : ∃ z, z = u := ⟨_, rfl⟩
    have hT := hw_2
    have hP : va_P D vwCl ([(ty_XO x w sp sv bu bl le)] ++ ws_4) H := hP
    have hD : va_D A ([(ty_XO x w sp sv bu bl le)] ++ ws_4) := hD
    refine W.widen (k := 1) (n := 6) (Nat.le_of_ble_eq_true rfl) (Nat.le_of_ble_eq_true rfl) ?_
    refine lv_iload_n hx hb dX10_stepValue_5 rfl (lv_at hl 3 rfl) ?_
    refine lv_iconst (v := 0) hx hb dX10_stepValue_6 (by decide) ?_
    refine lv_iconst (v := 2) hx hb dX10_stepValue_7 (by decide) ?_
    refine ty_xv (wr := [(ty_XO x w sp sv bu bl le)]) (wc := ([] ++ ws_4)) (vx_runS (As := [.int p3, .int 0, .int 2]) (rest := []) ⟨hx, hb, hml, hown, hts⟩ (t_X10_needRange l hfl D ct S ws_4 ph xx p3 (0 : Int32) (2 : Int32) _ hT hph hy1) (cm_S 3 hts kc_X10_needRange ki_RX10 kl_RX10_81 ks_X10_needRange kd_X10_needRange ⟨Nat.le_of_ble_eq_true rfl, Nat.le_of_ble_eq_true rfl⟩) (ty_preS (wr := [(ty_XO x w sp sv bu bl le)]) (wc := ([] ++ ws_4)) hP hK hD hS hA hX) rfl rfl hl.1 rfl (lv_room (Nat.le_of_ble_eq_true rfl)) dX10_stepValue_8 ⟨Nat.le_of_ble_eq_true rfl, Nat.le_of_ble_eq_true rfl⟩) hP hD hS hA (fun E ce q9 u H locs hu hE hP hD hS hce hcv hcl => ?_) (fun u H locs hw_6 hP hD hS => ?_)
    · obtain ⟨ws_7, rfl⟩ : ∃ z, z = u := ⟨_, rfl⟩
      have hT := hu
      have hP : va_P D vwCl ([(ty_XO x w sp sv bu bl le)] ++ ws_7) H := hP
      have hD : va_D A ([(ty_XO x w sp sv bu bl le)] ++ ws_7) := hD
      exact vx_out (fun x hx => (hex x hx).elim) hlocks hce hcv hcl (fun t ht hW => ⟨ws_7, hT, ⟨(ty_mem hE (by decide)), by rw [ht]; exact hP, by rw [hAe]; exact hD⟩, hS.F ht⟩) hS.2.2 (Nat.le_of_ble_eq_true rfl) (Nat.le_of_ble_eq_true rfl)
    · obtain ⟨ws_8, rfl⟩ : ∃ z, z = u := ⟨_, rfl⟩
      have hT := hw_6
      have hP : va_P D vwCl ([(ty_XO x w sp sv bu bl le)] ++ ws_8) H := hP
      have hD : va_D A ([(ty_XO x w sp sv bu bl le)] ++ ws_8) := hD
      refine W.widen (k := 2) (n := 12) (Nat.le_of_ble_eq_true rfl) (Nat.le_of_ble_eq_true rfl) ?_
      refine lv_iload_n hx hb dX10_stepValue_11 rfl (lv_at hl 2 rfl) ?_
      refine lv_if_lt (tgt := 30) hx hb dX10_stepValue_12 (by decide) (fun hc_9 => ?_) (fun hc_9 => ?_)
      · refine lv_iconst (v := (-1)) hx hb dX10_stepValue_30 (by decide) ?_
        refine vx_ret ?_
        exact W.iret (v := (-1)) hx hb hr (fun t ht hW => ⟨⟨(-1), ws_8, rfl, hT, by rw [ht]; exact hP, by rw [hAe]; exact hD⟩, hS.F ht⟩) hS.2.2 dX10_stepValue_31
      · refine lv_iload_n hx hb dX10_stepValue_15 rfl (lv_at hl 2 rfl) ?_
        refine lv_aload_n hx hb dX10_stepValue_16 rfl (lv_at hl 0 rfl) ?_
        refine va_get (v := .ref w) (D := D) (ci := 10) (C := RX10) (T := TX10) (N := 6) hx hb hts in_X10 hown hK hP 0 rfl rfl 0 (by decide) (hts _ kl_RX10_10) (fun _ h9 => h9) rfl dX10_stepValue_17 ?_
        refine ty_getN (E := [(ty_XO x w sp sv bu bl le)]) (ws := ws_8) (D := D) (ci := 9) (C := RX9) (T := TX9) (N := 8) hx hb hts in_X9 hown hK hP hT h_w rfl 3 (by decide) (hts _ kl_RX10_85) (fun _ h9 => h9) rfl dX10_stepValue_20 (fun _ hv_10 hf_11 => ?_)
        obtain ⟨a_12, rfl, ha_13⟩ := hv_10
        refine lv_iload_n hx hb dX10_stepValue_23 rfl (lv_at hl 1 rfl) ?_
        refine ty_ki (wr := [(ty_XO x w sp sv bu bl le)]) (wc := ([] ++ ws_8)) (va_runVN (As := [.int p1]) (rest := [.int p2]) ⟨hx, hb, hml, hown, hts⟩ (t_X5_stepsOf l D ct S ws_8 ph xx a_12 p1 _ hT ha_13 hph hy1) (cm_VN 1 hts kc_X5_stepsOf ki_RX5 kl_RX10_150 kv_X5_stepsOf kx_X5_stepsOf kd_X5_stepsOf ⟨Nat.le_of_ble_eq_true rfl, Nat.le_of_ble_eq_true rfl⟩) (ty_preV (wr := [(ty_XO x w sp sv bu bl le)]) (E := []) (ws := ws_8) (ci := 5) hP hK hD hS hA hX hT rfl ha_13) rfl rfl hl.1 rfl (lv_room (Nat.le_of_ble_eq_true rfl)) dX10_stepValue_24 ⟨Nat.le_of_ble_eq_true rfl, Nat.le_of_ble_eq_true rfl⟩) hP hD hS hA (fun r_14 u H locs hw_15 hP hD hS => ?_)
        obtain ⟨ws_16, rfl⟩ : ∃ z, z = u := ⟨_, rfl⟩
        have hT := hw_15
        have hP : va_P D vwCl ([(ty_XO x w sp sv bu bl le)] ++ ws_16) H := hP
        have hD : va_D A ([(ty_XO x w sp sv bu bl le)] ++ ws_16) := hD
        refine lv_icmp_lt (tgt := 32) hx hb dX10_stepValue_27 (by decide) (fun hc_17 => ?_) (fun hc_17 => ?_)
        · refine lv_iload_n hx hb dX10_stepValue_32 rfl (lv_at hl 3 rfl) ?_
          by_cases hk_18 : p3 = 0
          · refine cm_cst hk_18 (lv_lookup (off := 27) (tgt := 60) hx hb dX10_stepValue_33 (by decide) (by decide) (by decide) ?_)
            refine lv_aload_n hx hb dX10_stepValue_60 rfl (lv_at hl 0 rfl) ?_
            refine va_get (v := .ref w) (D := D) (ci := 10) (C := RX10) (T := TX10) (N := 6) hx hb hts in_X10 hown hK hP 0 rfl rfl 0 (by decide) (hts _ kl_RX10_10) (fun _ h9 => h9) rfl dX10_stepValue_61 ?_
            refine ty_getN (E := [(ty_XO x w sp sv bu bl le)]) (ws := ws_16) (D := D) (ci := 9) (C := RX9) (T := TX9) (N := 8) hx hb hts in_X9 hown hK hP hT h_w rfl 3 (by decide) (hts _ kl_RX10_85) (fun _ h9 => h9) rfl dX10_stepValue_64 (fun _ hv_19 hf_20 => ?_)
            obtain ⟨a_21, rfl, ha_22⟩ := hv_19
            refine lv_iload_n hx hb dX10_stepValue_67 rfl (lv_at hl 1 rfl) ?_
            refine lv_iload_n hx hb dX10_stepValue_68 rfl (lv_at hl 2 rfl) ?_
            refine ty_ki (wr := [(ty_XO x w sp sv bu bl le)]) (wc := ([] ++ ws_16)) (va_runVN (As := [.int p1, .int p2]) (rest := []) ⟨hx, hb, hml, hown, hts⟩ (t_X5_kindOf l D ct S ws_16 ph xx a_21 p1 p2 _ hT ha_22 hph hy1) (cm_VN 2 hts kc_X5_kindOf ki_RX5 kl_RX10_154 kv_X5_kindOf kx_X5_kindOf kd_X5_kindOf ⟨Nat.le_of_ble_eq_true rfl, Nat.le_of_ble_eq_true rfl⟩) (ty_preV (wr := [(ty_XO x w sp sv bu bl le)]) (E := []) (ws := ws_16) (ci := 5) hP hK hD hS hA hX hT rfl ha_22) rfl rfl hl.1 rfl (lv_room (Nat.le_of_ble_eq_true rfl)) dX10_stepValue_69 ⟨Nat.le_of_ble_eq_true rfl, Nat.le_of_ble_eq_true rfl⟩) hP hD hS hA (fun r_23 u H locs hw_24 hP hD hS => ?_)
            obtain ⟨ws_25, rfl⟩ : ∃ z, z = u := ⟨_, rfl⟩
            have hT := hw_24
            have hP : va_P D vwCl ([(ty_XO x w sp sv bu bl le)] ++ ws_25) H := hP
            have hD : va_D A ([(ty_XO x w sp sv bu bl le)] ++ ws_25) := hD
            refine vx_ret ?_
            exact W.iret (v := r_23) hx hb hr (fun t ht hW => ⟨⟨r_23, ws_25, rfl, hT, by rw [ht]; exact hP, by rw [hAe]; exact hD⟩, hS.F ht⟩) hS.2.2 dX10_stepValue_72
          by_cases hk_26 : p3 = 1
          · refine cm_cst hk_26 (lv_lookup (off := 40) (tgt := 73) hx hb dX10_stepValue_33 (by decide) (by decide) (by decide) ?_)
            refine lv_aload_n hx hb dX10_stepValue_73 rfl (lv_at hl 0 rfl) ?_
            refine va_get (v := .ref w) (D := D) (ci := 10) (C := RX10) (T := TX10) (N := 6) hx hb hts in_X10 hown hK hP 0 rfl rfl 0 (by decide) (hts _ kl_RX10_10) (fun _ h9 => h9) rfl dX10_stepValue_74 ?_
            refine ty_getN (E := [(ty_XO x w sp sv bu bl le)]) (ws := ws_16) (D := D) (ci := 9) (C := RX9) (T := TX9) (N := 8) hx hb hts in_X9 hown hK hP hT h_w rfl 3 (by decide) (hts _ kl_RX10_85) (fun _ h9 => h9) rfl dX10_stepValue_77 (fun _ hv_27 hf_28 => ?_)
            obtain ⟨a_29, rfl, ha_30⟩ := hv_27
            refine lv_iload_n hx hb dX10_stepValue_80 rfl (lv_at hl 1 rfl) ?_
            refine lv_iload_n hx hb dX10_stepValue_81 rfl (lv_at hl 2 rfl) ?_
            refine ty_ki (wr := [(ty_XO x w sp sv bu bl le)]) (wc := ([] ++ ws_16)) (va_runVN (As := [.int p1, .int p2]) (rest := []) ⟨hx, hb, hml, hown, hts⟩ (t_X5_firstOf l D ct S ws_16 ph xx a_29 p1 p2 _ hT ha_30 hph hy1) (cm_VN 2 hts kc_X5_firstOf ki_RX5 kl_RX10_158 kv_X5_firstOf kx_X5_firstOf kd_X5_firstOf ⟨Nat.le_of_ble_eq_true rfl, Nat.le_of_ble_eq_true rfl⟩) (ty_preV (wr := [(ty_XO x w sp sv bu bl le)]) (E := []) (ws := ws_16) (ci := 5) hP hK hD hS hA hX hT rfl ha_30) rfl rfl hl.1 rfl (lv_room (Nat.le_of_ble_eq_true rfl)) dX10_stepValue_82 ⟨Nat.le_of_ble_eq_true rfl, Nat.le_of_ble_eq_true rfl⟩) hP hD hS hA (fun r_31 u H locs hw_32 hP hD hS => ?_)
            obtain ⟨ws_33, rfl⟩ : ∃ z, z = u := ⟨_, rfl⟩
            have hT := hw_32
            have hP : va_P D vwCl ([(ty_XO x w sp sv bu bl le)] ++ ws_33) H := hP
            have hD : va_D A ([(ty_XO x w sp sv bu bl le)] ++ ws_33) := hD
            refine vx_ret ?_
            exact W.iret (v := r_31) hx hb hr (fun t ht hW => ⟨⟨r_31, ws_33, rfl, hT, by rw [ht]; exact hP, by rw [hAe]; exact hD⟩, hS.F ht⟩) hS.2.2 dX10_stepValue_85
          refine lv_lookup (off := 53) (tgt := 86) hx hb dX10_stepValue_33 (by decide) (ty_lk01 hk_18 hk_26) (by decide) ?_
          refine lv_aload_n hx hb dX10_stepValue_86 rfl (lv_at hl 0 rfl) ?_
          refine va_get (v := .ref w) (D := D) (ci := 10) (C := RX10) (T := TX10) (N := 6) hx hb hts in_X10 hown hK hP 0 rfl rfl 0 (by decide) (hts _ kl_RX10_10) (fun _ h9 => h9) rfl dX10_stepValue_87 ?_
          refine ty_getN (E := [(ty_XO x w sp sv bu bl le)]) (ws := ws_16) (D := D) (ci := 9) (C := RX9) (T := TX9) (N := 8) hx hb hts in_X9 hown hK hP hT h_w rfl 3 (by decide) (hts _ kl_RX10_85) (fun _ h9 => h9) rfl dX10_stepValue_90 (fun _ hv_34 hf_35 => ?_)
          obtain ⟨a_36, rfl, ha_37⟩ := hv_34
          refine lv_iload_n hx hb dX10_stepValue_93 rfl (lv_at hl 1 rfl) ?_
          refine lv_iload_n hx hb dX10_stepValue_94 rfl (lv_at hl 2 rfl) ?_
          refine ty_ki (wr := [(ty_XO x w sp sv bu bl le)]) (wc := ([] ++ ws_16)) (va_runVN (As := [.int p1, .int p2]) (rest := []) ⟨hx, hb, hml, hown, hts⟩ (t_X5_secondOf l D ct S ws_16 ph xx a_36 p1 p2 _ hT ha_37 hph hy1) (cm_VN 2 hts kc_X5_secondOf ki_RX5 kl_RX10_161 kv_X5_secondOf kx_X5_secondOf kd_X5_secondOf ⟨Nat.le_of_ble_eq_true rfl, Nat.le_of_ble_eq_true rfl⟩) (ty_preV (wr := [(ty_XO x w sp sv bu bl le)]) (E := []) (ws := ws_16) (ci := 5) hP hK hD hS hA hX hT rfl ha_37) rfl rfl hl.1 rfl (lv_room (Nat.le_of_ble_eq_true rfl)) dX10_stepValue_95 ⟨Nat.le_of_ble_eq_true rfl, Nat.le_of_ble_eq_true rfl⟩) hP hD hS hA (fun r_38 u H locs hw_39 hP hD hS => ?_)
          obtain ⟨ws_40, rfl⟩ : ∃ z, z = u := ⟨_, rfl⟩
          have hT := hw_39
          have hP : va_P D vwCl ([(ty_XO x w sp sv bu bl le)] ++ ws_40) H := hP
          have hD : va_D A ([(ty_XO x w sp sv bu bl le)] ++ ws_40) := hD
          refine vx_ret ?_
          exact W.iret (v := r_38) hx hb hr (fun t ht hW => ⟨⟨r_38, ws_40, rfl, hT, by rw [ht]; exact hP, by rw [hAe]; exact hD⟩, hS.F ht⟩) hS.2.2 dX10_stepValue_98
        · refine lv_iconst (v := (-1)) hx hb dX10_stepValue_30 (by decide) ?_
          refine vx_ret ?_
          exact W.iret (v := (-1)) hx hb hr (fun t ht hW => ⟨⟨(-1), ws_16, rfl, hT, by rw [ht]; exact hP, by rw [hAe]; exact hD⟩, hS.F ht⟩) hS.2.2 dX10_stepValue_31
theorem dX10_pause_0 : decode cX10_pause 0 = .ok (.aload_n 0, 1) := by decide +kernel
theorem dX10_pause_1 : decode cX10_pause 1 = .ok (.iload_n 1, 1) := by decide +kernel
theorem dX10_pause_2 : decode cX10_pause 2 = .ok (.invokevirtual 172, 3) := by decide +kernel
theorem dX10_pause_5 : decode cX10_pause 5 = .ok (.astore_n 2, 1) := by decide +kernel
theorem dX10_pause_6 : decode cX10_pause 6 = .ok (.aload_n 2, 1) := by decide +kernel
theorem dX10_pause_7 : decode cX10_pause 7 = .ok (.getfield 129, 3) := by decide +kernel
theorem dX10_pause_10 : decode cX10_pause 10 = .ok (.iconst 1, 1) := by decide +kernel
theorem dX10_pause_11 : decode cX10_pause 11 = .ok (.if_icmp .eq 6, 3) := by decide +kernel
theorem dX10_pause_14 : decode cX10_pause 14 = .ok (.bipush (-3), 2) := by decide +kernel
theorem dX10_pause_16 : decode cX10_pause 16 = .ok (.ireturn, 1) := by decide +kernel
theorem dX10_pause_17 : decode cX10_pause 17 = .ok (.aload_n 2, 1) := by decide +kernel
theorem dX10_pause_18 : decode cX10_pause 18 = .ok (.iconst 2, 1) := by decide +kernel
theorem dX10_pause_19 : decode cX10_pause 19 = .ok (.putfield 129, 3) := by decide +kernel
theorem dX10_pause_22 : decode cX10_pause 22 = .ok (.aload_n 2, 1) := by decide +kernel
theorem dX10_pause_23 : decode cX10_pause 23 = .ok (.getfield 191, 3) := by decide +kernel
theorem dX10_pause_26 : decode cX10_pause 26 = .ok (.ireturn, 1) := by decide +kernel
set_option maxRecDepth 100000 in
set_option maxHeartbeats 4000000 in
theorem t_X10_pause (l : Launch) (hfl : l.stackTraces = false) (D : va_G) (ct : Nat → ClassId) (S : ty_S) (ws : va_W) (ph : va_W → Prop) (xx : Nat → Nat → Nat → Prop) (x : Nat) (w : Nat) (sp : Nat) (sv : Nat) (bu : Nat) (ns : Nat) (bl : Int32) (le : Int32) (p1 : Int32) (sz : Nat) (hT : ty_V ct S ph ws) (h_w : S w = some (.inl 9)) (h_sp : S sp = some (.inl 9)) (h_sv : S sv = some (.inr (4, ns))) (hph : ty_C ph xx) (hy1 : ty_y1 xx) : vx_Met l yX10_pause (ws_ yX10_pause cX10_pause 3 (some .int)) ({ frames := 7, cells := 1, slots := 6, locals := 112 } : Room) (va_Pc [.ref x, .int p1] (cmP D ct sz ([(ty_XO x w sp sv bu bl le)] ++ ws))) (va_Qi (fun (r : Int32) (u9 : va_W) => ty_V ct S ph u9) (cmB D ([(ty_XO x w sp sv bu bl le)] ++ ws) sz (fun (u9 : va_W) => ([(ty_XO x w sp sv bu bl le)] ++ u9))) (va_A ([(ty_XO x w sp sv bu bl le)] ++ ws) sz)) (vx_X (fun (u9 : va_W) => ty_V ct S ph u9) (cmBY D ([(ty_XO x w sp sv bu bl le)] ++ ws) sz ["java/lang/IndexOutOfBoundsException"] (fun (u9 : va_W) => ([(ty_XO x w sp sv bu bl le)] ++ u9))) (va_A ([(ty_XO x w sp sv bu bl le)] ++ ws) sz)) 1 6 (va_A ([(ty_XO x w sp sv bu bl le)] ++ ws) sz) := by
  refine vx_ofW (cc := cX10_pause) (maxL := 3) (ret := (some .int)) (by decide) rfl ?_
  intro p e s m args below meth c s₁ B hml hex hv
  obtain ⟨rfl, hsz, hP, hK, hD0, hX⟩ := hv
  have hx := B.exec
  have hb := B.bytes
  have hr := B.returns
  have hts := ws_all (atoms_spec (ws := ws_ yX10_pause cX10_pause 3 (some .int)) B.pre)
  have hown : s.vm.findClass RX10 = some m.cls := findClass_of_methodNamed B.named
  have hlocks := B.notSynchronized
  subst hsz
  have hD := hD0.self (sz := s.heap.size)
  generalize hAe : va_A ([(ty_XO x w sp sv bu bl le)] ++ ws) s.heap.size = A at hD hX ⊢
  have hA : ∀ q : Nat, s.heap.size ≤ q → A q := fun q h => by rw [← hAe]; exact Or.inr h
  have hS : va_S A s.heap s.heap [] := va_S.rf
  have hl := lv_entry ([.ref x, .int p1]) (n := 3) (Nat.le_of_ble_eq_true rfl)
  rw [lg_entry_eq]
  generalize (lg_sl ([.ref x, .int p1]) ++ List.replicate (3 - (lg_sl ([.ref x, .int p1])).length) Slot.unset).toArray = ls at hl ⊢
  have hl : lv_has ls 3 [(0, .ref x), (1, .int p1)] := hl
  refine lv_aload_n hx hb dX10_pause_0 rfl (lv_at hl 0 rfl) ?_
  refine lv_iload_n hx hb dX10_pause_1 rfl (lv_at hl 1 rfl) ?_
  refine ty_xq (wr := []) (wc := ([(ty_XO x w sp sv bu bl le)] ++ ws)) (vx_runV (As := [.int p1]) (rest := []) ⟨hx, hb, hml, hown, hts⟩ (t_X10_needChannel l hfl D ct S ws ph xx x w sp sv bu ns bl le p1 _ hT h_w h_sp h_sv hph hy1) (cm_V 1 hts kc_X10_needChannel ki_RX10 kl_RX10_172 kv_X10_needChannel kx_X10_needChannel kd_X10_needChannel ⟨Nat.le_of_ble_eq_true rfl, Nat.le_of_ble_eq_true rfl⟩) (ty_preE (wr := []) (wc := ([(ty_XO x w sp sv bu bl le)] ++ ws)) (ci := 10) (q0 := 0) hP hK hD hS hA hX rfl rfl) rfl rfl hl.1 rfl (lv_room (Nat.le_of_ble_eq_true rfl)) dX10_pause_2 ⟨Nat.le_of_ble_eq_true rfl, Nat.le_of_ble_eq_true rfl⟩) hP hD hS hA (fun E ce q9 u H locs hu hE hP hD hS hce hcv hcl => ?_) (fun r_1 u H locs hw_2 hP hD hS => ?_)
  · obtain ⟨ws_3, rfl⟩ : ∃ z, z = u := ⟨_, rfl⟩
    have hT := hu
    have hP : va_P D vwCl ([(ty_XO x w sp sv bu bl le)] ++ ws_3) H := hP
    have hD : va_D A ([(ty_XO x w sp sv bu bl le)] ++ ws_3) := hD
    exact vx_out (fun x hx => (hex x hx).elim) hlocks hce hcv hcl (fun t ht hW => ⟨ws_3, hT, ⟨hE, by rw [ht]; exact hP, by rw [hAe]; exact hD⟩, hS.F ht⟩) hS.2.2 (Nat.le_of_ble_eq_true rfl) (Nat.le_of_ble_eq_true rfl)
  · obtain ⟨ws_4, rfl⟩ : ∃ z, z = u := ⟨_, rfl⟩
    obtain ⟨hT, hq_5⟩ := hw_2
    have hP : va_P D vwCl ([(ty_XO x w sp sv bu bl le)] ++ ws_4) H := hP
    have hD : va_D A ([(ty_XO x w sp sv bu bl le)] ++ ws_4) := hD
    refine W.widen (k := 1) (n := 6) (Nat.le_of_ble_eq_true rfl) (Nat.le_of_ble_eq_true rfl) ?_
    obtain ⟨a_6, rfl, ha_7⟩ := hq_5
    refine W.eq (g2 := F0 m 5 ls (.ref a_6 :: [])) rfl ?_
    refine lv_astore_n (lv' := [(2, .ref a_6), (0, .ref x), (1, .int p1)]) hx hb dX10_pause_5 rfl hl (by decide) rfl (fun ls hl => ?_)
    refine lv_aload_n hx hb dX10_pause_6 rfl (lv_at hl 0 rfl) ?_
    refine ty_getN (E := [(ty_XO x w sp sv bu bl le)]) (ws := ws_4) (D := D) (ci := 1) (C := RX1) (T := TX1) (N := 14) hx hb hts in_X1 hown hK hP hT ha_7 rfl 3 (by decide) (hts _ kl_RX10_129) (fun _ h9 => h9) rfl dX10_pause_7 (fun _ hv_8 hf_9 => ?_)
    obtain ⟨x_10, rfl⟩ := hv_8
    refine lv_iconst (v := 1) hx hb dX10_pause_10 (by decide) ?_
    refine lv_icmp_eq (tgt := 17) hx hb dX10_pause_11 (by decide) (fun hc_11 => ?_) (fun hc_11 => ?_)
    · refine lv_aload_n hx hb dX10_pause_17 rfl (lv_at hl 0 rfl) ?_
      refine lv_iconst (v := 2) hx hb dX10_pause_18 (by decide) ?_
      refine ty_putN (v := .int 2) (ty := .int) (E := [(ty_XO x w sp sv bu bl le)]) (ws := ws_4) (D := D) (ci := 1) (C := RX1) (T := TX1) (N := 14) hx hb hts in_X1 tyX1 tyX1_ok nmX1 hown hK hP hD hS hT ha_7 rfl 3 (by decide) (hts _ kl_RX10_129) (fun _ h9 => h9) rfl (by decide +kernel) rfl rfl rfl ⟨_, rfl⟩ dX10_pause_19 hph (hy1 1 3 a_6 rfl) (fun ws_12 H locs hT hP hD hS => ?_)
      refine lv_aload_n hx hb dX10_pause_22 rfl (lv_at hl 0 rfl) ?_
      refine ty_getN (E := [(ty_XO x w sp sv bu bl le)]) (ws := ws_12) (D := D) (ci := 1) (C := RX1) (T := TX1) (N := 14) hx hb hts in_X1 hown hK hP hT ha_7 rfl 5 (by decide) (hts _ kl_RX10_191) (fun _ h9 => h9) rfl dX10_pause_23 (fun _ hv_13 hf_14 => ?_)
      obtain ⟨x_15, rfl⟩ := hv_13
      refine vx_ret ?_
      exact W.iret (v := x_15) hx hb hr (fun t ht hW => ⟨⟨x_15, ws_12, rfl, hT, by rw [ht]; exact hP, by rw [hAe]; exact hD⟩, hS.F ht⟩) hS.2.2 dX10_pause_26
    · refine lv_bipush (v := (-3)) hx hb dX10_pause_14 (by decide) ?_
      refine vx_ret ?_
      exact W.iret (v := (-3)) hx hb hr (fun t ht hW => ⟨⟨(-3), ws_4, rfl, hT, by rw [ht]; exact hP, by rw [hAe]; exact hD⟩, hS.F ht⟩) hS.2.2 dX10_pause_16
theorem dX10_resume_0 : decode cX10_resume 0 = .ok (.aload_n 0, 1) := by decide +kernel
theorem dX10_resume_1 : decode cX10_resume 1 = .ok (.iload_n 1, 1) := by decide +kernel
theorem dX10_resume_2 : decode cX10_resume 2 = .ok (.invokevirtual 172, 3) := by decide +kernel
theorem dX10_resume_5 : decode cX10_resume 5 = .ok (.astore_n 2, 1) := by decide +kernel
theorem dX10_resume_6 : decode cX10_resume 6 = .ok (.aload_n 2, 1) := by decide +kernel
theorem dX10_resume_7 : decode cX10_resume 7 = .ok (.getfield 129, 3) := by decide +kernel
theorem dX10_resume_10 : decode cX10_resume 10 = .ok (.iconst 2, 1) := by decide +kernel
theorem dX10_resume_11 : decode cX10_resume 11 = .ok (.if_icmp .eq 6, 3) := by decide +kernel
theorem dX10_resume_14 : decode cX10_resume 14 = .ok (.bipush (-3), 2) := by decide +kernel
theorem dX10_resume_16 : decode cX10_resume 16 = .ok (.ireturn, 1) := by decide +kernel
theorem dX10_resume_17 : decode cX10_resume 17 = .ok (.aload_n 2, 1) := by decide +kernel
theorem dX10_resume_18 : decode cX10_resume 18 = .ok (.iconst 1, 1) := by decide +kernel
theorem dX10_resume_19 : decode cX10_resume 19 = .ok (.putfield 129, 3) := by decide +kernel
theorem dX10_resume_22 : decode cX10_resume 22 = .ok (.aload_n 2, 1) := by decide +kernel
theorem dX10_resume_23 : decode cX10_resume 23 = .ok (.getfield 191, 3) := by decide +kernel
theorem dX10_resume_26 : decode cX10_resume 26 = .ok (.ireturn, 1) := by decide +kernel
set_option maxRecDepth 100000 in
set_option maxHeartbeats 4000000 in
theorem t_X10_resume (l : Launch) (hfl : l.stackTraces = false) (D : va_G) (ct : Nat → ClassId) (S : ty_S) (ws : va_W) (ph : va_W → Prop) (xx : Nat → Nat → Nat → Prop) (x : Nat) (w : Nat) (sp : Nat) (sv : Nat) (bu : Nat) (ns : Nat) (bl : Int32) (le : Int32) (p1 : Int32) (sz : Nat) (hT : ty_V ct S ph ws) (h_w : S w = some (.inl 9)) (h_sp : S sp = some (.inl 9)) (h_sv : S sv = some (.inr (4, ns))) (hph : ty_C ph xx) (hy1 : ty_y1 xx) : vx_Met l yX10_resume (ws_ yX10_resume cX10_resume 3 (some .int)) ({ frames := 7, cells := 1, slots := 6, locals := 112 } : Room) (va_Pc [.ref x, .int p1] (cmP D ct sz ([(ty_XO x w sp sv bu bl le)] ++ ws))) (va_Qi (fun (r : Int32) (u9 : va_W) => ty_V ct S ph u9) (cmB D ([(ty_XO x w sp sv bu bl le)] ++ ws) sz (fun (u9 : va_W) => ([(ty_XO x w sp sv bu bl le)] ++ u9))) (va_A ([(ty_XO x w sp sv bu bl le)] ++ ws) sz)) (vx_X (fun (u9 : va_W) => ty_V ct S ph u9) (cmBY D ([(ty_XO x w sp sv bu bl le)] ++ ws) sz ["java/lang/IndexOutOfBoundsException"] (fun (u9 : va_W) => ([(ty_XO x w sp sv bu bl le)] ++ u9))) (va_A ([(ty_XO x w sp sv bu bl le)] ++ ws) sz)) 1 6 (va_A ([(ty_XO x w sp sv bu bl le)] ++ ws) sz) := by
  refine vx_ofW (cc := cX10_resume) (maxL := 3) (ret := (some .int)) (by decide) rfl ?_
  intro p e s m args below meth c s₁ B hml hex hv
  obtain ⟨rfl, hsz, hP, hK, hD0, hX⟩ := hv
  have hx := B.exec
  have hb := B.bytes
  have hr := B.returns
  have hts := ws_all (atoms_spec (ws := ws_ yX10_resume cX10_resume 3 (some .int)) B.pre)
  have hown : s.vm.findClass RX10 = some m.cls := findClass_of_methodNamed B.named
  have hlocks := B.notSynchronized
  subst hsz
  have hD := hD0.self (sz := s.heap.size)
  generalize hAe : va_A ([(ty_XO x w sp sv bu bl le)] ++ ws) s.heap.size = A at hD hX ⊢
  have hA : ∀ q : Nat, s.heap.size ≤ q → A q := fun q h => by rw [← hAe]; exact Or.inr h
  have hS : va_S A s.heap s.heap [] := va_S.rf
  have hl := lv_entry ([.ref x, .int p1]) (n := 3) (Nat.le_of_ble_eq_true rfl)
  rw [lg_entry_eq]
  generalize (lg_sl ([.ref x, .int p1]) ++ List.replicate (3 - (lg_sl ([.ref x, .int p1])).length) Slot.unset).toArray = ls at hl ⊢
  have hl : lv_has ls 3 [(0, .ref x), (1, .int p1)] := hl
  refine lv_aload_n hx hb dX10_resume_0 rfl (lv_at hl 0 rfl) ?_
  refine lv_iload_n hx hb dX10_resume_1 rfl (lv_at hl 1 rfl) ?_
  refine ty_xq (wr := []) (wc := ([(ty_XO x w sp sv bu bl le)] ++ ws)) (vx_runV (As := [.int p1]) (rest := []) ⟨hx, hb, hml, hown, hts⟩ (t_X10_needChannel l hfl D ct S ws ph xx x w sp sv bu ns bl le p1 _ hT h_w h_sp h_sv hph hy1) (cm_V 1 hts kc_X10_needChannel ki_RX10 kl_RX10_172 kv_X10_needChannel kx_X10_needChannel kd_X10_needChannel ⟨Nat.le_of_ble_eq_true rfl, Nat.le_of_ble_eq_true rfl⟩) (ty_preE (wr := []) (wc := ([(ty_XO x w sp sv bu bl le)] ++ ws)) (ci := 10) (q0 := 0) hP hK hD hS hA hX rfl rfl) rfl rfl hl.1 rfl (lv_room (Nat.le_of_ble_eq_true rfl)) dX10_resume_2 ⟨Nat.le_of_ble_eq_true rfl, Nat.le_of_ble_eq_true rfl⟩) hP hD hS hA (fun E ce q9 u H locs hu hE hP hD hS hce hcv hcl => ?_) (fun r_1 u H locs hw_2 hP hD hS => ?_)
  · obtain ⟨ws_3, rfl⟩ : ∃ z, z = u := ⟨_, rfl⟩
    have hT := hu
    have hP : va_P D vwCl ([(ty_XO x w sp sv bu bl le)] ++ ws_3) H := hP
    have hD : va_D A ([(ty_XO x w sp sv bu bl le)] ++ ws_3) := hD
    exact vx_out (fun x hx => (hex x hx).elim) hlocks hce hcv hcl (fun t ht hW => ⟨ws_3, hT, ⟨hE, by rw [ht]; exact hP, by rw [hAe]; exact hD⟩, hS.F ht⟩) hS.2.2 (Nat.le_of_ble_eq_true rfl) (Nat.le_of_ble_eq_true rfl)
  · obtain ⟨ws_4, rfl⟩ : ∃ z, z = u := ⟨_, rfl⟩
    obtain ⟨hT, hq_5⟩ := hw_2
    have hP : va_P D vwCl ([(ty_XO x w sp sv bu bl le)] ++ ws_4) H := hP
    have hD : va_D A ([(ty_XO x w sp sv bu bl le)] ++ ws_4) := hD
    refine W.widen (k := 1) (n := 6) (Nat.le_of_ble_eq_true rfl) (Nat.le_of_ble_eq_true rfl) ?_
    obtain ⟨a_6, rfl, ha_7⟩ := hq_5
    refine W.eq (g2 := F0 m 5 ls (.ref a_6 :: [])) rfl ?_
    refine lv_astore_n (lv' := [(2, .ref a_6), (0, .ref x), (1, .int p1)]) hx hb dX10_resume_5 rfl hl (by decide) rfl (fun ls hl => ?_)
    refine lv_aload_n hx hb dX10_resume_6 rfl (lv_at hl 0 rfl) ?_
    refine ty_getN (E := [(ty_XO x w sp sv bu bl le)]) (ws := ws_4) (D := D) (ci := 1) (C := RX1) (T := TX1) (N := 14) hx hb hts in_X1 hown hK hP hT ha_7 rfl 3 (by decide) (hts _ kl_RX10_129) (fun _ h9 => h9) rfl dX10_resume_7 (fun _ hv_8 hf_9 => ?_)
    obtain ⟨x_10, rfl⟩ := hv_8
    refine lv_iconst (v := 2) hx hb dX10_resume_10 (by decide) ?_
    refine lv_icmp_eq (tgt := 17) hx hb dX10_resume_11 (by decide) (fun hc_11 => ?_) (fun hc_11 => ?_)
    · refine lv_aload_n hx hb dX10_resume_17 rfl (lv_at hl 0 rfl) ?_
      refine lv_iconst (v := 1) hx hb dX10_resume_18 (by decide) ?_
      refine ty_putN (v := .int 1) (ty := .int) (E := [(ty_XO x w sp sv bu bl le)]) (ws := ws_4) (D := D) (ci := 1) (C := RX1) (T := TX1) (N := 14) hx hb hts in_X1 tyX1 tyX1_ok nmX1 hown hK hP hD hS hT ha_7 rfl 3 (by decide) (hts _ kl_RX10_129) (fun _ h9 => h9) rfl (by decide +kernel) rfl rfl rfl ⟨_, rfl⟩ dX10_resume_19 hph (hy1 1 3 a_6 rfl) (fun ws_12 H locs hT hP hD hS => ?_)
      refine lv_aload_n hx hb dX10_resume_22 rfl (lv_at hl 0 rfl) ?_
      refine ty_getN (E := [(ty_XO x w sp sv bu bl le)]) (ws := ws_12) (D := D) (ci := 1) (C := RX1) (T := TX1) (N := 14) hx hb hts in_X1 hown hK hP hT ha_7 rfl 5 (by decide) (hts _ kl_RX10_191) (fun _ h9 => h9) rfl dX10_resume_23 (fun _ hv_13 hf_14 => ?_)
      obtain ⟨x_15, rfl⟩ := hv_13
      refine vx_ret ?_
      exact W.iret (v := x_15) hx hb hr (fun t ht hW => ⟨⟨x_15, ws_12, rfl, hT, by rw [ht]; exact hP, by rw [hAe]; exact hD⟩, hS.F ht⟩) hS.2.2 dX10_resume_26
    · refine lv_bipush (v := (-3)) hx hb dX10_resume_14 (by decide) ?_
      refine vx_ret ?_
      exact W.iret (v := (-3)) hx hb hr (fun t ht hW => ⟨⟨(-3), ws_4, rfl, hT, by rw [ht]; exact hP, by rw [hAe]; exact hD⟩, hS.F ht⟩) hS.2.2 dX10_resume_16
theorem dX10_stop_0 : decode cX10_stop 0 = .ok (.aload_n 0, 1) := by decide +kernel
theorem dX10_stop_1 : decode cX10_stop 1 = .ok (.iload_n 1, 1) := by decide +kernel
theorem dX10_stop_2 : decode cX10_stop 2 = .ok (.invokevirtual 172, 3) := by decide +kernel
theorem dX10_stop_5 : decode cX10_stop 5 = .ok (.astore_n 2, 1) := by decide +kernel
theorem dX10_stop_6 : decode cX10_stop 6 = .ok (.aload_n 2, 1) := by decide +kernel
theorem dX10_stop_7 : decode cX10_stop 7 = .ok (.getfield 129, 3) := by decide +kernel
theorem dX10_stop_10 : decode cX10_stop 10 = .ok (.istore_n 3, 1) := by decide +kernel
theorem dX10_stop_11 : decode cX10_stop 11 = .ok (.aload_n 2, 1) := by decide +kernel
theorem dX10_stop_12 : decode cX10_stop 12 = .ok (.iconst 0, 1) := by decide +kernel
theorem dX10_stop_13 : decode cX10_stop 13 = .ok (.putfield 129, 3) := by decide +kernel
theorem dX10_stop_16 : decode cX10_stop 16 = .ok (.iload_n 3, 1) := by decide +kernel
theorem dX10_stop_17 : decode cX10_stop 17 = .ok (.ireturn, 1) := by decide +kernel
set_option maxRecDepth 100000 in
set_option maxHeartbeats 4000000 in
theorem t_X10_stop (l : Launch) (hfl : l.stackTraces = false) (D : va_G) (ct : Nat → ClassId) (S : ty_S) (ws : va_W) (ph : va_W → Prop) (xx : Nat → Nat → Nat → Prop) (x : Nat) (w : Nat) (sp : Nat) (sv : Nat) (bu : Nat) (ns : Nat) (bl : Int32) (le : Int32) (p1 : Int32) (sz : Nat) (hT : ty_V ct S ph ws) (h_w : S w = some (.inl 9)) (h_sp : S sp = some (.inl 9)) (h_sv : S sv = some (.inr (4, ns))) (hph : ty_C ph xx) (hy1 : ty_y1 xx) : vx_Met l yX10_stop (ws_ yX10_stop cX10_stop 4 (some .int)) ({ frames := 7, cells := 1, slots := 6, locals := 112 } : Room) (va_Pc [.ref x, .int p1] (cmP D ct sz ([(ty_XO x w sp sv bu bl le)] ++ ws))) (va_Qi (fun (r : Int32) (u9 : va_W) => ty_V ct S ph u9) (cmB D ([(ty_XO x w sp sv bu bl le)] ++ ws) sz (fun (u9 : va_W) => ([(ty_XO x w sp sv bu bl le)] ++ u9))) (va_A ([(ty_XO x w sp sv bu bl le)] ++ ws) sz)) (vx_X (fun (u9 : va_W) => ty_V ct S ph u9) (cmBY D ([(ty_XO x w sp sv bu bl le)] ++ ws) sz ["java/lang/IndexOutOfBoundsException"] (fun (u9 : va_W) => ([(ty_XO x w sp sv bu bl le)] ++ u9))) (va_A ([(ty_XO x w sp sv bu bl le)] ++ ws) sz)) 1 6 (va_A ([(ty_XO x w sp sv bu bl le)] ++ ws) sz) := by
  refine vx_ofW (cc := cX10_stop) (maxL := 4) (ret := (some .int)) (by decide) rfl ?_
  intro p e s m args below meth c s₁ B hml hex hv
  obtain ⟨rfl, hsz, hP, hK, hD0, hX⟩ := hv
  have hx := B.exec
  have hb := B.bytes
  have hr := B.returns
  have hts := ws_all (atoms_spec (ws := ws_ yX10_stop cX10_stop 4 (some .int)) B.pre)
  have hown : s.vm.findClass RX10 = some m.cls := findClass_of_methodNamed B.named
  have hlocks := B.notSynchronized
  subst hsz
  have hD := hD0.self (sz := s.heap.size)
  generalize hAe : va_A ([(ty_XO x w sp sv bu bl le)] ++ ws) s.heap.size = A at hD hX ⊢
  have hA : ∀ q : Nat, s.heap.size ≤ q → A q := fun q h => by rw [← hAe]; exact Or.inr h
  have hS : va_S A s.heap s.heap [] := va_S.rf
  have hl := lv_entry ([.ref x, .int p1]) (n := 4) (Nat.le_of_ble_eq_true rfl)
  rw [lg_entry_eq]
  generalize (lg_sl ([.ref x, .int p1]) ++ List.replicate (4 - (lg_sl ([.ref x, .int p1])).length) Slot.unset).toArray = ls at hl ⊢
  have hl : lv_has ls 4 [(0, .ref x), (1, .int p1)] := hl
  refine lv_aload_n hx hb dX10_stop_0 rfl (lv_at hl 0 rfl) ?_
  refine lv_iload_n hx hb dX10_stop_1 rfl (lv_at hl 1 rfl) ?_
  refine ty_xq (wr := []) (wc := ([(ty_XO x w sp sv bu bl le)] ++ ws)) (vx_runV (As := [.int p1]) (rest := []) ⟨hx, hb, hml, hown, hts⟩ (t_X10_needChannel l hfl D ct S ws ph xx x w sp sv bu ns bl le p1 _ hT h_w h_sp h_sv hph hy1) (cm_V 1 hts kc_X10_needChannel ki_RX10 kl_RX10_172 kv_X10_needChannel kx_X10_needChannel kd_X10_needChannel ⟨Nat.le_of_ble_eq_true rfl, Nat.le_of_ble_eq_true rfl⟩) (ty_preE (wr := []) (wc := ([(ty_XO x w sp sv bu bl le)] ++ ws)) (ci := 10) (q0 := 0) hP hK hD hS hA hX rfl rfl) rfl rfl hl.1 rfl (lv_room (Nat.le_of_ble_eq_true rfl)) dX10_stop_2 ⟨Nat.le_of_ble_eq_true rfl, Nat.le_of_ble_eq_true rfl⟩) hP hD hS hA (fun E ce q9 u H locs hu hE hP hD hS hce hcv hcl => ?_) (fun r_1 u H locs hw_2 hP hD hS => ?_)
  · obtain ⟨ws_3, rfl⟩ : ∃ z, z = u := ⟨_, rfl⟩
    have hT := hu
    have hP : va_P D vwCl ([(ty_XO x w sp sv bu bl le)] ++ ws_3) H := hP
    have hD : va_D A ([(ty_XO x w sp sv bu bl le)] ++ ws_3) := hD
    exact vx_out (fun x hx => (hex x hx).elim) hlocks hce hcv hcl (fun t ht hW => ⟨ws_3, hT, ⟨hE, by rw [ht]; exact hP, by rw [hAe]; exact hD⟩, hS.F ht⟩) hS.2.2 (Nat.le_of_ble_eq_true rfl) (Nat.le_of_ble_eq_true rfl)
  · obtain ⟨ws_4, rfl⟩ : ∃ z, z = u := ⟨_, rfl⟩
    obtain ⟨hT, hq_5⟩ := hw_2
    have hP : va_P D vwCl ([(ty_XO x w sp sv bu bl le)] ++ ws_4) H := hP
    have hD : va_D A ([(ty_XO x w sp sv bu bl le)] ++ ws_4) := hD
    refine W.widen (k := 1) (n := 6) (Nat.le_of_ble_eq_true rfl) (Nat.le_of_ble_eq_true rfl) ?_
    obtain ⟨a_6, rfl, ha_7⟩ := hq_5
    refine W.eq (g2 := F0 m 5 ls (.ref a_6 :: [])) rfl ?_
    refine lv_astore_n (lv' := [(2, .ref a_6), (0, .ref x), (1, .int p1)]) hx hb dX10_stop_5 rfl hl (by decide) rfl (fun ls hl => ?_)
    refine lv_aload_n hx hb dX10_stop_6 rfl (lv_at hl 0 rfl) ?_
    refine ty_getN (E := [(ty_XO x w sp sv bu bl le)]) (ws := ws_4) (D := D) (ci := 1) (C := RX1) (T := TX1) (N := 14) hx hb hts in_X1 hown hK hP hT ha_7 rfl 3 (by decide) (hts _ kl_RX10_129) (fun _ h9 => h9) rfl dX10_stop_7 (fun _ hv_8 hf_9 => ?_)
    obtain ⟨x_10, rfl⟩ := hv_8
    refine lv_istore_n (lv' := [(3, .int x_10), (2, .ref a_6), (0, .ref x), (1, .int p1)]) hx hb dX10_stop_10 rfl hl (by decide) rfl (fun ls hl => ?_)
    refine lv_aload_n hx hb dX10_stop_11 rfl (lv_at hl 1 rfl) ?_
    refine lv_iconst (v := 0) hx hb dX10_stop_12 (by decide) ?_
    refine ty_putN (v := .int 0) (ty := .int) (E := [(ty_XO x w sp sv bu bl le)]) (ws := ws_4) (D := D) (ci := 1) (C := RX1) (T := TX1) (N := 14) hx hb hts in_X1 tyX1 tyX1_ok nmX1 hown hK hP hD hS hT ha_7 rfl 3 (by decide) (hts _ kl_RX10_129) (fun _ h9 => h9) rfl (by decide +kernel) rfl rfl rfl ⟨_, rfl⟩ dX10_stop_13 hph (hy1 1 3 a_6 rfl) (fun ws_11 H locs hT hP hD hS => ?_)
    refine lv_iload_n hx hb dX10_stop_16 rfl (lv_at hl 0 rfl) ?_
    refine vx_ret ?_
    exact W.iret (v := x_10) hx hb hr (fun t ht hW => ⟨⟨x_10, ws_11, rfl, hT, by rw [ht]; exact hP, by rw [hAe]; exact hD⟩, hS.F ht⟩) hS.2.2 dX10_stop_17
theorem dX10_enqueue_0 : decode cX10_enqueue 0 = .ok (.aload_n 0, 1) := by decide +kernel
theorem dX10_enqueue_1 : decode cX10_enqueue 1 = .ok (.iload_n 1, 1) := by decide +kernel
theorem dX10_enqueue_2 : decode cX10_enqueue 2 = .ok (.invokevirtual 172, 3) := by decide +kernel
theorem dX10_enqueue_5 : decode cX10_enqueue 5 = .ok (.astore_n 3, 1) := by decide +kernel
theorem dX10_enqueue_6 : decode cX10_enqueue 6 = .ok (.aload_n 0, 1) := by decide +kernel
theorem dX10_enqueue_7 : decode cX10_enqueue 7 = .ok (.iload_n 2, 1) := by decide +kernel
theorem dX10_enqueue_8 : decode cX10_enqueue 8 = .ok (.invokevirtual 146, 3) := by decide +kernel
theorem dX10_enqueue_11 : decode cX10_enqueue 11 = .ok (.aload_n 3, 1) := by decide +kernel
theorem dX10_enqueue_12 : decode cX10_enqueue 12 = .ok (.getfield 210, 3) := by decide +kernel
theorem dX10_enqueue_15 : decode cX10_enqueue 15 = .ok (.iconst 4, 1) := by decide +kernel
theorem dX10_enqueue_16 : decode cX10_enqueue 16 = .ok (.if_icmp .lt 6, 3) := by decide +kernel
theorem dX10_enqueue_19 : decode cX10_enqueue 19 = .ok (.bipush (-2), 2) := by decide +kernel
theorem dX10_enqueue_21 : decode cX10_enqueue 21 = .ok (.ireturn, 1) := by decide +kernel
theorem dX10_enqueue_22 : decode cX10_enqueue 22 = .ok (.aload_n 3, 1) := by decide +kernel
theorem dX10_enqueue_23 : decode cX10_enqueue 23 = .ok (.getfield 213, 3) := by decide +kernel
theorem dX10_enqueue_26 : decode cX10_enqueue 26 = .ok (.aload_n 3, 1) := by decide +kernel
theorem dX10_enqueue_27 : decode cX10_enqueue 27 = .ok (.getfield 210, 3) := by decide +kernel
theorem dX10_enqueue_30 : decode cX10_enqueue 30 = .ok (.iload_n 2, 1) := by decide +kernel
theorem dX10_enqueue_31 : decode cX10_enqueue 31 = .ok (.invokestatic 36, 3) := by decide +kernel
theorem dX10_enqueue_34 : decode cX10_enqueue 34 = .ok (.aload_n 3, 1) := by decide +kernel
theorem dX10_enqueue_35 : decode cX10_enqueue 35 = .ok (.dup, 1) := by decide +kernel
theorem dX10_enqueue_36 : decode cX10_enqueue 36 = .ok (.getfield 210, 3) := by decide +kernel
theorem dX10_enqueue_39 : decode cX10_enqueue 39 = .ok (.iconst 1, 1) := by decide +kernel
theorem dX10_enqueue_40 : decode cX10_enqueue 40 = .ok (.iadd, 1) := by decide +kernel
theorem dX10_enqueue_41 : decode cX10_enqueue 41 = .ok (.putfield 210, 3) := by decide +kernel
theorem dX10_enqueue_44 : decode cX10_enqueue 44 = .ok (.aload_n 3, 1) := by decide +kernel
theorem dX10_enqueue_45 : decode cX10_enqueue 45 = .ok (.getfield 210, 3) := by decide +kernel
theorem dX10_enqueue_48 : decode cX10_enqueue 48 = .ok (.ireturn, 1) := by decide +kernel
set_option maxRecDepth 100000 in
set_option maxHeartbeats 4000000 in
theorem t_X10_enqueue (l : Launch) (hfl : l.stackTraces = false) (D : va_G) (ct : Nat → ClassId) (S : ty_S) (ws : va_W) (ph : va_W → Prop) (xx : Nat → Nat → Nat → Prop) (x : Nat) (w : Nat) (sp : Nat) (sv : Nat) (bu : Nat) (ns : Nat) (bl : Int32) (le : Int32) (p1 : Int32) (p2 : Int32) (sz : Nat) (hT : ty_V ct S ph ws) (h_w : S w = some (.inl 9)) (h_sp : S sp = some (.inl 9)) (h_sv : S sv = some (.inr (4, ns))) (hph : ty_C ph xx) (hy1 : ty_y1 xx) : vx_Met l yX10_enqueue (ws_ yX10_enqueue cX10_enqueue 4 (some .int)) ({ frames := 7, cells := 2, slots := 12, locals := 112 } : Room) (va_Pc [.ref x, .int p1, .int p2] (cmP D ct sz ([(ty_XO x w sp sv bu bl le)] ++ ws))) (va_Qi (fun (r : Int32) (u9 : va_W) => ty_V ct S ph u9) (cmB D ([(ty_XO x w sp sv bu bl le)] ++ ws) sz (fun (u9 : va_W) => ([(ty_XO x w sp sv bu bl le)] ++ u9))) (va_A ([(ty_XO x w sp sv bu bl le)] ++ ws) sz)) (vx_X (fun (u9 : va_W) => ty_V ct S ph u9) (cmBY D ([(ty_XO x w sp sv bu bl le)] ++ ws) sz ["java/lang/IndexOutOfBoundsException"] (fun (u9 : va_W) => ([(ty_XO x w sp sv bu bl le)] ++ u9))) (va_A ([(ty_XO x w sp sv bu bl le)] ++ ws) sz)) 2 12 (va_A ([(ty_XO x w sp sv bu bl le)] ++ ws) sz) := by
  refine vx_ofW (cc := cX10_enqueue) (maxL := 4) (ret := (some .int)) (by decide) rfl ?_
  intro p e s m args below meth c s₁ B hml hex hv
  obtain ⟨rfl, hsz, hP, hK, hD0, hX⟩ := hv
  have hx := B.exec
  have hb := B.bytes
  have hr := B.returns
  have hts := ws_all (atoms_spec (ws := ws_ yX10_enqueue cX10_enqueue 4 (some .int)) B.pre)
  have hown : s.vm.findClass RX10 = some m.cls := findClass_of_methodNamed B.named
  have hlocks := B.notSynchronized
  subst hsz
  have hD := hD0.self (sz := s.heap.size)
  generalize hAe : va_A ([(ty_XO x w sp sv bu bl le)] ++ ws) s.heap.size = A at hD hX ⊢
  have hA : ∀ q : Nat, s.heap.size ≤ q → A q := fun q h => by rw [← hAe]; exact Or.inr h
  have hS : va_S A s.heap s.heap [] := va_S.rf
  have hl := lv_entry ([.ref x, .int p1, .int p2]) (n := 4) (Nat.le_of_ble_eq_true rfl)
  rw [lg_entry_eq]
  generalize (lg_sl ([.ref x, .int p1, .int p2]) ++ List.replicate (4 - (lg_sl ([.ref x, .int p1, .int p2])).length) Slot.unset).toArray = ls at hl ⊢
  have hl : lv_has ls 4 [(0, .ref x), (1, .int p1), (2, .int p2)] := hl
  refine lv_aload_n hx hb dX10_enqueue_0 rfl (lv_at hl 0 rfl) ?_
  refine lv_iload_n hx hb dX10_enqueue_1 rfl (lv_at hl 1 rfl) ?_
  refine ty_xq (wr := []) (wc := ([(ty_XO x w sp sv bu bl le)] ++ ws)) (vx_runV (As := [.int p1]) (rest := []) ⟨hx, hb, hml, hown, hts⟩ (t_X10_needChannel l hfl D ct S ws ph xx x w sp sv bu ns bl le p1 _ hT h_w h_sp h_sv hph hy1) (cm_V 1 hts kc_X10_needChannel ki_RX10 kl_RX10_172 kv_X10_needChannel kx_X10_needChannel kd_X10_needChannel ⟨Nat.le_of_ble_eq_true rfl, Nat.le_of_ble_eq_true rfl⟩) (ty_preE (wr := []) (wc := ([(ty_XO x w sp sv bu bl le)] ++ ws)) (ci := 10) (q0 := 0) hP hK hD hS hA hX rfl rfl) rfl rfl hl.1 rfl (lv_room (Nat.le_of_ble_eq_true rfl)) dX10_enqueue_2 ⟨Nat.le_of_ble_eq_true rfl, Nat.le_of_ble_eq_true rfl⟩) hP hD hS hA (fun E ce q9 u H locs hu hE hP hD hS hce hcv hcl => ?_) (fun r_1 u H locs hw_2 hP hD hS => ?_)
  · obtain ⟨ws_3, rfl⟩ : ∃ z, z = u := ⟨_, rfl⟩
    have hT := hu
    have hP : va_P D vwCl ([(ty_XO x w sp sv bu bl le)] ++ ws_3) H := hP
    have hD : va_D A ([(ty_XO x w sp sv bu bl le)] ++ ws_3) := hD
    exact vx_out (fun x hx => (hex x hx).elim) hlocks hce hcv hcl (fun t ht hW => ⟨ws_3, hT, ⟨hE, by rw [ht]; exact hP, by rw [hAe]; exact hD⟩, hS.F ht⟩) hS.2.2 (Nat.le_of_ble_eq_true rfl) (Nat.le_of_ble_eq_true rfl)
  · obtain ⟨ws_4, rfl⟩ : ∃ z, z = u := ⟨_, rfl⟩
    obtain ⟨hT, hq_5⟩ := hw_2
    have hP : va_P D vwCl ([(ty_XO x w sp sv bu bl le)] ++ ws_4) H := hP
    have hD : va_D A ([(ty_XO x w sp sv bu bl le)] ++ ws_4) := hD
    refine W.widen (k := 1) (n := 6) (Nat.le_of_ble_eq_true rfl) (Nat.le_of_ble_eq_true rfl) ?_
    obtain ⟨a_6, rfl, ha_7⟩ := hq_5
    refine W.eq (g2 := F0 m 5 ls (.ref a_6 :: [])) rfl ?_
    refine lv_astore_n (lv' := [(3, .ref a_6), (0, .ref x), (1, .int p1), (2, .int p2)]) hx hb dX10_enqueue_5 rfl hl (by decide) rfl (fun ls hl => ?_)
    refine lv_aload_n hx hb dX10_enqueue_6 rfl (lv_at hl 1 rfl) ?_
    refine lv_iload_n hx hb dX10_enqueue_7 rfl (lv_at hl 3 rfl) ?_
    refine ty_xv (wr := []) (wc := ([(ty_XO x w sp sv bu bl le)] ++ ws_4)) (vx_runV (As := [.int p2]) (rest := []) ⟨hx, hb, hml, hown, hts⟩ (t_X10_needProgram l hfl D ct S ws_4 ph xx x w sp sv bu ns bl le p2 _ hT h_w h_sp h_sv hph hy1) (cm_V 1 hts kc_X10_needProgram ki_RX10 kl_RX10_146 kv_X10_needProgram kx_X10_needProgram kd_X10_needProgram ⟨Nat.le_of_ble_eq_true rfl, Nat.le_of_ble_eq_true rfl⟩) (ty_preE (wr := []) (wc := ([(ty_XO x w sp sv bu bl le)] ++ ws_4)) (ci := 10) (q0 := 0) hP hK hD hS hA hX rfl rfl) rfl rfl hl.1 rfl (lv_room (Nat.le_of_ble_eq_true rfl)) dX10_enqueue_8 ⟨Nat.le_of_ble_eq_true rfl, Nat.le_of_ble_eq_true rfl⟩) hP hD hS hA (fun E ce q9 u H locs hu hE hP hD hS hce hcv hcl => ?_) (fun u H locs hw_9 hP hD hS => ?_)
    · obtain ⟨ws_10, rfl⟩ : ∃ z, z = u := ⟨_, rfl⟩
      have hT := hu
      have hP : va_P D vwCl ([(ty_XO x w sp sv bu bl le)] ++ ws_10) H := hP
      have hD : va_D A ([(ty_XO x w sp sv bu bl le)] ++ ws_10) := hD
      exact vx_out (fun x hx => (hex x hx).elim) hlocks hce hcv hcl (fun t ht hW => ⟨ws_10, hT, ⟨hE, by rw [ht]; exact hP, by rw [hAe]; exact hD⟩, hS.F ht⟩) hS.2.2 (Nat.le_of_ble_eq_true rfl) (Nat.le_of_ble_eq_true rfl)
    · obtain ⟨ws_11, rfl⟩ : ∃ z, z = u := ⟨_, rfl⟩
      have hT := hw_9
      have hP : va_P D vwCl ([(ty_XO x w sp sv bu bl le)] ++ ws_11) H := hP
      have hD : va_D A ([(ty_XO x w sp sv bu bl le)] ++ ws_11) := hD
      refine W.widen (k := 2) (n := 12) (Nat.le_of_ble_eq_true rfl) (Nat.le_of_ble_eq_true rfl) ?_
      refine lv_aload_n hx hb dX10_enqueue_11 rfl (lv_at hl 0 rfl) ?_
      refine ty_getN (E := [(ty_XO x w sp sv bu bl le)]) (ws := ws_11) (D := D) (ci := 1) (C := RX1) (T := TX1) (N := 14) hx hb hts in_X1 hown hK hP hT ha_7 rfl 9 (by decide) (hts _ kl_RX10_210) (fun _ h9 => h9) rfl dX10_enqueue_12 (fun _ hv_12 hf_13 => ?_)
      obtain ⟨x_14, rfl⟩ := hv_12
      refine lv_iconst (v := 4) hx hb dX10_enqueue_15 (by decide) ?_
      refine lv_icmp_lt (tgt := 22) hx hb dX10_enqueue_16 (by decide) (fun hc_15 => ?_) (fun hc_15 => ?_)
      · refine lv_aload_n hx hb dX10_enqueue_22 rfl (lv_at hl 0 rfl) ?_
        refine ty_getN (E := [(ty_XO x w sp sv bu bl le)]) (ws := ws_11) (D := D) (ci := 1) (C := RX1) (T := TX1) (N := 14) hx hb hts in_X1 hown hK hP hT ha_7 rfl 8 (by decide) (hts _ kl_RX10_213) (fun _ h9 => h9) rfl dX10_enqueue_23 (fun _ hv_16 hf_17 => ?_)
        obtain ⟨a_18, n_19, rfl, ha_20⟩ := hv_16
        refine lv_aload_n hx hb dX10_enqueue_26 rfl (lv_at hl 0 rfl) ?_
        refine ty_getN (E := [(ty_XO x w sp sv bu bl le)]) (ws := ws_11) (D := D) (ci := 1) (C := RX1) (T := TX1) (N := 14) hx hb hts in_X1 hown hK hP hT ha_7 rfl 9 (by decide) (hts _ kl_RX10_210) (fun _ h9 => h9) rfl dX10_enqueue_27 (fun _ hv_21 hf_22 => ?_)
        obtain ⟨x_23, rfl⟩ := hv_21
        refine lv_iload_n hx hb dX10_enqueue_30 rfl (lv_at hl 3 rfl) ?_
        refine ty_kv (wr := [(ty_XO x w sp sv bu bl le)]) (wc := ([] ++ ws_11)) (va_runS (As := [.ref a_18, .int x_23, .int p2]) (rest := []) ⟨hx, hb, hml, hown, hts⟩ (t_X10_put l D ct S ws_11 ph xx a_18 n_19 x_23 p2 _ hT ha_20 hph hy1) (cm_S 3 hts kc_X10_put ki_RX10 kl_RX10_36 ks_X10_put kd_X10_put ⟨Nat.le_of_ble_eq_true rfl, Nat.le_of_ble_eq_true rfl⟩) (ty_preS (wr := [(ty_XO x w sp sv bu bl le)]) (wc := ([] ++ ws_11)) hP hK hD hS hA hX) rfl rfl hl.1 rfl (lv_room (Nat.le_of_ble_eq_true rfl)) dX10_enqueue_31 ⟨Nat.le_of_ble_eq_true rfl, Nat.le_of_ble_eq_true rfl⟩) hP hD hS hA (fun u H locs hw_25 hP hD hS => ?_)
        obtain ⟨ws_26, rfl⟩ : ∃ z, z = u := ⟨_, rfl⟩
        obtain ⟨hT, hp_27⟩ := hw_25
        have hp_27 : ty_fdle ws_11 ws_26 := hp_27
        have hP : va_P D vwCl ([(ty_XO x w sp sv bu bl le)] ++ ws_26) H := hP
        have hD : va_D A ([(ty_XO x w sp sv bu bl le)] ++ ws_26) := hD
        refine lv_aload_n hx hb dX10_enqueue_34 rfl (lv_at hl 0 rfl) ?_
        refine lv_dup hx hb dX10_enqueue_35 rfl ?_
        refine ty_getN (E := [(ty_XO x w sp sv bu bl le)]) (ws := ws_26) (D := D) (ci := 1) (C := RX1) (T := TX1) (N := 14) hx hb hts in_X1 hown hK hP hT ha_7 rfl 9 (by decide) (hts _ kl_RX10_210) (fun _ h9 => h9) rfl dX10_enqueue_36 (fun _ hv_28 hf_29 => ?_)
        obtain ⟨x_30, rfl⟩ := hv_28
        refine lv_iconst (v := 1) hx hb dX10_enqueue_39 (by decide) ?_
        refine lv_iadd hx hb dX10_enqueue_40 ?_
        refine lv_topi (fun x_31 _ => ?_)
        refine ty_putN (v := .int x_31) (ty := .int) (E := [(ty_XO x w sp sv bu bl le)]) (ws := ws_26) (D := D) (ci := 1) (C := RX1) (T := TX1) (N := 14) hx hb hts in_X1 tyX1 tyX1_ok nmX1 hown hK hP hD hS hT ha_7 rfl 9 (by decide) (hts _ kl_RX10_210) (fun _ h9 => h9) rfl (by decide +kernel) rfl rfl rfl ⟨_, rfl⟩ dX10_enqueue_41 hph (hy1 1 9 a_6 rfl) (fun ws_32 H locs hT hP hD hS => ?_)
        refine lv_aload_n hx hb dX10_enqueue_44 rfl (lv_at hl 0 rfl) ?_
        refine ty_getN (E := [(ty_XO x w sp sv bu bl le)]) (ws := ws_32) (D := D) (ci := 1) (C := RX1) (T := TX1) (N := 14) hx hb hts in_X1 hown hK hP hT ha_7 rfl 9 (by decide) (hts _ kl_RX10_210) (fun _ h9 => h9) rfl dX10_enqueue_45 (fun _ hv_33 hf_34 => ?_)
        obtain ⟨x_35, rfl⟩ := hv_33
        refine vx_ret ?_
        exact W.iret (v := x_35) hx hb hr (fun t ht hW => ⟨⟨x_35, ws_32, rfl, hT, by rw [ht]; exact hP, by rw [hAe]; exact hD⟩, hS.F ht⟩) hS.2.2 dX10_enqueue_48
      · refine lv_bipush (v := (-2)) hx hb dX10_enqueue_19 (by decide) ?_
        refine vx_ret ?_
        exact W.iret (v := (-2)) hx hb hr (fun t ht hW => ⟨⟨(-2), ws_11, rfl, hT, by rw [ht]; exact hP, by rw [hAe]; exact hD⟩, hS.F ht⟩) hS.2.2 dX10_enqueue_21
theorem dX10_dequeue_0 : decode cX10_dequeue 0 = .ok (.aload_n 0, 1) := by decide +kernel
theorem dX10_dequeue_1 : decode cX10_dequeue 1 = .ok (.iload_n 1, 1) := by decide +kernel
theorem dX10_dequeue_2 : decode cX10_dequeue 2 = .ok (.invokevirtual 172, 3) := by decide +kernel
theorem dX10_dequeue_5 : decode cX10_dequeue 5 = .ok (.astore_n 2, 1) := by decide +kernel
theorem dX10_dequeue_6 : decode cX10_dequeue 6 = .ok (.aload_n 2, 1) := by decide +kernel
theorem dX10_dequeue_7 : decode cX10_dequeue 7 = .ok (.getfield 210, 3) := by decide +kernel
theorem dX10_dequeue_10 : decode cX10_dequeue 10 = .ok (.ifCond .ne 5, 3) := by decide +kernel
theorem dX10_dequeue_13 : decode cX10_dequeue 13 = .ok (.iconst (-1), 1) := by decide +kernel
theorem dX10_dequeue_14 : decode cX10_dequeue 14 = .ok (.ireturn, 1) := by decide +kernel
theorem dX10_dequeue_15 : decode cX10_dequeue 15 = .ok (.aload_n 2, 1) := by decide +kernel
theorem dX10_dequeue_16 : decode cX10_dequeue 16 = .ok (.dup, 1) := by decide +kernel
theorem dX10_dequeue_17 : decode cX10_dequeue 17 = .ok (.getfield 210, 3) := by decide +kernel
theorem dX10_dequeue_20 : decode cX10_dequeue 20 = .ok (.iconst 1, 1) := by decide +kernel
theorem dX10_dequeue_21 : decode cX10_dequeue 21 = .ok (.isub, 1) := by decide +kernel
theorem dX10_dequeue_22 : decode cX10_dequeue 22 = .ok (.putfield 210, 3) := by decide +kernel
theorem dX10_dequeue_25 : decode cX10_dequeue 25 = .ok (.aload_n 2, 1) := by decide +kernel
theorem dX10_dequeue_26 : decode cX10_dequeue 26 = .ok (.getfield 213, 3) := by decide +kernel
theorem dX10_dequeue_29 : decode cX10_dequeue 29 = .ok (.aload_n 2, 1) := by decide +kernel
theorem dX10_dequeue_30 : decode cX10_dequeue 30 = .ok (.getfield 210, 3) := by decide +kernel
theorem dX10_dequeue_33 : decode cX10_dequeue 33 = .ok (.invokestatic 216, 3) := by decide +kernel
theorem dX10_dequeue_36 : decode cX10_dequeue 36 = .ok (.ireturn, 1) := by decide +kernel
set_option maxRecDepth 100000 in
set_option maxHeartbeats 4000000 in
theorem t_X10_dequeue (l : Launch) (hfl : l.stackTraces = false) (D : va_G) (ct : Nat → ClassId) (S : ty_S) (ws : va_W) (ph : va_W → Prop) (xx : Nat → Nat → Nat → Prop) (x : Nat) (w : Nat) (sp : Nat) (sv : Nat) (bu : Nat) (ns : Nat) (bl : Int32) (le : Int32) (p1 : Int32) (sz : Nat) (hT : ty_V ct S ph ws) (h_w : S w = some (.inl 9)) (h_sp : S sp = some (.inl 9)) (h_sv : S sv = some (.inr (4, ns))) (hph : ty_C ph xx) (hy1 : ty_y1 xx) : vx_Met l yX10_dequeue (ws_ yX10_dequeue cX10_dequeue 3 (some .int)) ({ frames := 7, cells := 1, slots := 6, locals := 112 } : Room) (va_Pc [.ref x, .int p1] (cmP D ct sz ([(ty_XO x w sp sv bu bl le)] ++ ws))) (va_Qi (fun (r : Int32) (u9 : va_W) => ty_V ct S ph u9) (cmB D ([(ty_XO x w sp sv bu bl le)] ++ ws) sz (fun (u9 : va_W) => ([(ty_XO x w sp sv bu bl le)] ++ u9))) (va_A ([(ty_XO x w sp sv bu bl le)] ++ ws) sz)) (vx_X (fun (u9 : va_W) => ty_V ct S ph u9) (cmBY D ([(ty_XO x w sp sv bu bl le)] ++ ws) sz ["java/lang/IndexOutOfBoundsException"] (fun (u9 : va_W) => ([(ty_XO x w sp sv bu bl le)] ++ u9))) (va_A ([(ty_XO x w sp sv bu bl le)] ++ ws) sz)) 1 6 (va_A ([(ty_XO x w sp sv bu bl le)] ++ ws) sz) := by
  refine vx_ofW (cc := cX10_dequeue) (maxL := 3) (ret := (some .int)) (by decide) rfl ?_
  intro p e s m args below meth c s₁ B hml hex hv
  obtain ⟨rfl, hsz, hP, hK, hD0, hX⟩ := hv
  have hx := B.exec
  have hb := B.bytes
  have hr := B.returns
  have hts := ws_all (atoms_spec (ws := ws_ yX10_dequeue cX10_dequeue 3 (some .int)) B.pre)
  have hown : s.vm.findClass RX10 = some m.cls := findClass_of_methodNamed B.named
  have hlocks := B.notSynchronized
  subst hsz
  have hD := hD0.self (sz := s.heap.size)
  generalize hAe : va_A ([(ty_XO x w sp sv bu bl le)] ++ ws) s.heap.size = A at hD hX ⊢
  have hA : ∀ q : Nat, s.heap.size ≤ q → A q := fun q h => by rw [← hAe]; exact Or.inr h
  have hS : va_S A s.heap s.heap [] := va_S.rf
  have hl := lv_entry ([.ref x, .int p1]) (n := 3) (Nat.le_of_ble_eq_true rfl)
  rw [lg_entry_eq]
  generalize (lg_sl ([.ref x, .int p1]) ++ List.replicate (3 - (lg_sl ([.ref x, .int p1])).length) Slot.unset).toArray = ls at hl ⊢
  have hl : lv_has ls 3 [(0, .ref x), (1, .int p1)] := hl
  refine lv_aload_n hx hb dX10_dequeue_0 rfl (lv_at hl 0 rfl) ?_
  refine lv_iload_n hx hb dX10_dequeue_1 rfl (lv_at hl 1 rfl) ?_
  refine ty_xq (wr := []) (wc := ([(ty_XO x w sp sv bu bl le)] ++ ws)) (vx_runV (As := [.int p1]) (rest := []) ⟨hx, hb, hml, hown, hts⟩ (t_X10_needChannel l hfl D ct S ws ph xx x w sp sv bu ns bl le p1 _ hT h_w h_sp h_sv hph hy1) (cm_V 1 hts kc_X10_needChannel ki_RX10 kl_RX10_172 kv_X10_needChannel kx_X10_needChannel kd_X10_needChannel ⟨Nat.le_of_ble_eq_true rfl, Nat.le_of_ble_eq_true rfl⟩) (ty_preE (wr := []) (wc := ([(ty_XO x w sp sv bu bl le)] ++ ws)) (ci := 10) (q0 := 0) hP hK hD hS hA hX rfl rfl) rfl rfl hl.1 rfl (lv_room (Nat.le_of_ble_eq_true rfl)) dX10_dequeue_2 ⟨Nat.le_of_ble_eq_true rfl, Nat.le_of_ble_eq_true rfl⟩) hP hD hS hA (fun E ce q9 u H locs hu hE hP hD hS hce hcv hcl => ?_) (fun r_1 u H locs hw_2 hP hD hS => ?_)
  · obtain ⟨ws_3, rfl⟩ : ∃ z, z = u := ⟨_, rfl⟩
    have hT := hu
    have hP : va_P D vwCl ([(ty_XO x w sp sv bu bl le)] ++ ws_3) H := hP
    have hD : va_D A ([(ty_XO x w sp sv bu bl le)] ++ ws_3) := hD
    exact vx_out (fun x hx => (hex x hx).elim) hlocks hce hcv hcl (fun t ht hW => ⟨ws_3, hT, ⟨hE, by rw [ht]; exact hP, by rw [hAe]; exact hD⟩, hS.F ht⟩) hS.2.2 (Nat.le_of_ble_eq_true rfl) (Nat.le_of_ble_eq_true rfl)
  · obtain ⟨ws_4, rfl⟩ : ∃ z, z = u := ⟨_, rfl⟩
    obtain ⟨hT, hq_5⟩ := hw_2
    have hP : va_P D vwCl ([(ty_XO x w sp sv bu bl le)] ++ ws_4) H := hP
    have hD : va_D A ([(ty_XO x w sp sv bu bl le)] ++ ws_4) := hD
    refine W.widen (k := 1) (n := 6) (Nat.le_of_ble_eq_true rfl) (Nat.le_of_ble_eq_true rfl) ?_
    obtain ⟨a_6, rfl, ha_7⟩ := hq_5
    refine W.eq (g2 := F0 m 5 ls (.ref a_6 :: [])) rfl ?_
    refine lv_astore_n (lv' := [(2, .ref a_6), (0, .ref x), (1, .int p1)]) hx hb dX10_dequeue_5 rfl hl (by decide) rfl (fun ls hl => ?_)
    refine lv_aload_n hx hb dX10_dequeue_6 rfl (lv_at hl 0 rfl) ?_
    refine ty_getN (E := [(ty_XO x w sp sv bu bl le)]) (ws := ws_4) (D := D) (ci := 1) (C := RX1) (T := TX1) (N := 14) hx hb hts in_X1 hown hK hP hT ha_7 rfl 9 (by decide) (hts _ kl_RX10_210) (fun _ h9 => h9) rfl dX10_dequeue_7 (fun _ hv_8 hf_9 => ?_)
    obtain ⟨x_10, rfl⟩ := hv_8
    refine lv_if_ne (tgt := 15) hx hb dX10_dequeue_10 (by decide) (fun hc_11 => ?_) (fun hc_11 => ?_)
    · refine lv_aload_n hx hb dX10_dequeue_15 rfl (lv_at hl 0 rfl) ?_
      refine lv_dup hx hb dX10_dequeue_16 rfl ?_
      refine ty_getN (E := [(ty_XO x w sp sv bu bl le)]) (ws := ws_4) (D := D) (ci := 1) (C := RX1) (T := TX1) (N := 14) hx hb hts in_X1 hown hK hP hT ha_7 rfl 9 (by decide) (hts _ kl_RX10_210) (fun _ h9 => h9) rfl dX10_dequeue_17 (fun _ hv_12 hf_13 => ?_)
      obtain ⟨x_14, rfl⟩ := hv_12
      refine lv_iconst (v := 1) hx hb dX10_dequeue_20 (by decide) ?_
      refine lv_isub hx hb dX10_dequeue_21 ?_
      refine lv_topi (fun x_15 _ => ?_)
      refine ty_putN (v := .int x_15) (ty := .int) (E := [(ty_XO x w sp sv bu bl le)]) (ws := ws_4) (D := D) (ci := 1) (C := RX1) (T := TX1) (N := 14) hx hb hts in_X1 tyX1 tyX1_ok nmX1 hown hK hP hD hS hT ha_7 rfl 9 (by decide) (hts _ kl_RX10_210) (fun _ h9 => h9) rfl (by decide +kernel) rfl rfl rfl ⟨_, rfl⟩ dX10_dequeue_22 hph (hy1 1 9 a_6 rfl) (fun ws_16 H locs hT hP hD hS => ?_)
      refine lv_aload_n hx hb dX10_dequeue_25 rfl (lv_at hl 0 rfl) ?_
      refine ty_getN (E := [(ty_XO x w sp sv bu bl le)]) (ws := ws_16) (D := D) (ci := 1) (C := RX1) (T := TX1) (N := 14) hx hb hts in_X1 hown hK hP hT ha_7 rfl 8 (by decide) (hts _ kl_RX10_213) (fun _ h9 => h9) rfl dX10_dequeue_26 (fun _ hv_17 hf_18 => ?_)
      obtain ⟨a_19, n_20, rfl, ha_21⟩ := hv_17
      refine lv_aload_n hx hb dX10_dequeue_29 rfl (lv_at hl 0 rfl) ?_
      refine ty_getN (E := [(ty_XO x w sp sv bu bl le)]) (ws := ws_16) (D := D) (ci := 1) (C := RX1) (T := TX1) (N := 14) hx hb hts in_X1 hown hK hP hT ha_7 rfl 9 (by decide) (hts _ kl_RX10_210) (fun _ h9 => h9) rfl dX10_dequeue_30 (fun _ hv_22 hf_23 => ?_)
      obtain ⟨x_24, rfl⟩ := hv_22
      refine ty_ki (wr := [(ty_XO x w sp sv bu bl le)]) (wc := ([] ++ ws_16)) (va_runS (As := [.ref a_19, .int x_24]) (rest := []) ⟨hx, hb, hml, hown, hts⟩ (t_X10_at l D ct S ws_16 ph xx a_19 n_20 x_24 _ hT ha_21 hph hy1) (cm_S 2 hts kc_X10_at ki_RX10 kl_RX10_216 ks_X10_at kd_X10_at ⟨Nat.le_of_ble_eq_true rfl, Nat.le_of_ble_eq_true rfl⟩) (ty_preS (wr := [(ty_XO x w sp sv bu bl le)]) (wc := ([] ++ ws_16)) hP hK hD hS hA hX) rfl rfl hl.1 rfl (lv_room (Nat.le_of_ble_eq_true rfl)) dX10_dequeue_33 ⟨Nat.le_of_ble_eq_true rfl, Nat.le_of_ble_eq_true rfl⟩) hP hD hS hA (fun r_25 u H locs hw_26 hP hD hS => ?_)
      obtain ⟨ws_27, rfl⟩ : ∃ z, z = u := ⟨_, rfl⟩
      have hT := hw_26
      have hP : va_P D vwCl ([(ty_XO x w sp sv bu bl le)] ++ ws_27) H := hP
      have hD : va_D A ([(ty_XO x w sp sv bu bl le)] ++ ws_27) := hD
      refine vx_ret ?_
      exact W.iret (v := r_25) hx hb hr (fun t ht hW => ⟨⟨r_25, ws_27, rfl, hT, by rw [ht]; exact hP, by rw [hAe]; exact hD⟩, hS.F ht⟩) hS.2.2 dX10_dequeue_36
    · refine lv_iconst (v := (-1)) hx hb dX10_dequeue_13 (by decide) ?_
      refine vx_ret ?_
      exact W.iret (v := (-1)) hx hb hr (fun t ht hW => ⟨⟨(-1), ws_4, rfl, hT, by rw [ht]; exact hP, by rw [hAe]; exact hD⟩, hS.F ht⟩) hS.2.2 dX10_dequeue_14
theorem dX10_queueAt_0 : decode cX10_queueAt 0 = .ok (.aload_n 0, 1) := by decide +kernel
theorem dX10_queueAt_1 : decode cX10_queueAt 1 = .ok (.iload_n 1, 1) := by decide +kernel
theorem dX10_queueAt_2 : decode cX10_queueAt 2 = .ok (.invokevirtual 172, 3) := by decide +kernel
theorem dX10_queueAt_5 : decode cX10_queueAt 5 = .ok (.astore_n 3, 1) := by decide +kernel
theorem dX10_queueAt_6 : decode cX10_queueAt 6 = .ok (.iload_n 2, 1) := by decide +kernel
theorem dX10_queueAt_7 : decode cX10_queueAt 7 = .ok (.ifCond .lt 11, 3) := by decide +kernel
theorem dX10_queueAt_10 : decode cX10_queueAt 10 = .ok (.iload_n 2, 1) := by decide +kernel
theorem dX10_queueAt_11 : decode cX10_queueAt 11 = .ok (.aload_n 3, 1) := by decide +kernel
theorem dX10_queueAt_12 : decode cX10_queueAt 12 = .ok (.getfield 210, 3) := by decide +kernel
theorem dX10_queueAt_15 : decode cX10_queueAt 15 = .ok (.if_icmp .lt 7, 3) := by decide +kernel
theorem dX10_queueAt_18 : decode cX10_queueAt 18 = .ok (.iconst (-1), 1) := by decide +kernel
theorem dX10_queueAt_19 : decode cX10_queueAt 19 = .ok (.goto 11, 3) := by decide +kernel
theorem dX10_queueAt_22 : decode cX10_queueAt 22 = .ok (.aload_n 3, 1) := by decide +kernel
theorem dX10_queueAt_23 : decode cX10_queueAt 23 = .ok (.getfield 213, 3) := by decide +kernel
theorem dX10_queueAt_26 : decode cX10_queueAt 26 = .ok (.iload_n 2, 1) := by decide +kernel
theorem dX10_queueAt_27 : decode cX10_queueAt 27 = .ok (.invokestatic 216, 3) := by decide +kernel
theorem dX10_queueAt_30 : decode cX10_queueAt 30 = .ok (.ireturn, 1) := by decide +kernel
set_option maxRecDepth 100000 in
set_option maxHeartbeats 4000000 in
theorem t_X10_queueAt (l : Launch) (hfl : l.stackTraces = false) (D : va_G) (ct : Nat → ClassId) (S : ty_S) (ws : va_W) (ph : va_W → Prop) (xx : Nat → Nat → Nat → Prop) (x : Nat) (w : Nat) (sp : Nat) (sv : Nat) (bu : Nat) (ns : Nat) (bl : Int32) (le : Int32) (p1 : Int32) (p2 : Int32) (sz : Nat) (hT : ty_V ct S ph ws) (h_w : S w = some (.inl 9)) (h_sp : S sp = some (.inl 9)) (h_sv : S sv = some (.inr (4, ns))) (hph : ty_C ph xx) (hy1 : ty_y1 xx) : vx_Met l yX10_queueAt (ws_ yX10_queueAt cX10_queueAt 4 (some .int)) ({ frames := 7, cells := 1, slots := 6, locals := 112 } : Room) (va_Pc [.ref x, .int p1, .int p2] (cmP D ct sz ([(ty_XO x w sp sv bu bl le)] ++ ws))) (va_Qi (fun (r : Int32) (u9 : va_W) => ty_V ct S ph u9) (cmB D ([(ty_XO x w sp sv bu bl le)] ++ ws) sz (fun (u9 : va_W) => ([(ty_XO x w sp sv bu bl le)] ++ u9))) (va_A ([(ty_XO x w sp sv bu bl le)] ++ ws) sz)) (vx_X (fun (u9 : va_W) => ty_V ct S ph u9) (cmBY D ([(ty_XO x w sp sv bu bl le)] ++ ws) sz ["java/lang/IndexOutOfBoundsException"] (fun (u9 : va_W) => ([(ty_XO x w sp sv bu bl le)] ++ u9))) (va_A ([(ty_XO x w sp sv bu bl le)] ++ ws) sz)) 1 6 (va_A ([(ty_XO x w sp sv bu bl le)] ++ ws) sz) := by
  refine vx_ofW (cc := cX10_queueAt) (maxL := 4) (ret := (some .int)) (by decide) rfl ?_
  intro p e s m args below meth c s₁ B hml hex hv
  obtain ⟨rfl, hsz, hP, hK, hD0, hX⟩ := hv
  have hx := B.exec
  have hb := B.bytes
  have hr := B.returns
  have hts := ws_all (atoms_spec (ws := ws_ yX10_queueAt cX10_queueAt 4 (some .int)) B.pre)
  have hown : s.vm.findClass RX10 = some m.cls := findClass_of_methodNamed B.named
  have hlocks := B.notSynchronized
  subst hsz
  have hD := hD0.self (sz := s.heap.size)
  generalize hAe : va_A ([(ty_XO x w sp sv bu bl le)] ++ ws) s.heap.size = A at hD hX ⊢
  have hA : ∀ q : Nat, s.heap.size ≤ q → A q := fun q h => by rw [← hAe]; exact Or.inr h
  have hS : va_S A s.heap s.heap [] := va_S.rf
  have hl := lv_entry ([.ref x, .int p1, .int p2]) (n := 4) (Nat.le_of_ble_eq_true rfl)
  rw [lg_entry_eq]
  generalize (lg_sl ([.ref x, .int p1, .int p2]) ++ List.replicate (4 - (lg_sl ([.ref x, .int p1, .int p2])).length) Slot.unset).toArray = ls at hl ⊢
  have hl : lv_has ls 4 [(0, .ref x), (1, .int p1), (2, .int p2)] := hl
  refine lv_aload_n hx hb dX10_queueAt_0 rfl (lv_at hl 0 rfl) ?_
  refine lv_iload_n hx hb dX10_queueAt_1 rfl (lv_at hl 1 rfl) ?_
  refine ty_xq (wr := []) (wc := ([(ty_XO x w sp sv bu bl le)] ++ ws)) (vx_runV (As := [.int p1]) (rest := []) ⟨hx, hb, hml, hown, hts⟩ (t_X10_needChannel l hfl D ct S ws ph xx x w sp sv bu ns bl le p1 _ hT h_w h_sp h_sv hph hy1) (cm_V 1 hts kc_X10_needChannel ki_RX10 kl_RX10_172 kv_X10_needChannel kx_X10_needChannel kd_X10_needChannel ⟨Nat.le_of_ble_eq_true rfl, Nat.le_of_ble_eq_true rfl⟩) (ty_preE (wr := []) (wc := ([(ty_XO x w sp sv bu bl le)] ++ ws)) (ci := 10) (q0 := 0) hP hK hD hS hA hX rfl rfl) rfl rfl hl.1 rfl (lv_room (Nat.le_of_ble_eq_true rfl)) dX10_queueAt_2 ⟨Nat.le_of_ble_eq_true rfl, Nat.le_of_ble_eq_true rfl⟩) hP hD hS hA (fun E ce q9 u H locs hu hE hP hD hS hce hcv hcl => ?_) (fun r_1 u H locs hw_2 hP hD hS => ?_)
  · obtain ⟨ws_3, rfl⟩ : ∃ z, z = u := ⟨_, rfl⟩
    have hT := hu
    have hP : va_P D vwCl ([(ty_XO x w sp sv bu bl le)] ++ ws_3) H := hP
    have hD : va_D A ([(ty_XO x w sp sv bu bl le)] ++ ws_3) := hD
    exact vx_out (fun x hx => (hex x hx).elim) hlocks hce hcv hcl (fun t ht hW => ⟨ws_3, hT, ⟨hE, by rw [ht]; exact hP, by rw [hAe]; exact hD⟩, hS.F ht⟩) hS.2.2 (Nat.le_of_ble_eq_true rfl) (Nat.le_of_ble_eq_true rfl)
  · obtain ⟨ws_4, rfl⟩ : ∃ z, z = u := ⟨_, rfl⟩
    obtain ⟨hT, hq_5⟩ := hw_2
    have hP : va_P D vwCl ([(ty_XO x w sp sv bu bl le)] ++ ws_4) H := hP
    have hD : va_D A ([(ty_XO x w sp sv bu bl le)] ++ ws_4) := hD
    refine W.widen (k := 1) (n := 6) (Nat.le_of_ble_eq_true rfl) (Nat.le_of_ble_eq_true rfl) ?_
    obtain ⟨a_6, rfl, ha_7⟩ := hq_5
    refine W.eq (g2 := F0 m 5 ls (.ref a_6 :: [])) rfl ?_
    refine lv_astore_n (lv' := [(3, .ref a_6), (0, .ref x), (1, .int p1), (2, .int p2)]) hx hb dX10_queueAt_5 rfl hl (by decide) rfl (fun ls hl => ?_)
    refine lv_iload_n hx hb dX10_queueAt_6 rfl (lv_at hl 3 rfl) ?_
    refine lv_if_lt (tgt := 18) hx hb dX10_queueAt_7 (by decide) (fun hc_8 => ?_) (fun hc_8 => ?_)
    · refine lv_iconst (v := (-1)) hx hb dX10_queueAt_18 (by decide) ?_
      refine lv_goto (tgt := 30) hx hb dX10_queueAt_19 (by decide) ?_
      refine vx_ret ?_
      exact W.iret (v := (-1)) hx hb hr (fun t ht hW => ⟨⟨(-1), ws_4, rfl, hT, by rw [ht]; exact hP, by rw [hAe]; exact hD⟩, hS.F ht⟩) hS.2.2 dX10_queueAt_30
    · refine lv_iload_n hx hb dX10_queueAt_10 rfl (lv_at hl 3 rfl) ?_
      refine lv_aload_n hx hb dX10_queueAt_11 rfl (lv_at hl 0 rfl) ?_
      refine ty_getN (E := [(ty_XO x w sp sv bu bl le)]) (ws := ws_4) (D := D) (ci := 1) (C := RX1) (T := TX1) (N := 14) hx hb hts in_X1 hown hK hP hT ha_7 rfl 9 (by decide) (hts _ kl_RX10_210) (fun _ h9 => h9) rfl dX10_queueAt_12 (fun _ hv_9 hf_10 => ?_)
      obtain ⟨x_11, rfl⟩ := hv_9
      refine lv_icmp_lt (tgt := 22) hx hb dX10_queueAt_15 (by decide) (fun hc_12 => ?_) (fun hc_12 => ?_)
      · refine lv_aload_n hx hb dX10_queueAt_22 rfl (lv_at hl 0 rfl) ?_
        refine ty_getN (E := [(ty_XO x w sp sv bu bl le)]) (ws := ws_4) (D := D) (ci := 1) (C := RX1) (T := TX1) (N := 14) hx hb hts in_X1 hown hK hP hT ha_7 rfl 8 (by decide) (hts _ kl_RX10_213) (fun _ h9 => h9) rfl dX10_queueAt_23 (fun _ hv_13 hf_14 => ?_)
        obtain ⟨a_15, n_16, rfl, ha_17⟩ := hv_13
        refine lv_iload_n hx hb dX10_queueAt_26 rfl (lv_at hl 3 rfl) ?_
        refine ty_ki (wr := [(ty_XO x w sp sv bu bl le)]) (wc := ([] ++ ws_4)) (va_runS (As := [.ref a_15, .int p2]) (rest := []) ⟨hx, hb, hml, hown, hts⟩ (t_X10_at l D ct S ws_4 ph xx a_15 n_16 p2 _ hT ha_17 hph hy1) (cm_S 2 hts kc_X10_at ki_RX10 kl_RX10_216 ks_X10_at kd_X10_at ⟨Nat.le_of_ble_eq_true rfl, Nat.le_of_ble_eq_true rfl⟩) (ty_preS (wr := [(ty_XO x w sp sv bu bl le)]) (wc := ([] ++ ws_4)) hP hK hD hS hA hX) rfl rfl hl.1 rfl (lv_room (Nat.le_of_ble_eq_true rfl)) dX10_queueAt_27 ⟨Nat.le_of_ble_eq_true rfl, Nat.le_of_ble_eq_true rfl⟩) hP hD hS hA (fun r_18 u H locs hw_19 hP hD hS => ?_)
        obtain ⟨ws_20, rfl⟩ : ∃ z, z = u := ⟨_, rfl⟩
        have hT := hw_19
        have hP : va_P D vwCl ([(ty_XO x w sp sv bu bl le)] ++ ws_20) H := hP
        have hD : va_D A ([(ty_XO x w sp sv bu bl le)] ++ ws_20) := hD
        refine vx_ret ?_
        exact W.iret (v := r_18) hx hb hr (fun t ht hW => ⟨⟨r_18, ws_20, rfl, hT, by rw [ht]; exact hP, by rw [hAe]; exact hD⟩, hS.F ht⟩) hS.2.2 dX10_queueAt_30
      · refine lv_iconst (v := (-1)) hx hb dX10_queueAt_18 (by decide) ?_
        refine lv_goto (tgt := 30) hx hb dX10_queueAt_19 (by decide) ?_
        refine vx_ret ?_
        exact W.iret (v := (-1)) hx hb hr (fun t ht hW => ⟨⟨(-1), ws_4, rfl, hT, by rw [ht]; exact hP, by rw [hAe]; exact hD⟩, hS.F ht⟩) hS.2.2 dX10_queueAt_30
theorem dX10_queueSize_0 : decode cX10_queueSize 0 = .ok (.aload_n 0, 1) := by decide +kernel
theorem dX10_queueSize_1 : decode cX10_queueSize 1 = .ok (.iload_n 1, 1) := by decide +kernel
theorem dX10_queueSize_2 : decode cX10_queueSize 2 = .ok (.invokevirtual 172, 3) := by decide +kernel
theorem dX10_queueSize_5 : decode cX10_queueSize 5 = .ok (.getfield 210, 3) := by decide +kernel
theorem dX10_queueSize_8 : decode cX10_queueSize 8 = .ok (.ireturn, 1) := by decide +kernel
set_option maxRecDepth 100000 in
set_option maxHeartbeats 4000000 in
theorem t_X10_queueSize (l : Launch) (hfl : l.stackTraces = false) (D : va_G) (ct : Nat → ClassId) (S : ty_S) (ws : va_W) (ph : va_W → Prop) (xx : Nat → Nat → Nat → Prop) (x : Nat) (w : Nat) (sp : Nat) (sv : Nat) (bu : Nat) (ns : Nat) (bl : Int32) (le : Int32) (p1 : Int32) (sz : Nat) (hT : ty_V ct S ph ws) (h_w : S w = some (.inl 9)) (h_sp : S sp = some (.inl 9)) (h_sv : S sv = some (.inr (4, ns))) (hph : ty_C ph xx) (hy1 : ty_y1 xx) : vx_Met l yX10_queueSize (ws_ yX10_queueSize cX10_queueSize 2 (some .int)) ({ frames := 7, cells := 1, slots := 6, locals := 112 } : Room) (va_Pc [.ref x, .int p1] (cmP D ct sz ([(ty_XO x w sp sv bu bl le)] ++ ws))) (va_Qi (fun (r : Int32) (u9 : va_W) => ty_V ct S ph u9) (cmB D ([(ty_XO x w sp sv bu bl le)] ++ ws) sz (fun (u9 : va_W) => ([(ty_XO x w sp sv bu bl le)] ++ u9))) (va_A ([(ty_XO x w sp sv bu bl le)] ++ ws) sz)) (vx_X (fun (u9 : va_W) => ty_V ct S ph u9) (cmBY D ([(ty_XO x w sp sv bu bl le)] ++ ws) sz ["java/lang/IndexOutOfBoundsException"] (fun (u9 : va_W) => ([(ty_XO x w sp sv bu bl le)] ++ u9))) (va_A ([(ty_XO x w sp sv bu bl le)] ++ ws) sz)) 1 6 (va_A ([(ty_XO x w sp sv bu bl le)] ++ ws) sz) := by
  refine vx_ofW (cc := cX10_queueSize) (maxL := 2) (ret := (some .int)) (by decide) rfl ?_
  intro p e s m args below meth c s₁ B hml hex hv
  obtain ⟨rfl, hsz, hP, hK, hD0, hX⟩ := hv
  have hx := B.exec
  have hb := B.bytes
  have hr := B.returns
  have hts := ws_all (atoms_spec (ws := ws_ yX10_queueSize cX10_queueSize 2 (some .int)) B.pre)
  have hown : s.vm.findClass RX10 = some m.cls := findClass_of_methodNamed B.named
  have hlocks := B.notSynchronized
  subst hsz
  have hD := hD0.self (sz := s.heap.size)
  generalize hAe : va_A ([(ty_XO x w sp sv bu bl le)] ++ ws) s.heap.size = A at hD hX ⊢
  have hA : ∀ q : Nat, s.heap.size ≤ q → A q := fun q h => by rw [← hAe]; exact Or.inr h
  have hS : va_S A s.heap s.heap [] := va_S.rf
  have hl := lv_entry ([.ref x, .int p1]) (n := 2) (Nat.le_of_ble_eq_true rfl)
  rw [lg_entry_eq]
  generalize (lg_sl ([.ref x, .int p1]) ++ List.replicate (2 - (lg_sl ([.ref x, .int p1])).length) Slot.unset).toArray = ls at hl ⊢
  have hl : lv_has ls 2 [(0, .ref x), (1, .int p1)] := hl
  refine lv_aload_n hx hb dX10_queueSize_0 rfl (lv_at hl 0 rfl) ?_
  refine lv_iload_n hx hb dX10_queueSize_1 rfl (lv_at hl 1 rfl) ?_
  refine ty_xq (wr := []) (wc := ([(ty_XO x w sp sv bu bl le)] ++ ws)) (vx_runV (As := [.int p1]) (rest := []) ⟨hx, hb, hml, hown, hts⟩ (t_X10_needChannel l hfl D ct S ws ph xx x w sp sv bu ns bl le p1 _ hT h_w h_sp h_sv hph hy1) (cm_V 1 hts kc_X10_needChannel ki_RX10 kl_RX10_172 kv_X10_needChannel kx_X10_needChannel kd_X10_needChannel ⟨Nat.le_of_ble_eq_true rfl, Nat.le_of_ble_eq_true rfl⟩) (ty_preE (wr := []) (wc := ([(ty_XO x w sp sv bu bl le)] ++ ws)) (ci := 10) (q0 := 0) hP hK hD hS hA hX rfl rfl) rfl rfl hl.1 rfl (lv_room (Nat.le_of_ble_eq_true rfl)) dX10_queueSize_2 ⟨Nat.le_of_ble_eq_true rfl, Nat.le_of_ble_eq_true rfl⟩) hP hD hS hA (fun E ce q9 u H locs hu hE hP hD hS hce hcv hcl => ?_) (fun r_1 u H locs hw_2 hP hD hS => ?_)
  · obtain ⟨ws_3, rfl⟩ : ∃ z, z = u := ⟨_, rfl⟩
    have hT := hu
    have hP : va_P D vwCl ([(ty_XO x w sp sv bu bl le)] ++ ws_3) H := hP
    have hD : va_D A ([(ty_XO x w sp sv bu bl le)] ++ ws_3) := hD
    exact vx_out (fun x hx => (hex x hx).elim) hlocks hce hcv hcl (fun t ht hW => ⟨ws_3, hT, ⟨hE, by rw [ht]; exact hP, by rw [hAe]; exact hD⟩, hS.F ht⟩) hS.2.2 (Nat.le_of_ble_eq_true rfl) (Nat.le_of_ble_eq_true rfl)
  · obtain ⟨ws_4, rfl⟩ : ∃ z, z = u := ⟨_, rfl⟩
    obtain ⟨hT, hq_5⟩ := hw_2
    have hP : va_P D vwCl ([(ty_XO x w sp sv bu bl le)] ++ ws_4) H := hP
    have hD : va_D A ([(ty_XO x w sp sv bu bl le)] ++ ws_4) := hD
    refine W.widen (k := 1) (n := 6) (Nat.le_of_ble_eq_true rfl) (Nat.le_of_ble_eq_true rfl) ?_
    obtain ⟨a_6, rfl, ha_7⟩ := hq_5
    refine W.eq (g2 := F0 m 5 ls (.ref a_6 :: [])) rfl ?_
    refine ty_getN (E := [(ty_XO x w sp sv bu bl le)]) (ws := ws_4) (D := D) (ci := 1) (C := RX1) (T := TX1) (N := 14) hx hb hts in_X1 hown hK hP hT ha_7 rfl 9 (by decide) (hts _ kl_RX10_210) (fun _ h9 => h9) rfl dX10_queueSize_5 (fun _ hv_8 hf_9 => ?_)
    obtain ⟨x_10, rfl⟩ := hv_8
    refine vx_ret ?_
    exact W.iret (v := x_10) hx hb hr (fun t ht hW => ⟨⟨x_10, ws_4, rfl, hT, by rw [ht]; exact hP, by rw [hAe]; exact hD⟩, hS.F ht⟩) hS.2.2 dX10_queueSize_8
theorem dX10_value_0 : decode cX10_value 0 = .ok (.aload_n 0, 1) := by decide +kernel
theorem dX10_value_1 : decode cX10_value 1 = .ok (.iload_n 1, 1) := by decide +kernel
theorem dX10_value_2 : decode cX10_value 2 = .ok (.invokevirtual 172, 3) := by decide +kernel
theorem dX10_value_5 : decode cX10_value 5 = .ok (.astore_n 3, 1) := by decide +kernel
theorem dX10_value_6 : decode cX10_value 6 = .ok (.iload_n 2, 1) := by decide +kernel
theorem dX10_value_7 : decode cX10_value 7 = .ok (.iconst 0, 1) := by decide +kernel
theorem dX10_value_8 : decode cX10_value 8 = .ok (.bipush 10, 2) := by decide +kernel
theorem dX10_value_10 : decode cX10_value 10 = .ok (.invokestatic 81, 3) := by decide +kernel
theorem dX10_value_13 : decode cX10_value 13 = .ok (.aload_n 3, 1) := by decide +kernel
theorem dX10_value_14 : decode cX10_value 14 = .ok (.iload_n 2, 1) := by decide +kernel
theorem dX10_value_15 : decode cX10_value 15 = .ok (.invokevirtual 227, 3) := by decide +kernel
theorem dX10_value_18 : decode cX10_value 18 = .ok (.ireturn, 1) := by decide +kernel
set_option maxRecDepth 100000 in
set_option maxHeartbeats 4000000 in
theorem t_X10_value (l : Launch) (hfl : l.stackTraces = false) (D : va_G) (ct : Nat → ClassId) (S : ty_S) (ws : va_W) (ph : va_W → Prop) (xx : Nat → Nat → Nat → Prop) (x : Nat) (w : Nat) (sp : Nat) (sv : Nat) (bu : Nat) (ns : Nat) (bl : Int32) (le : Int32) (p1 : Int32) (p2 : Int32) (sz : Nat) (hT : ty_V ct S ph ws) (h_w : S w = some (.inl 9)) (h_sp : S sp = some (.inl 9)) (h_sv : S sv = some (.inr (4, ns))) (hph : ty_C ph xx) (hy1 : ty_y1 xx) : vx_Met l yX10_value (ws_ yX10_value cX10_value 4 (some .int)) ({ frames := 7, cells := 2, slots := 12, locals := 112 } : Room) (va_Pc [.ref x, .int p1, .int p2] (cmP D ct sz ([(ty_XO x w sp sv bu bl le)] ++ ws))) (va_Qi (fun (r : Int32) (u9 : va_W) => ty_V ct S ph u9) (cmB D ([(ty_XO x w sp sv bu bl le)] ++ ws) sz (fun (u9 : va_W) => ([(ty_XO x w sp sv bu bl le)] ++ u9))) (va_A ([(ty_XO x w sp sv bu bl le)] ++ ws) sz)) (vx_X (fun (u9 : va_W) => ty_V ct S ph u9) (cmBY D ([(ty_XO x w sp sv bu bl le)] ++ ws) sz ["java/lang/IllegalArgumentException", "java/lang/IndexOutOfBoundsException"] (fun (u9 : va_W) => ([(ty_XO x w sp sv bu bl le)] ++ u9))) (va_A ([(ty_XO x w sp sv bu bl le)] ++ ws) sz)) 2 12 (va_A ([(ty_XO x w sp sv bu bl le)] ++ ws) sz) := by
  refine vx_ofW (cc := cX10_value) (maxL := 4) (ret := (some .int)) (by decide) rfl ?_
  intro p e s m args below meth c s₁ B hml hex hv
  obtain ⟨rfl, hsz, hP, hK, hD0, hX⟩ := hv
  have hx := B.exec
  have hb := B.bytes
  have hr := B.returns
  have hts := ws_all (atoms_spec (ws := ws_ yX10_value cX10_value 4 (some .int)) B.pre)
  have hown : s.vm.findClass RX10 = some m.cls := findClass_of_methodNamed B.named
  have hlocks := B.notSynchronized
  subst hsz
  have hD := hD0.self (sz := s.heap.size)
  generalize hAe : va_A ([(ty_XO x w sp sv bu bl le)] ++ ws) s.heap.size = A at hD hX ⊢
  have hA : ∀ q : Nat, s.heap.size ≤ q → A q := fun q h => by rw [← hAe]; exact Or.inr h
  have hS : va_S A s.heap s.heap [] := va_S.rf
  have hl := lv_entry ([.ref x, .int p1, .int p2]) (n := 4) (Nat.le_of_ble_eq_true rfl)
  rw [lg_entry_eq]
  generalize (lg_sl ([.ref x, .int p1, .int p2]) ++ List.replicate (4 - (lg_sl ([.ref x, .int p1, .int p2])).length) Slot.unset).toArray = ls at hl ⊢
  have hl : lv_has ls 4 [(0, .ref x), (1, .int p1), (2, .int p2)] := hl
  refine lv_aload_n hx hb dX10_value_0 rfl (lv_at hl 0 rfl) ?_
  refine lv_iload_n hx hb dX10_value_1 rfl (lv_at hl 1 rfl) ?_
  refine ty_xq (wr := []) (wc := ([(ty_XO x w sp sv bu bl le)] ++ ws)) (vx_runV (As := [.int p1]) (rest := []) ⟨hx, hb, hml, hown, hts⟩ (t_X10_needChannel l hfl D ct S ws ph xx x w sp sv bu ns bl le p1 _ hT h_w h_sp h_sv hph hy1) (cm_V 1 hts kc_X10_needChannel ki_RX10 kl_RX10_172 kv_X10_needChannel kx_X10_needChannel kd_X10_needChannel ⟨Nat.le_of_ble_eq_true rfl, Nat.le_of_ble_eq_true rfl⟩) (ty_preE (wr := []) (wc := ([(ty_XO x w sp sv bu bl le)] ++ ws)) (ci := 10) (q0 := 0) hP hK hD hS hA hX rfl rfl) rfl rfl hl.1 rfl (lv_room (Nat.le_of_ble_eq_true rfl)) dX10_value_2 ⟨Nat.le_of_ble_eq_true rfl, Nat.le_of_ble_eq_true rfl⟩) hP hD hS hA (fun E ce q9 u H locs hu hE hP hD hS hce hcv hcl => ?_) (fun r_1 u H locs hw_2 hP hD hS => ?_)
  · obtain ⟨ws_3, rfl⟩ : ∃ z, z = u := ⟨_, rfl⟩
    have hT := hu
    have hP : va_P D vwCl ([(ty_XO x w sp sv bu bl le)] ++ ws_3) H := hP
    have hD : va_D A ([(ty_XO x w sp sv bu bl le)] ++ ws_3) := hD
    exact vx_out (fun x hx => (hex x hx).elim) hlocks hce hcv hcl (fun t ht hW => ⟨ws_3, hT, ⟨(ty_mem hE (by decide)), by rw [ht]; exact hP, by rw [hAe]; exact hD⟩, hS.F ht⟩) hS.2.2 (Nat.le_of_ble_eq_true rfl) (Nat.le_of_ble_eq_true rfl)
  · obtain ⟨ws_4, rfl⟩ : ∃ z, z = u := ⟨_, rfl⟩
    obtain ⟨hT, hq_5⟩ := hw_2
    have hP : va_P D vwCl ([(ty_XO x w sp sv bu bl le)] ++ ws_4) H := hP
    have hD : va_D A ([(ty_XO x w sp sv bu bl le)] ++ ws_4) := hD
    refine W.widen (k := 1) (n := 6) (Nat.le_of_ble_eq_true rfl) (Nat.le_of_ble_eq_true rfl) ?_
    obtain ⟨a_6, rfl, ha_7⟩ := hq_5
    refine W.eq (g2 := F0 m 5 ls (.ref a_6 :: [])) rfl ?_
    refine lv_astore_n (lv' := [(3, .ref a_6), (0, .ref x), (1, .int p1), (2, .int p2)]) hx hb dX10_value_5 rfl hl (by decide) rfl (fun ls hl => ?_)
    refine lv_iload_n hx hb dX10_value_6 rfl (lv_at hl 3 rfl) ?_
    refine lv_iconst (v := 0) hx hb dX10_value_7 (by decide) ?_
    refine lv_bipush (v := 10) hx hb dX10_value_8 (by decide) ?_
    refine ty_xv (wr := [(ty_XO x w sp sv bu bl le)]) (wc := ([] ++ ws_4)) (vx_runS (As := [.int p2, .int 0, .int 10]) (rest := []) ⟨hx, hb, hml, hown, hts⟩ (t_X10_needRange l hfl D ct S ws_4 ph xx p2 (0 : Int32) (10 : Int32) _ hT hph hy1) (cm_S 3 hts kc_X10_needRange ki_RX10 kl_RX10_81 ks_X10_needRange kd_X10_needRange ⟨Nat.le_of_ble_eq_true rfl, Nat.le_of_ble_eq_true rfl⟩) (ty_preS (wr := [(ty_XO x w sp sv bu bl le)]) (wc := ([] ++ ws_4)) hP hK hD hS hA hX) rfl rfl hl.1 rfl (lv_room (Nat.le_of_ble_eq_true rfl)) dX10_value_10 ⟨Nat.le_of_ble_eq_true rfl, Nat.le_of_ble_eq_true rfl⟩) hP hD hS hA (fun E ce q9 u H locs hu hE hP hD hS hce hcv hcl => ?_) (fun u H locs hw_9 hP hD hS => ?_)
    · obtain ⟨ws_10, rfl⟩ : ∃ z, z = u := ⟨_, rfl⟩
      have hT := hu
      have hP : va_P D vwCl ([(ty_XO x w sp sv bu bl le)] ++ ws_10) H := hP
      have hD : va_D A ([(ty_XO x w sp sv bu bl le)] ++ ws_10) := hD
      exact vx_out (fun x hx => (hex x hx).elim) hlocks hce hcv hcl (fun t ht hW => ⟨ws_10, hT, ⟨(ty_mem hE (by decide)), by rw [ht]; exact hP, by rw [hAe]; exact hD⟩, hS.F ht⟩) hS.2.2 (Nat.le_of_ble_eq_true rfl) (Nat.le_of_ble_eq_true rfl)
    · obtain ⟨ws_11, rfl⟩ : ∃ z, z = u := ⟨_, rfl⟩
      have hT := hw_9
      have hP : va_P D vwCl ([(ty_XO x w sp sv bu bl le)] ++ ws_11) H := hP
      have hD : va_D A ([(ty_XO x w sp sv bu bl le)] ++ ws_11) := hD
      refine W.widen (k := 2) (n := 12) (Nat.le_of_ble_eq_true rfl) (Nat.le_of_ble_eq_true rfl) ?_
      refine lv_aload_n hx hb dX10_value_13 rfl (lv_at hl 0 rfl) ?_
      refine lv_iload_n hx hb dX10_value_14 rfl (lv_at hl 3 rfl) ?_
      refine ty_ki (wr := [(ty_XO x w sp sv bu bl le)]) (wc := ([] ++ ws_11)) (va_runVN (As := [.int p2]) (rest := []) ⟨hx, hb, hml, hown, hts⟩ (t_X1_number l D ct S ws_11 ph xx a_6 p2 _ hT ha_7 hph hy1) (cm_VN 1 hts kc_X1_number ki_RX1 kl_RX10_227 kv_X1_number kx_X1_number kd_X1_number ⟨Nat.le_of_ble_eq_true rfl, Nat.le_of_ble_eq_true rfl⟩) (ty_preV (wr := [(ty_XO x w sp sv bu bl le)]) (E := []) (ws := ws_11) (ci := 1) hP hK hD hS hA hX hT rfl ha_7) rfl rfl hl.1 rfl (lv_room (Nat.le_of_ble_eq_true rfl)) dX10_value_15 ⟨Nat.le_of_ble_eq_true rfl, Nat.le_of_ble_eq_true rfl⟩) hP hD hS hA (fun r_12 u H locs hw_13 hP hD hS => ?_)
      obtain ⟨ws_14, rfl⟩ : ∃ z, z = u := ⟨_, rfl⟩
      have hT := hw_13
      have hP : va_P D vwCl ([(ty_XO x w sp sv bu bl le)] ++ ws_14) H := hP
      have hD : va_D A ([(ty_XO x w sp sv bu bl le)] ++ ws_14) := hD
      refine vx_ret ?_
      exact W.iret (v := r_12) hx hb hr (fun t ht hW => ⟨⟨r_12, ws_14, rfl, hT, by rw [ht]; exact hP, by rw [hAe]; exact hD⟩, hS.F ht⟩) hS.2.2 dX10_value_18
theorem dX10_restVoltage_0 : decode cX10_restVoltage 0 = .ok (.aload_n 0, 1) := by decide +kernel
theorem dX10_restVoltage_1 : decode cX10_restVoltage 1 = .ok (.iload_n 1, 1) := by decide +kernel
theorem dX10_restVoltage_2 : decode cX10_restVoltage 2 = .ok (.invokevirtual 172, 3) := by decide +kernel
theorem dX10_restVoltage_5 : decode cX10_restVoltage 5 = .ok (.astore_n 3, 1) := by decide +kernel
theorem dX10_restVoltage_6 : decode cX10_restVoltage 6 = .ok (.iload_n 2, 1) := by decide +kernel
theorem dX10_restVoltage_7 : decode cX10_restVoltage 7 = .ok (.iconst 0, 1) := by decide +kernel
theorem dX10_restVoltage_8 : decode cX10_restVoltage 8 = .ok (.ldc 230, 2) := by decide +kernel
theorem dX10_restVoltage_10 : decode cX10_restVoltage 10 = .ok (.invokestatic 81, 3) := by decide +kernel
theorem dX10_restVoltage_13 : decode cX10_restVoltage 13 = .ok (.aload_n 3, 1) := by decide +kernel
theorem dX10_restVoltage_14 : decode cX10_restVoltage 14 = .ok (.getfield 134, 3) := by decide +kernel
theorem dX10_restVoltage_17 : decode cX10_restVoltage 17 = .ok (.iload_n 2, 1) := by decide +kernel
theorem dX10_restVoltage_18 : decode cX10_restVoltage 18 = .ok (.invokevirtual 231, 3) := by decide +kernel
theorem dX10_restVoltage_21 : decode cX10_restVoltage 21 = .ok (.ireturn, 1) := by decide +kernel
set_option maxRecDepth 100000 in
set_option maxHeartbeats 4000000 in
theorem t_X10_restVoltage (l : Launch) (hfl : l.stackTraces = false) (D : va_G) (ct : Nat → ClassId) (S : ty_S) (ws : va_W) (ph : va_W → Prop) (xx : Nat → Nat → Nat → Prop) (x : Nat) (w : Nat) (sp : Nat) (sv : Nat) (bu : Nat) (ns : Nat) (bl : Int32) (le : Int32) (p1 : Int32) (p2 : Int32) (sz : Nat) (hT : ty_V ct S ph ws) (h_w : S w = some (.inl 9)) (h_sp : S sp = some (.inl 9)) (h_sv : S sv = some (.inr (4, ns))) (hph : ty_C ph xx) (hy1 : ty_y1 xx) : vx_Met l yX10_restVoltage (ws_ yX10_restVoltage cX10_restVoltage 4 (some .int)) ({ frames := 7, cells := 2, slots := 12, locals := 112 } : Room) (va_Pc [.ref x, .int p1, .int p2] (cmP D ct sz ([(ty_XO x w sp sv bu bl le)] ++ ws))) (va_Qi (fun (r : Int32) (u9 : va_W) => ty_V ct S ph u9) (cmB D ([(ty_XO x w sp sv bu bl le)] ++ ws) sz (fun (u9 : va_W) => ([(ty_XO x w sp sv bu bl le)] ++ u9))) (va_A ([(ty_XO x w sp sv bu bl le)] ++ ws) sz)) (vx_X (fun (u9 : va_W) => ty_V ct S ph u9) (cmBY D ([(ty_XO x w sp sv bu bl le)] ++ ws) sz ["java/lang/IllegalArgumentException", "java/lang/IndexOutOfBoundsException"] (fun (u9 : va_W) => ([(ty_XO x w sp sv bu bl le)] ++ u9))) (va_A ([(ty_XO x w sp sv bu bl le)] ++ ws) sz)) 2 12 (va_A ([(ty_XO x w sp sv bu bl le)] ++ ws) sz) := by
  refine vx_ofW (cc := cX10_restVoltage) (maxL := 4) (ret := (some .int)) (by decide) rfl ?_
  intro p e s m args below meth c s₁ B hml hex hv
  obtain ⟨rfl, hsz, hP, hK, hD0, hX⟩ := hv
  have hx := B.exec
  have hb := B.bytes
  have hr := B.returns
  have hts := ws_all (atoms_spec (ws := ws_ yX10_restVoltage cX10_restVoltage 4 (some .int)) B.pre)
  have hown : s.vm.findClass RX10 = some m.cls := findClass_of_methodNamed B.named
  have hlocks := B.notSynchronized
  subst hsz
  have hD := hD0.self (sz := s.heap.size)
  generalize hAe : va_A ([(ty_XO x w sp sv bu bl le)] ++ ws) s.heap.size = A at hD hX ⊢
  have hA : ∀ q : Nat, s.heap.size ≤ q → A q := fun q h => by rw [← hAe]; exact Or.inr h
  have hS : va_S A s.heap s.heap [] := va_S.rf
  have hl := lv_entry ([.ref x, .int p1, .int p2]) (n := 4) (Nat.le_of_ble_eq_true rfl)
  rw [lg_entry_eq]
  generalize (lg_sl ([.ref x, .int p1, .int p2]) ++ List.replicate (4 - (lg_sl ([.ref x, .int p1, .int p2])).length) Slot.unset).toArray = ls at hl ⊢
  have hl : lv_has ls 4 [(0, .ref x), (1, .int p1), (2, .int p2)] := hl
  refine lv_aload_n hx hb dX10_restVoltage_0 rfl (lv_at hl 0 rfl) ?_
  refine lv_iload_n hx hb dX10_restVoltage_1 rfl (lv_at hl 1 rfl) ?_
  refine ty_xq (wr := []) (wc := ([(ty_XO x w sp sv bu bl le)] ++ ws)) (vx_runV (As := [.int p1]) (rest := []) ⟨hx, hb, hml, hown, hts⟩ (t_X10_needChannel l hfl D ct S ws ph xx x w sp sv bu ns bl le p1 _ hT h_w h_sp h_sv hph hy1) (cm_V 1 hts kc_X10_needChannel ki_RX10 kl_RX10_172 kv_X10_needChannel kx_X10_needChannel kd_X10_needChannel ⟨Nat.le_of_ble_eq_true rfl, Nat.le_of_ble_eq_true rfl⟩) (ty_preE (wr := []) (wc := ([(ty_XO x w sp sv bu bl le)] ++ ws)) (ci := 10) (q0 := 0) hP hK hD hS hA hX rfl rfl) rfl rfl hl.1 rfl (lv_room (Nat.le_of_ble_eq_true rfl)) dX10_restVoltage_2 ⟨Nat.le_of_ble_eq_true rfl, Nat.le_of_ble_eq_true rfl⟩) hP hD hS hA (fun E ce q9 u H locs hu hE hP hD hS hce hcv hcl => ?_) (fun r_1 u H locs hw_2 hP hD hS => ?_)
  · obtain ⟨ws_3, rfl⟩ : ∃ z, z = u := ⟨_, rfl⟩
    have hT := hu
    have hP : va_P D vwCl ([(ty_XO x w sp sv bu bl le)] ++ ws_3) H := hP
    have hD : va_D A ([(ty_XO x w sp sv bu bl le)] ++ ws_3) := hD
    exact vx_out (fun x hx => (hex x hx).elim) hlocks hce hcv hcl (fun t ht hW => ⟨ws_3, hT, ⟨(ty_mem hE (by decide)), by rw [ht]; exact hP, by rw [hAe]; exact hD⟩, hS.F ht⟩) hS.2.2 (Nat.le_of_ble_eq_true rfl) (Nat.le_of_ble_eq_true rfl)
  · obtain ⟨ws_4, rfl⟩ : ∃ z, z = u := ⟨_, rfl⟩
    obtain ⟨hT, hq_5⟩ := hw_2
    have hP : va_P D vwCl ([(ty_XO x w sp sv bu bl le)] ++ ws_4) H := hP
    have hD : va_D A ([(ty_XO x w sp sv bu bl le)] ++ ws_4) := hD
    refine W.widen (k := 1) (n := 6) (Nat.le_of_ble_eq_true rfl) (Nat.le_of_ble_eq_true rfl) ?_
    obtain ⟨a_6, rfl, ha_7⟩ := hq_5
    refine W.eq (g2 := F0 m 5 ls (.ref a_6 :: [])) rfl ?_
    refine lv_astore_n (lv' := [(3, .ref a_6), (0, .ref x), (1, .int p1), (2, .int p2)]) hx hb dX10_restVoltage_5 rfl hl (by decide) rfl (fun ls hl => ?_)
    refine lv_iload_n hx hb dX10_restVoltage_6 rfl (lv_at hl 3 rfl) ?_
    refine lv_iconst (v := 0) hx hb dX10_restVoltage_7 (by decide) ?_
    refine lv_ldc hx hb hown (hts _ kl_RX10_230) dX10_restVoltage_8 ?_
    refine ty_xv (wr := [(ty_XO x w sp sv bu bl le)]) (wc := ([] ++ ws_4)) (vx_runS (As := [.int p2, .int 0, .int 200000]) (rest := []) ⟨hx, hb, hml, hown, hts⟩ (t_X10_needRange l hfl D ct S ws_4 ph xx p2 (0 : Int32) (200000 : Int32) _ hT hph hy1) (cm_S 3 hts kc_X10_needRange ki_RX10 kl_RX10_81 ks_X10_needRange kd_X10_needRange ⟨Nat.le_of_ble_eq_true rfl, Nat.le_of_ble_eq_true rfl⟩) (ty_preS (wr := [(ty_XO x w sp sv bu bl le)]) (wc := ([] ++ ws_4)) hP hK hD hS hA hX) rfl rfl hl.1 rfl (lv_room (Nat.le_of_ble_eq_true rfl)) dX10_restVoltage_10 ⟨Nat.le_of_ble_eq_true rfl, Nat.le_of_ble_eq_true rfl⟩) hP hD hS hA (fun E ce q9 u H locs hu hE hP hD hS hce hcv hcl => ?_) (fun u H locs hw_9 hP hD hS => ?_)
    · obtain ⟨ws_10, rfl⟩ : ∃ z, z = u := ⟨_, rfl⟩
      have hT := hu
      have hP : va_P D vwCl ([(ty_XO x w sp sv bu bl le)] ++ ws_10) H := hP
      have hD : va_D A ([(ty_XO x w sp sv bu bl le)] ++ ws_10) := hD
      exact vx_out (fun x hx => (hex x hx).elim) hlocks hce hcv hcl (fun t ht hW => ⟨ws_10, hT, ⟨(ty_mem hE (by decide)), by rw [ht]; exact hP, by rw [hAe]; exact hD⟩, hS.F ht⟩) hS.2.2 (Nat.le_of_ble_eq_true rfl) (Nat.le_of_ble_eq_true rfl)
    · obtain ⟨ws_11, rfl⟩ : ∃ z, z = u := ⟨_, rfl⟩
      have hT := hw_9
      have hP : va_P D vwCl ([(ty_XO x w sp sv bu bl le)] ++ ws_11) H := hP
      have hD : va_D A ([(ty_XO x w sp sv bu bl le)] ++ ws_11) := hD
      refine W.widen (k := 2) (n := 12) (Nat.le_of_ble_eq_true rfl) (Nat.le_of_ble_eq_true rfl) ?_
      refine lv_aload_n hx hb dX10_restVoltage_13 rfl (lv_at hl 0 rfl) ?_
      refine ty_getN (E := [(ty_XO x w sp sv bu bl le)]) (ws := ws_11) (D := D) (ci := 1) (C := RX1) (T := TX1) (N := 14) hx hb hts in_X1 hown hK hP hT ha_7 rfl 1 (by decide) (hts _ kl_RX10_134) (fun _ h9 => h9) rfl dX10_restVoltage_14 (fun _ hv_12 hf_13 => ?_)
      obtain ⟨a_14, rfl, ha_15⟩ := hv_12
      refine lv_iload_n hx hb dX10_restVoltage_17 rfl (lv_at hl 3 rfl) ?_
      refine ty_ki (wr := [(ty_XO x w sp sv bu bl le)]) (wc := ([] ++ ws_11)) (va_runVN (As := [.int p2]) (rest := []) ⟨hx, hb, hml, hown, hts⟩ (t_X0_restVoltageAt l D ct S ws_11 ph xx a_14 p2 _ hT ha_15 hph hy1) (cm_VN 1 hts kc_X0_restVoltageAt ki_RX0 kl_RX10_231 kv_X0_restVoltageAt kx_X0_restVoltageAt kd_X0_restVoltageAt ⟨Nat.le_of_ble_eq_true rfl, Nat.le_of_ble_eq_true rfl⟩) (ty_preV (wr := [(ty_XO x w sp sv bu bl le)]) (E := []) (ws := ws_11) (ci := 0) hP hK hD hS hA hX hT rfl ha_15) rfl rfl hl.1 rfl (lv_room (Nat.le_of_ble_eq_true rfl)) dX10_restVoltage_18 ⟨Nat.le_of_ble_eq_true rfl, Nat.le_of_ble_eq_true rfl⟩) hP hD hS hA (fun r_16 u H locs hw_17 hP hD hS => ?_)
      obtain ⟨ws_18, rfl⟩ : ∃ z, z = u := ⟨_, rfl⟩
      have hT := hw_17
      have hP : va_P D vwCl ([(ty_XO x w sp sv bu bl le)] ++ ws_18) H := hP
      have hD : va_D A ([(ty_XO x w sp sv bu bl le)] ++ ws_18) := hD
      refine vx_ret ?_
      exact W.iret (v := r_16) hx hb hr (fun t ht hW => ⟨⟨r_16, ws_18, rfl, hT, by rw [ht]; exact hP, by rw [hAe]; exact hD⟩, hS.F ht⟩) hS.2.2 dX10_restVoltage_21
theorem dX10_chargeFor_0 : decode cX10_chargeFor 0 = .ok (.aload_n 0, 1) := by decide +kernel
theorem dX10_chargeFor_1 : decode cX10_chargeFor 1 = .ok (.iload_n 1, 1) := by decide +kernel
theorem dX10_chargeFor_2 : decode cX10_chargeFor 2 = .ok (.invokevirtual 172, 3) := by decide +kernel
theorem dX10_chargeFor_5 : decode cX10_chargeFor 5 = .ok (.astore_n 3, 1) := by decide +kernel
theorem dX10_chargeFor_6 : decode cX10_chargeFor 6 = .ok (.iload_n 2, 1) := by decide +kernel
theorem dX10_chargeFor_7 : decode cX10_chargeFor 7 = .ok (.iconst 0, 1) := by decide +kernel
theorem dX10_chargeFor_8 : decode cX10_chargeFor 8 = .ok (.sipush 5000, 3) := by decide +kernel
theorem dX10_chargeFor_11 : decode cX10_chargeFor 11 = .ok (.invokestatic 81, 3) := by decide +kernel
theorem dX10_chargeFor_14 : decode cX10_chargeFor 14 = .ok (.aload_n 3, 1) := by decide +kernel
theorem dX10_chargeFor_15 : decode cX10_chargeFor 15 = .ok (.getfield 134, 3) := by decide +kernel
theorem dX10_chargeFor_18 : decode cX10_chargeFor 18 = .ok (.iload_n 2, 1) := by decide +kernel
theorem dX10_chargeFor_19 : decode cX10_chargeFor 19 = .ok (.invokevirtual 234, 3) := by decide +kernel
theorem dX10_chargeFor_22 : decode cX10_chargeFor 22 = .ok (.ireturn, 1) := by decide +kernel
set_option maxRecDepth 100000 in
set_option maxHeartbeats 4000000 in
theorem t_X10_chargeFor (l : Launch) (hfl : l.stackTraces = false) (D : va_G) (ct : Nat → ClassId) (S : ty_S) (ws : va_W) (ph : va_W → Prop) (xx : Nat → Nat → Nat → Prop) (x : Nat) (w : Nat) (sp : Nat) (sv : Nat) (bu : Nat) (ns : Nat) (bl : Int32) (le : Int32) (p1 : Int32) (p2 : Int32) (sz : Nat) (hT : ty_V ct S ph ws) (h_w : S w = some (.inl 9)) (h_sp : S sp = some (.inl 9)) (h_sv : S sv = some (.inr (4, ns))) (hph : ty_C ph xx) (hy1 : ty_y1 xx) : vx_Met l yX10_chargeFor (ws_ yX10_chargeFor cX10_chargeFor 4 (some .int)) ({ frames := 7, cells := 2, slots := 12, locals := 112 } : Room) (va_Pc [.ref x, .int p1, .int p2] (cmP D ct sz ([(ty_XO x w sp sv bu bl le)] ++ ws))) (va_Qi (fun (r : Int32) (u9 : va_W) => ty_V ct S ph u9) (cmB D ([(ty_XO x w sp sv bu bl le)] ++ ws) sz (fun (u9 : va_W) => ([(ty_XO x w sp sv bu bl le)] ++ u9))) (va_A ([(ty_XO x w sp sv bu bl le)] ++ ws) sz)) (vx_X (fun (u9 : va_W) => ty_V ct S ph u9) (cmBY D ([(ty_XO x w sp sv bu bl le)] ++ ws) sz ["java/lang/IllegalArgumentException", "java/lang/IndexOutOfBoundsException"] (fun (u9 : va_W) => ([(ty_XO x w sp sv bu bl le)] ++ u9))) (va_A ([(ty_XO x w sp sv bu bl le)] ++ ws) sz)) 2 12 (va_A ([(ty_XO x w sp sv bu bl le)] ++ ws) sz) := by
  refine vx_ofW (cc := cX10_chargeFor) (maxL := 4) (ret := (some .int)) (by decide) rfl ?_
  intro p e s m args below meth c s₁ B hml hex hv
  obtain ⟨rfl, hsz, hP, hK, hD0, hX⟩ := hv
  have hx := B.exec
  have hb := B.bytes
  have hr := B.returns
  have hts := ws_all (atoms_spec (ws := ws_ yX10_chargeFor cX10_chargeFor 4 (some .int)) B.pre)
  have hown : s.vm.findClass RX10 = some m.cls := findClass_of_methodNamed B.named
  have hlocks := B.notSynchronized
  subst hsz
  have hD := hD0.self (sz := s.heap.size)
  generalize hAe : va_A ([(ty_XO x w sp sv bu bl le)] ++ ws) s.heap.size = A at hD hX ⊢
  have hA : ∀ q : Nat, s.heap.size ≤ q → A q := fun q h => by rw [← hAe]; exact Or.inr h
  have hS : va_S A s.heap s.heap [] := va_S.rf
  have hl := lv_entry ([.ref x, .int p1, .int p2]) (n := 4) (Nat.le_of_ble_eq_true rfl)
  rw [lg_entry_eq]
  generalize (lg_sl ([.ref x, .int p1, .int p2]) ++ List.replicate (4 - (lg_sl ([.ref x, .int p1, .int p2])).length) Slot.unset).toArray = ls at hl ⊢
  have hl : lv_has ls 4 [(0, .ref x), (1, .int p1), (2, .int p2)] := hl
  refine lv_aload_n hx hb dX10_chargeFor_0 rfl (lv_at hl 0 rfl) ?_
  refine lv_iload_n hx hb dX10_chargeFor_1 rfl (lv_at hl 1 rfl) ?_
  refine ty_xq (wr := []) (wc := ([(ty_XO x w sp sv bu bl le)] ++ ws)) (vx_runV (As := [.int p1]) (rest := []) ⟨hx, hb, hml, hown, hts⟩ (t_X10_needChannel l hfl D ct S ws ph xx x w sp sv bu ns bl le p1 _ hT h_w h_sp h_sv hph hy1) (cm_V 1 hts kc_X10_needChannel ki_RX10 kl_RX10_172 kv_X10_needChannel kx_X10_needChannel kd_X10_needChannel ⟨Nat.le_of_ble_eq_true rfl, Nat.le_of_ble_eq_true rfl⟩) (ty_preE (wr := []) (wc := ([(ty_XO x w sp sv bu bl le)] ++ ws)) (ci := 10) (q0 := 0) hP hK hD hS hA hX rfl rfl) rfl rfl hl.1 rfl (lv_room (Nat.le_of_ble_eq_true rfl)) dX10_chargeFor_2 ⟨Nat.le_of_ble_eq_true rfl, Nat.le_of_ble_eq_true rfl⟩) hP hD hS hA (fun E ce q9 u H locs hu hE hP hD hS hce hcv hcl => ?_) (fun r_1 u H locs hw_2 hP hD hS => ?_)
  · obtain ⟨ws_3, rfl⟩ : ∃ z, z = u := ⟨_, rfl⟩
    have hT := hu
    have hP : va_P D vwCl ([(ty_XO x w sp sv bu bl le)] ++ ws_3) H := hP
    have hD : va_D A ([(ty_XO x w sp sv bu bl le)] ++ ws_3) := hD
    exact vx_out (fun x hx => (hex x hx).elim) hlocks hce hcv hcl (fun t ht hW => ⟨ws_3, hT, ⟨(ty_mem hE (by decide)), by rw [ht]; exact hP, by rw [hAe]; exact hD⟩, hS.F ht⟩) hS.2.2 (Nat.le_of_ble_eq_true rfl) (Nat.le_of_ble_eq_true rfl)
  · obtain ⟨ws_4, rfl⟩ : ∃ z, z = u := ⟨_, rfl⟩
    obtain ⟨hT, hq_5⟩ := hw_2
    have hP : va_P D vwCl ([(ty_XO x w sp sv bu bl le)] ++ ws_4) H := hP
    have hD : va_D A ([(ty_XO x w sp sv bu bl le)] ++ ws_4) := hD
    refine W.widen (k := 1) (n := 6) (Nat.le_of_ble_eq_true rfl) (Nat.le_of_ble_eq_true rfl) ?_
    obtain ⟨a_6, rfl, ha_7⟩ := hq_5
    refine W.eq (g2 := F0 m 5 ls (.ref a_6 :: [])) rfl ?_
    refine lv_astore_n (lv' := [(3, .ref a_6), (0, .ref x), (1, .int p1), (2, .int p2)]) hx hb dX10_chargeFor_5 rfl hl (by decide) rfl (fun ls hl => ?_)
    refine lv_iload_n hx hb dX10_chargeFor_6 rfl (lv_at hl 3 rfl) ?_
    refine lv_iconst (v := 0) hx hb dX10_chargeFor_7 (by decide) ?_
    refine lv_sipush (v := 5000) hx hb dX10_chargeFor_8 (by decide) ?_
    refine ty_xv (wr := [(ty_XO x w sp sv bu bl le)]) (wc := ([] ++ ws_4)) (vx_runS (As := [.int p2, .int 0, .int 5000]) (rest := []) ⟨hx, hb, hml, hown, hts⟩ (t_X10_needRange l hfl D ct S ws_4 ph xx p2 (0 : Int32) (5000 : Int32) _ hT hph hy1) (cm_S 3 hts kc_X10_needRange ki_RX10 kl_RX10_81 ks_X10_needRange kd_X10_needRange ⟨Nat.le_of_ble_eq_true rfl, Nat.le_of_ble_eq_true rfl⟩) (ty_preS (wr := [(ty_XO x w sp sv bu bl le)]) (wc := ([] ++ ws_4)) hP hK hD hS hA hX) rfl rfl hl.1 rfl (lv_room (Nat.le_of_ble_eq_true rfl)) dX10_chargeFor_11 ⟨Nat.le_of_ble_eq_true rfl, Nat.le_of_ble_eq_true rfl⟩) hP hD hS hA (fun E ce q9 u H locs hu hE hP hD hS hce hcv hcl => ?_) (fun u H locs hw_9 hP hD hS => ?_)
    · obtain ⟨ws_10, rfl⟩ : ∃ z, z = u := ⟨_, rfl⟩
      have hT := hu
      have hP : va_P D vwCl ([(ty_XO x w sp sv bu bl le)] ++ ws_10) H := hP
      have hD : va_D A ([(ty_XO x w sp sv bu bl le)] ++ ws_10) := hD
      exact vx_out (fun x hx => (hex x hx).elim) hlocks hce hcv hcl (fun t ht hW => ⟨ws_10, hT, ⟨(ty_mem hE (by decide)), by rw [ht]; exact hP, by rw [hAe]; exact hD⟩, hS.F ht⟩) hS.2.2 (Nat.le_of_ble_eq_true rfl) (Nat.le_of_ble_eq_true rfl)
    · obtain ⟨ws_11, rfl⟩ : ∃ z, z = u := ⟨_, rfl⟩
      have hT := hw_9
      have hP : va_P D vwCl ([(ty_XO x w sp sv bu bl le)] ++ ws_11) H := hP
      have hD : va_D A ([(ty_XO x w sp sv bu bl le)] ++ ws_11) := hD
      refine W.widen (k := 2) (n := 12) (Nat.le_of_ble_eq_true rfl) (Nat.le_of_ble_eq_true rfl) ?_
      refine lv_aload_n hx hb dX10_chargeFor_14 rfl (lv_at hl 0 rfl) ?_
      refine ty_getN (E := [(ty_XO x w sp sv bu bl le)]) (ws := ws_11) (D := D) (ci := 1) (C := RX1) (T := TX1) (N := 14) hx hb hts in_X1 hown hK hP hT ha_7 rfl 1 (by decide) (hts _ kl_RX10_134) (fun _ h9 => h9) rfl dX10_chargeFor_15 (fun _ hv_12 hf_13 => ?_)
      obtain ⟨a_14, rfl, ha_15⟩ := hv_12
      refine lv_iload_n hx hb dX10_chargeFor_18 rfl (lv_at hl 3 rfl) ?_
      refine ty_ki (wr := [(ty_XO x w sp sv bu bl le)]) (wc := ([] ++ ws_11)) (va_runVN (As := [.int p2]) (rest := []) ⟨hx, hb, hml, hown, hts⟩ (t_X0_smallestChargeFor l D ct S ws_11 ph xx a_14 p2 _ hT ha_15 hph hy1) (cm_VN 1 hts kc_X0_smallestChargeFor ki_RX0 kl_RX10_234 kv_X0_smallestChargeFor kx_X0_smallestChargeFor kd_X0_smallestChargeFor ⟨Nat.le_of_ble_eq_true rfl, Nat.le_of_ble_eq_true rfl⟩) (ty_preV (wr := [(ty_XO x w sp sv bu bl le)]) (E := []) (ws := ws_11) (ci := 0) hP hK hD hS hA hX hT rfl ha_15) rfl rfl hl.1 rfl (lv_room (Nat.le_of_ble_eq_true rfl)) dX10_chargeFor_19 ⟨Nat.le_of_ble_eq_true rfl, Nat.le_of_ble_eq_true rfl⟩) hP hD hS hA (fun r_16 u H locs hw_17 hP hD hS => ?_)
      obtain ⟨ws_18, rfl⟩ : ∃ z, z = u := ⟨_, rfl⟩
      have hT := hw_17
      have hP : va_P D vwCl ([(ty_XO x w sp sv bu bl le)] ++ ws_18) H := hP
      have hD : va_D A ([(ty_XO x w sp sv bu bl le)] ++ ws_18) := hD
      refine vx_ret ?_
      exact W.iret (v := r_16) hx hb hr (fun t ht hW => ⟨⟨r_16, ws_18, rfl, hT, by rw [ht]; exact hP, by rw [hAe]; exact hD⟩, hS.F ht⟩) hS.2.2 dX10_chargeFor_22
theorem dX10_filling_0 : decode cX10_filling 0 = .ok (.aload_n 0, 1) := by decide +kernel
theorem dX10_filling_1 : decode cX10_filling 1 = .ok (.iload_n 1, 1) := by decide +kernel
theorem dX10_filling_2 : decode cX10_filling 2 = .ok (.invokevirtual 172, 3) := by decide +kernel
theorem dX10_filling_5 : decode cX10_filling 5 = .ok (.getfield 134, 3) := by decide +kernel
theorem dX10_filling_8 : decode cX10_filling 8 = .ok (.invokevirtual 237, 3) := by decide +kernel
theorem dX10_filling_11 : decode cX10_filling 11 = .ok (.ireturn, 1) := by decide +kernel
set_option maxRecDepth 100000 in
set_option maxHeartbeats 4000000 in
theorem t_X10_filling (l : Launch) (hfl : l.stackTraces = false) (D : va_G) (ct : Nat → ClassId) (S : ty_S) (ws : va_W) (ph : va_W → Prop) (xx : Nat → Nat → Nat → Prop) (x : Nat) (w : Nat) (sp : Nat) (sv : Nat) (bu : Nat) (ns : Nat) (bl : Int32) (le : Int32) (p1 : Int32) (sz : Nat) (hT : ty_V ct S ph ws) (h_w : S w = some (.inl 9)) (h_sp : S sp = some (.inl 9)) (h_sv : S sv = some (.inr (4, ns))) (hph : ty_C ph xx) (hy1 : ty_y1 xx) : vx_Met l yX10_filling (ws_ yX10_filling cX10_filling 2 (some .int)) ({ frames := 7, cells := 1, slots := 6, locals := 112 } : Room) (va_Pc [.ref x, .int p1] (cmP D ct sz ([(ty_XO x w sp sv bu bl le)] ++ ws))) (va_Qi (fun (r : Int32) (u9 : va_W) => ty_V ct S ph u9) (cmB D ([(ty_XO x w sp sv bu bl le)] ++ ws) sz (fun (u9 : va_W) => ([(ty_XO x w sp sv bu bl le)] ++ u9))) (va_A ([(ty_XO x w sp sv bu bl le)] ++ ws) sz)) (vx_X (fun (u9 : va_W) => ty_V ct S ph u9) (cmBY D ([(ty_XO x w sp sv bu bl le)] ++ ws) sz ["java/lang/IndexOutOfBoundsException"] (fun (u9 : va_W) => ([(ty_XO x w sp sv bu bl le)] ++ u9))) (va_A ([(ty_XO x w sp sv bu bl le)] ++ ws) sz)) 1 6 (va_A ([(ty_XO x w sp sv bu bl le)] ++ ws) sz) := by
  refine vx_ofW (cc := cX10_filling) (maxL := 2) (ret := (some .int)) (by decide) rfl ?_
  intro p e s m args below meth c s₁ B hml hex hv
  obtain ⟨rfl, hsz, hP, hK, hD0, hX⟩ := hv
  have hx := B.exec
  have hb := B.bytes
  have hr := B.returns
  have hts := ws_all (atoms_spec (ws := ws_ yX10_filling cX10_filling 2 (some .int)) B.pre)
  have hown : s.vm.findClass RX10 = some m.cls := findClass_of_methodNamed B.named
  have hlocks := B.notSynchronized
  subst hsz
  have hD := hD0.self (sz := s.heap.size)
  generalize hAe : va_A ([(ty_XO x w sp sv bu bl le)] ++ ws) s.heap.size = A at hD hX ⊢
  have hA : ∀ q : Nat, s.heap.size ≤ q → A q := fun q h => by rw [← hAe]; exact Or.inr h
  have hS : va_S A s.heap s.heap [] := va_S.rf
  have hl := lv_entry ([.ref x, .int p1]) (n := 2) (Nat.le_of_ble_eq_true rfl)
  rw [lg_entry_eq]
  generalize (lg_sl ([.ref x, .int p1]) ++ List.replicate (2 - (lg_sl ([.ref x, .int p1])).length) Slot.unset).toArray = ls at hl ⊢
  have hl : lv_has ls 2 [(0, .ref x), (1, .int p1)] := hl
  refine lv_aload_n hx hb dX10_filling_0 rfl (lv_at hl 0 rfl) ?_
  refine lv_iload_n hx hb dX10_filling_1 rfl (lv_at hl 1 rfl) ?_
  refine ty_xq (wr := []) (wc := ([(ty_XO x w sp sv bu bl le)] ++ ws)) (vx_runV (As := [.int p1]) (rest := []) ⟨hx, hb, hml, hown, hts⟩ (t_X10_needChannel l hfl D ct S ws ph xx x w sp sv bu ns bl le p1 _ hT h_w h_sp h_sv hph hy1) (cm_V 1 hts kc_X10_needChannel ki_RX10 kl_RX10_172 kv_X10_needChannel kx_X10_needChannel kd_X10_needChannel ⟨Nat.le_of_ble_eq_true rfl, Nat.le_of_ble_eq_true rfl⟩) (ty_preE (wr := []) (wc := ([(ty_XO x w sp sv bu bl le)] ++ ws)) (ci := 10) (q0 := 0) hP hK hD hS hA hX rfl rfl) rfl rfl hl.1 rfl (lv_room (Nat.le_of_ble_eq_true rfl)) dX10_filling_2 ⟨Nat.le_of_ble_eq_true rfl, Nat.le_of_ble_eq_true rfl⟩) hP hD hS hA (fun E ce q9 u H locs hu hE hP hD hS hce hcv hcl => ?_) (fun r_1 u H locs hw_2 hP hD hS => ?_)
  · obtain ⟨ws_3, rfl⟩ : ∃ z, z = u := ⟨_, rfl⟩
    have hT := hu
    have hP : va_P D vwCl ([(ty_XO x w sp sv bu bl le)] ++ ws_3) H := hP
    have hD : va_D A ([(ty_XO x w sp sv bu bl le)] ++ ws_3) := hD
    exact vx_out (fun x hx => (hex x hx).elim) hlocks hce hcv hcl (fun t ht hW => ⟨ws_3, hT, ⟨hE, by rw [ht]; exact hP, by rw [hAe]; exact hD⟩, hS.F ht⟩) hS.2.2 (Nat.le_of_ble_eq_true rfl) (Nat.le_of_ble_eq_true rfl)
  · obtain ⟨ws_4, rfl⟩ : ∃ z, z = u := ⟨_, rfl⟩
    obtain ⟨hT, hq_5⟩ := hw_2
    have hP : va_P D vwCl ([(ty_XO x w sp sv bu bl le)] ++ ws_4) H := hP
    have hD : va_D A ([(ty_XO x w sp sv bu bl le)] ++ ws_4) := hD
    refine W.widen (k := 1) (n := 6) (Nat.le_of_ble_eq_true rfl) (Nat.le_of_ble_eq_true rfl) ?_
    obtain ⟨a_6, rfl, ha_7⟩ := hq_5
    refine W.eq (g2 := F0 m 5 ls (.ref a_6 :: [])) rfl ?_
    refine ty_getN (E := [(ty_XO x w sp sv bu bl le)]) (ws := ws_4) (D := D) (ci := 1) (C := RX1) (T := TX1) (N := 14) hx hb hts in_X1 hown hK hP hT ha_7 rfl 1 (by decide) (hts _ kl_RX10_134) (fun _ h9 => h9) rfl dX10_filling_5 (fun _ hv_8 hf_9 => ?_)
    obtain ⟨a_10, rfl, ha_11⟩ := hv_8
    refine ty_ki (wr := [(ty_XO x w sp sv bu bl le)]) (wc := ([] ++ ws_4)) (va_runVN (As := []) (rest := []) ⟨hx, hb, hml, hown, hts⟩ (t_X0_thousandths l D ct S ws_4 ph xx a_10 _ hT ha_11 hph hy1) (cm_VN 0 hts kc_X0_thousandths ki_RX0 kl_RX10_237 kv_X0_thousandths kx_X0_thousandths kd_X0_thousandths ⟨Nat.le_of_ble_eq_true rfl, Nat.le_of_ble_eq_true rfl⟩) (ty_preV (wr := [(ty_XO x w sp sv bu bl le)]) (E := []) (ws := ws_4) (ci := 0) hP hK hD hS hA hX hT rfl ha_11) rfl rfl hl.1 rfl (lv_room (Nat.le_of_ble_eq_true rfl)) dX10_filling_8 ⟨Nat.le_of_ble_eq_true rfl, Nat.le_of_ble_eq_true rfl⟩) hP hD hS hA (fun r_12 u H locs hw_13 hP hD hS => ?_)
    obtain ⟨ws_14, rfl⟩ : ∃ z, z = u := ⟨_, rfl⟩
    have hT := hw_13
    have hP : va_P D vwCl ([(ty_XO x w sp sv bu bl le)] ++ ws_14) H := hP
    have hD : va_D A ([(ty_XO x w sp sv bu bl le)] ++ ws_14) := hD
    refine vx_ret ?_
    exact W.iret (v := r_12) hx hb hr (fun t ht hW => ⟨⟨r_12, ws_14, rfl, hT, by rw [ht]; exact hP, by rw [hAe]; exact hD⟩, hS.F ht⟩) hS.2.2 dX10_filling_11
theorem dX10_ledger_0 : decode cX10_ledger 0 = .ok (.aload_n 0, 1) := by decide +kernel
theorem dX10_ledger_1 : decode cX10_ledger 1 = .ok (.iload_n 1, 1) := by decide +kernel
theorem dX10_ledger_2 : decode cX10_ledger 2 = .ok (.invokevirtual 172, 3) := by decide +kernel
theorem dX10_ledger_5 : decode cX10_ledger 5 = .ok (.astore_n 3, 1) := by decide +kernel
theorem dX10_ledger_6 : decode cX10_ledger 6 = .ok (.iload_n 2, 1) := by decide +kernel
theorem dX10_ledger_7 : decode cX10_ledger 7 = .ok (.iconst 0, 1) := by decide +kernel
theorem dX10_ledger_8 : decode cX10_ledger 8 = .ok (.iconst 4, 1) := by decide +kernel
theorem dX10_ledger_9 : decode cX10_ledger 9 = .ok (.invokestatic 81, 3) := by decide +kernel
theorem dX10_ledger_12 : decode cX10_ledger 12 = .ok (.iload_n 2, 1) := by decide +kernel
theorem dX10_ledger_13 : decode cX10_ledger 13 = .ok (.tableswitch 73 0 3 #[31, 42, 53, 62], 31) := by decide +kernel
theorem dX10_ledger_44 : decode cX10_ledger 44 = .ok (.aload_n 3, 1) := by decide +kernel
theorem dX10_ledger_45 : decode cX10_ledger 45 = .ok (.getfield 134, 3) := by decide +kernel
theorem dX10_ledger_48 : decode cX10_ledger 48 = .ok (.getfield 240, 3) := by decide +kernel
theorem dX10_ledger_51 : decode cX10_ledger 51 = .ok (.getfield 244, 3) := by decide +kernel
theorem dX10_ledger_54 : decode cX10_ledger 54 = .ok (.lreturn, 1) := by decide +kernel
theorem dX10_ledger_55 : decode cX10_ledger 55 = .ok (.aload_n 3, 1) := by decide +kernel
theorem dX10_ledger_56 : decode cX10_ledger 56 = .ok (.getfield 134, 3) := by decide +kernel
theorem dX10_ledger_59 : decode cX10_ledger 59 = .ok (.getfield 240, 3) := by decide +kernel
theorem dX10_ledger_62 : decode cX10_ledger 62 = .ok (.getfield 250, 3) := by decide +kernel
theorem dX10_ledger_65 : decode cX10_ledger 65 = .ok (.lreturn, 1) := by decide +kernel
theorem dX10_ledger_66 : decode cX10_ledger 66 = .ok (.aload_n 3, 1) := by decide +kernel
theorem dX10_ledger_67 : decode cX10_ledger 67 = .ok (.getfield 134, 3) := by decide +kernel
theorem dX10_ledger_70 : decode cX10_ledger 70 = .ok (.getfield 253, 3) := by decide +kernel
theorem dX10_ledger_73 : decode cX10_ledger 73 = .ok (.i2l, 1) := by decide +kernel
theorem dX10_ledger_74 : decode cX10_ledger 74 = .ok (.lreturn, 1) := by decide +kernel
theorem dX10_ledger_75 : decode cX10_ledger 75 = .ok (.aload_n 3, 1) := by decide +kernel
theorem dX10_ledger_76 : decode cX10_ledger 76 = .ok (.getfield 134, 3) := by decide +kernel
theorem dX10_ledger_79 : decode cX10_ledger 79 = .ok (.getfield 240, 3) := by decide +kernel
theorem dX10_ledger_82 : decode cX10_ledger 82 = .ok (.getfield 256, 3) := by decide +kernel
theorem dX10_ledger_85 : decode cX10_ledger 85 = .ok (.lreturn, 1) := by decide +kernel
theorem dX10_ledger_86 : decode cX10_ledger 86 = .ok (.aload_n 3, 1) := by decide +kernel
theorem dX10_ledger_87 : decode cX10_ledger 87 = .ok (.getfield 134, 3) := by decide +kernel
theorem dX10_ledger_90 : decode cX10_ledger 90 = .ok (.getfield 240, 3) := by decide +kernel
theorem dX10_ledger_93 : decode cX10_ledger 93 = .ok (.getfield 259, 3) := by decide +kernel
theorem dX10_ledger_96 : decode cX10_ledger 96 = .ok (.lreturn, 1) := by decide +kernel
set_option maxRecDepth 100000 in
set_option maxHeartbeats 4000000 in
theorem t_X10_ledger (l : Launch) (hfl : l.stackTraces = false) (D : va_G) (ct : Nat → ClassId) (S : ty_S) (ws : va_W) (ph : va_W → Prop) (xx : Nat → Nat → Nat → Prop) (x : Nat) (w : Nat) (sp : Nat) (sv : Nat) (bu : Nat) (ns : Nat) (bl : Int32) (le : Int32) (p1 : Int32) (p2 : Int32) (sz : Nat) (hT : ty_V ct S ph ws) (h_w : S w = some (.inl 9)) (h_sp : S sp = some (.inl 9)) (h_sv : S sv = some (.inr (4, ns))) (hph : ty_C ph xx) (hy1 : ty_y1 xx) : vx_Met l yX10_ledger (ws_ yX10_ledger cX10_ledger 4 (some .long)) ({ frames := 7, cells := 2, slots := 12, locals := 112 } : Room) (va_Pc [.ref x, .int p1, .int p2] (cmP D ct sz ([(ty_XO x w sp sv bu bl le)] ++ ws))) (va_Ql (fun (r : Int64) (u9 : va_W) => ty_V ct S ph u9) (cmB D ([(ty_XO x w sp sv bu bl le)] ++ ws) sz (fun (u9 : va_W) => ([(ty_XO x w sp sv bu bl le)] ++ u9))) (va_A ([(ty_XO x w sp sv bu bl le)] ++ ws) sz)) (vx_X (fun (u9 : va_W) => ty_V ct S ph u9) (cmBY D ([(ty_XO x w sp sv bu bl le)] ++ ws) sz ["java/lang/IllegalArgumentException", "java/lang/IndexOutOfBoundsException"] (fun (u9 : va_W) => ([(ty_XO x w sp sv bu bl le)] ++ u9))) (va_A ([(ty_XO x w sp sv bu bl le)] ++ ws) sz)) 2 12 (va_A ([(ty_XO x w sp sv bu bl le)] ++ ws) sz) := by
  refine vx_ofW (cc := cX10_ledger) (maxL := 4) (ret := (some .long)) (by decide) rfl ?_
  intro p e s m args below meth c s₁ B hml hex hv
  obtain ⟨rfl, hsz, hP, hK, hD0, hX⟩ := hv
  have hx := B.exec
  have hb := B.bytes
  have hr := B.returns
  have hts := ws_all (atoms_spec (ws := ws_ yX10_ledger cX10_ledger 4 (some .long)) B.pre)
  have hown : s.vm.findClass RX10 = some m.cls := findClass_of_methodNamed B.named
  have hlocks := B.notSynchronized
  subst hsz
  have hD := hD0.self (sz := s.heap.size)
  generalize hAe : va_A ([(ty_XO x w sp sv bu bl le)] ++ ws) s.heap.size = A at hD hX ⊢
  have hA : ∀ q : Nat, s.heap.size ≤ q → A q := fun q h => by rw [← hAe]; exact Or.inr h
  have hS : va_S A s.heap s.heap [] := va_S.rf
  have hl := lv_entry ([.ref x, .int p1, .int p2]) (n := 4) (Nat.le_of_ble_eq_true rfl)
  rw [lg_entry_eq]
  generalize (lg_sl ([.ref x, .int p1, .int p2]) ++ List.replicate (4 - (lg_sl ([.ref x, .int p1, .int p2])).length) Slot.unset).toArray = ls at hl ⊢
  have hl : lv_has ls 4 [(0, .ref x), (1, .int p1), (2, .int p2)] := hl
  refine lv_aload_n hx hb dX10_ledger_0 rfl (lv_at hl 0 rfl) ?_
  refine lv_iload_n hx hb dX10_ledger_1 rfl (lv_at hl 1 rfl) ?_
  refine ty_xq (wr := []) (wc := ([(ty_XO x w sp sv bu bl le)] ++ ws)) (vx_runV (As := [.int p1]) (rest := []) ⟨hx, hb, hml, hown, hts⟩ (t_X10_needChannel l hfl D ct S ws ph xx x w sp sv bu ns bl le p1 _ hT h_w h_sp h_sv hph hy1) (cm_V 1 hts kc_X10_needChannel ki_RX10 kl_RX10_172 kv_X10_needChannel kx_X10_needChannel kd_X10_needChannel ⟨Nat.le_of_ble_eq_true rfl, Nat.le_of_ble_eq_true rfl⟩) (ty_preE (wr := []) (wc := ([(ty_XO x w sp sv bu bl le)] ++ ws)) (ci := 10) (q0 := 0) hP hK hD hS hA hX rfl rfl) rfl rfl hl.1 rfl (lv_room (Nat.le_of_ble_eq_true rfl)) dX10_ledger_2 ⟨Nat.le_of_ble_eq_true rfl, Nat.le_of_ble_eq_true rfl⟩) hP hD hS hA (fun E ce q9 u H locs hu hE hP hD hS hce hcv hcl => ?_) (fun r_1 u H locs hw_2 hP hD hS => ?_)
  · obtain ⟨ws_3, rfl⟩ : ∃ z, z = u := ⟨_, rfl⟩
    have hT := hu
    have hP : va_P D vwCl ([(ty_XO x w sp sv bu bl le)] ++ ws_3) H := hP
    have hD : va_D A ([(ty_XO x w sp sv bu bl le)] ++ ws_3) := hD
    exact vx_out (fun x hx => (hex x hx).elim) hlocks hce hcv hcl (fun t ht hW => ⟨ws_3, hT, ⟨(ty_mem hE (by decide)), by rw [ht]; exact hP, by rw [hAe]; exact hD⟩, hS.F ht⟩) hS.2.2 (Nat.le_of_ble_eq_true rfl) (Nat.le_of_ble_eq_true rfl)
  · obtain ⟨ws_4, rfl⟩ : ∃ z, z = u := ⟨_, rfl⟩
    obtain ⟨hT, hq_5⟩ := hw_2
    have hP : va_P D vwCl ([(ty_XO x w sp sv bu bl le)] ++ ws_4) H := hP
    have hD : va_D A ([(ty_XO x w sp sv bu bl le)] ++ ws_4) := hD
    refine W.widen (k := 1) (n := 6) (Nat.le_of_ble_eq_true rfl) (Nat.le_of_ble_eq_true rfl) ?_
    obtain ⟨a_6, rfl, ha_7⟩ := hq_5
    refine W.eq (g2 := F0 m 5 ls (.ref a_6 :: [])) rfl ?_
    refine lv_astore_n (lv' := [(3, .ref a_6), (0, .ref x), (1, .int p1), (2, .int p2)]) hx hb dX10_ledger_5 rfl hl (by decide) rfl (fun ls hl => ?_)
    refine lv_iload_n hx hb dX10_ledger_6 rfl (lv_at hl 3 rfl) ?_
    refine lv_iconst (v := 0) hx hb dX10_ledger_7 (by decide) ?_
    refine lv_iconst (v := 4) hx hb dX10_ledger_8 (by decide) ?_
    refine ty_xv (wr := [(ty_XO x w sp sv bu bl le)]) (wc := ([] ++ ws_4)) (vx_runS (As := [.int p2, .int 0, .int 4]) (rest := []) ⟨hx, hb, hml, hown, hts⟩ (t_X10_needRange l hfl D ct S ws_4 ph xx p2 (0 : Int32) (4 : Int32) _ hT hph hy1) (cm_S 3 hts kc_X10_needRange ki_RX10 kl_RX10_81 ks_X10_needRange kd_X10_needRange ⟨Nat.le_of_ble_eq_true rfl, Nat.le_of_ble_eq_true rfl⟩) (ty_preS (wr := [(ty_XO x w sp sv bu bl le)]) (wc := ([] ++ ws_4)) hP hK hD hS hA hX) rfl rfl hl.1 rfl (lv_room (Nat.le_of_ble_eq_true rfl)) dX10_ledger_9 ⟨Nat.le_of_ble_eq_true rfl, Nat.le_of_ble_eq_true rfl⟩) hP hD hS hA (fun E ce q9 u H locs hu hE hP hD hS hce hcv hcl => ?_) (fun u H locs hw_9 hP hD hS => ?_)
    · obtain ⟨ws_10, rfl⟩ : ∃ z, z = u := ⟨_, rfl⟩
      have hT := hu
      have hP : va_P D vwCl ([(ty_XO x w sp sv bu bl le)] ++ ws_10) H := hP
      have hD : va_D A ([(ty_XO x w sp sv bu bl le)] ++ ws_10) := hD
      exact vx_out (fun x hx => (hex x hx).elim) hlocks hce hcv hcl (fun t ht hW => ⟨ws_10, hT, ⟨(ty_mem hE (by decide)), by rw [ht]; exact hP, by rw [hAe]; exact hD⟩, hS.F ht⟩) hS.2.2 (Nat.le_of_ble_eq_true rfl) (Nat.le_of_ble_eq_true rfl)
    · obtain ⟨ws_11, rfl⟩ : ∃ z, z = u := ⟨_, rfl⟩
      have hT := hw_9
      have hP : va_P D vwCl ([(ty_XO x w sp sv bu bl le)] ++ ws_11) H := hP
      have hD : va_D A ([(ty_XO x w sp sv bu bl le)] ++ ws_11) := hD
      refine W.widen (k := 2) (n := 12) (Nat.le_of_ble_eq_true rfl) (Nat.le_of_ble_eq_true rfl) ?_
      refine lv_iload_n hx hb dX10_ledger_12 rfl (lv_at hl 3 rfl) ?_
      by_cases hk_12 : p2 = 0
      · refine cm_cst hk_12 (lv_tableIn (off := 31) (tgt := 44) hx hb dX10_ledger_13 (by decide) (by decide) (by decide) (by decide) ?_)
        refine lv_aload_n hx hb dX10_ledger_44 rfl (lv_at hl 0 rfl) ?_
        refine ty_getN (E := [(ty_XO x w sp sv bu bl le)]) (ws := ws_11) (D := D) (ci := 1) (C := RX1) (T := TX1) (N := 14) hx hb hts in_X1 hown hK hP hT ha_7 rfl 1 (by decide) (hts _ kl_RX10_134) (fun _ h9 => h9) rfl dX10_ledger_45 (fun _ hv_13 hf_14 => ?_)
        obtain ⟨a_15, rfl, ha_16⟩ := hv_13
        refine ty_getN (E := [(ty_XO x w sp sv bu bl le)]) (ws := ws_11) (D := D) (ci := 0) (C := RX0) (T := TX0) (N := 16) hx hb hts in_X0 hown hK hP hT ha_16 rfl 15 (by decide) (hts _ kl_RX10_240) (fun _ h9 => h9) rfl dX10_ledger_48 (fun _ hv_17 hf_18 => ?_)
        obtain ⟨a_19, rfl, ha_20⟩ := hv_17
        refine ty_getN (E := [(ty_XO x w sp sv bu bl le)]) (ws := ws_11) (D := D) (ci := 3) (C := RX3) (T := TX3) (N := 4) hx hb hts in_X3 hown hK hP hT ha_20 rfl 0 (by decide) (hts _ kl_RX10_244) (fun _ h9 => h9) rfl dX10_ledger_51 (fun _ hv_21 hf_22 => ?_)
        obtain ⟨x_23, rfl⟩ := hv_21
        refine vx_ret ?_
        exact W.lret (v := x_23) hx hb hr (fun t ht hW => ⟨⟨x_23, ws_11, rfl, hT, by rw [ht]; exact hP, by rw [hAe]; exact hD⟩, hS.F ht⟩) hS.2.2 dX10_ledger_54
      by_cases hk_24 : p2 = 1
      · refine cm_cst hk_24 (lv_tableIn (off := 42) (tgt := 55) hx hb dX10_ledger_13 (by decide) (by decide) (by decide) (by decide) ?_)
        refine lv_aload_n hx hb dX10_ledger_55 rfl (lv_at hl 0 rfl) ?_
        refine ty_getN (E := [(ty_XO x w sp sv bu bl le)]) (ws := ws_11) (D := D) (ci := 1) (C := RX1) (T := TX1) (N := 14) hx hb hts in_X1 hown hK hP hT ha_7 rfl 1 (by decide) (hts _ kl_RX10_134) (fun _ h9 => h9) rfl dX10_ledger_56 (fun _ hv_25 hf_26 => ?_)
        obtain ⟨a_27, rfl, ha_28⟩ := hv_25
        refine ty_getN (E := [(ty_XO x w sp sv bu bl le)]) (ws := ws_11) (D := D) (ci := 0) (C := RX0) (T := TX0) (N := 16) hx hb hts in_X0 hown hK hP hT ha_28 rfl 15 (by decide) (hts _ kl_RX10_240) (fun _ h9 => h9) rfl dX10_ledger_59 (fun _ hv_29 hf_30 => ?_)
        obtain ⟨a_31, rfl, ha_32⟩ := hv_29
        refine ty_getN (E := [(ty_XO x w sp sv bu bl le)]) (ws := ws_11) (D := D) (ci := 3) (C := RX3) (T := TX3) (N := 4) hx hb hts in_X3 hown hK hP hT ha_32 rfl 1 (by decide) (hts _ kl_RX10_250) (fun _ h9 => h9) rfl dX10_ledger_62 (fun _ hv_33 hf_34 => ?_)
        obtain ⟨x_35, rfl⟩ := hv_33
        refine vx_ret ?_
        exact W.lret (v := x_35) hx hb hr (fun t ht hW => ⟨⟨x_35, ws_11, rfl, hT, by rw [ht]; exact hP, by rw [hAe]; exact hD⟩, hS.F ht⟩) hS.2.2 dX10_ledger_65
      by_cases hk_36 : p2 = 2
      · refine cm_cst hk_36 (lv_tableIn (off := 53) (tgt := 66) hx hb dX10_ledger_13 (by decide) (by decide) (by decide) (by decide) ?_)
        refine lv_aload_n hx hb dX10_ledger_66 rfl (lv_at hl 0 rfl) ?_
        refine ty_getN (E := [(ty_XO x w sp sv bu bl le)]) (ws := ws_11) (D := D) (ci := 1) (C := RX1) (T := TX1) (N := 14) hx hb hts in_X1 hown hK hP hT ha_7 rfl 1 (by decide) (hts _ kl_RX10_134) (fun _ h9 => h9) rfl dX10_ledger_67 (fun _ hv_37 hf_38 => ?_)
        obtain ⟨a_39, rfl, ha_40⟩ := hv_37
        refine ty_getN (E := [(ty_XO x w sp sv bu bl le)]) (ws := ws_11) (D := D) (ci := 0) (C := RX0) (T := TX0) (N := 16) hx hb hts in_X0 hown hK hP hT ha_40 rfl 9 (by decide) (hts _ kl_RX10_253) (fun _ h9 => h9) rfl dX10_ledger_70 (fun _ hv_41 hf_42 => ?_)
        obtain ⟨x_43, rfl⟩ := hv_41
        refine lv_i2l hx hb dX10_ledger_73 rfl ?_
        refine lv_topl (fun x_44 _ => ?_)
        refine vx_ret ?_
        exact W.lret (v := x_44) hx hb hr (fun t ht hW => ⟨⟨x_44, ws_11, rfl, hT, by rw [ht]; exact hP, by rw [hAe]; exact hD⟩, hS.F ht⟩) hS.2.2 dX10_ledger_74
      by_cases hk_45 : p2 = 3
      · refine cm_cst hk_45 (lv_tableIn (off := 62) (tgt := 75) hx hb dX10_ledger_13 (by decide) (by decide) (by decide) (by decide) ?_)
        refine lv_aload_n hx hb dX10_ledger_75 rfl (lv_at hl 0 rfl) ?_
        refine ty_getN (E := [(ty_XO x w sp sv bu bl le)]) (ws := ws_11) (D := D) (ci := 1) (C := RX1) (T := TX1) (N := 14) hx hb hts in_X1 hown hK hP hT ha_7 rfl 1 (by decide) (hts _ kl_RX10_134) (fun _ h9 => h9) rfl dX10_ledger_76 (fun _ hv_46 hf_47 => ?_)
        obtain ⟨a_48, rfl, ha_49⟩ := hv_46
        refine ty_getN (E := [(ty_XO x w sp sv bu bl le)]) (ws := ws_11) (D := D) (ci := 0) (C := RX0) (T := TX0) (N := 16) hx hb hts in_X0 hown hK hP hT ha_49 rfl 15 (by decide) (hts _ kl_RX10_240) (fun _ h9 => h9) rfl dX10_ledger_79 (fun _ hv_50 hf_51 => ?_)
        obtain ⟨a_52, rfl, ha_53⟩ := hv_50
        refine ty_getN (E := [(ty_XO x w sp sv bu bl le)]) (ws := ws_11) (D := D) (ci := 3) (C := RX3) (T := TX3) (N := 4) hx hb hts in_X3 hown hK hP hT ha_53 rfl 2 (by decide) (hts _ kl_RX10_256) (fun _ h9 => h9) rfl dX10_ledger_82 (fun _ hv_54 hf_55 => ?_)
        obtain ⟨x_56, rfl⟩ := hv_54
        refine vx_ret ?_
        exact W.lret (v := x_56) hx hb hr (fun t ht hW => ⟨⟨x_56, ws_11, rfl, hT, by rw [ht]; exact hP, by rw [hAe]; exact hD⟩, hS.F ht⟩) hS.2.2 dX10_ledger_85
      refine lv_tableOut (tgt := 86) hx hb dX10_ledger_13 (ty_sw0_3 hk_12 hk_24 hk_36 hk_45) (by decide) ?_
      refine lv_aload_n hx hb dX10_ledger_86 rfl (lv_at hl 0 rfl) ?_
      refine ty_getN (E := [(ty_XO x w sp sv bu bl le)]) (ws := ws_11) (D := D) (ci := 1) (C := RX1) (T := TX1) (N := 14) hx hb hts in_X1 hown hK hP hT ha_7 rfl 1 (by decide) (hts _ kl_RX10_134) (fun _ h9 => h9) rfl dX10_ledger_87 (fun _ hv_57 hf_58 => ?_)
      obtain ⟨a_59, rfl, ha_60⟩ := hv_57
      refine ty_getN (E := [(ty_XO x w sp sv bu bl le)]) (ws := ws_11) (D := D) (ci := 0) (C := RX0) (T := TX0) (N := 16) hx hb hts in_X0 hown hK hP hT ha_60 rfl 15 (by decide) (hts _ kl_RX10_240) (fun _ h9 => h9) rfl dX10_ledger_90 (fun _ hv_61 hf_62 => ?_)
      obtain ⟨a_63, rfl, ha_64⟩ := hv_61
      refine ty_getN (E := [(ty_XO x w sp sv bu bl le)]) (ws := ws_11) (D := D) (ci := 3) (C := RX3) (T := TX3) (N := 4) hx hb hts in_X3 hown hK hP hT ha_64 rfl 3 (by decide) (hts _ kl_RX10_259) (fun _ h9 => h9) rfl dX10_ledger_93 (fun _ hv_65 hf_66 => ?_)
      obtain ⟨x_67, rfl⟩ := hv_65
      refine vx_ret ?_
      exact W.lret (v := x_67) hx hb hr (fun t ht hW => ⟨⟨x_67, ws_11, rfl, hT, by rw [ht]; exact hP, by rw [hAe]; exact hD⟩, hS.F ht⟩) hS.2.2 dX10_ledger_96
theorem dX10_power_0 : decode cX10_power 0 = .ok (.aload_n 0, 1) := by decide +kernel
theorem dX10_power_1 : decode cX10_power 1 = .ok (.iload_n 1, 1) := by decide +kernel
theorem dX10_power_2 : decode cX10_power 2 = .ok (.invokevirtual 172, 3) := by decide +kernel
theorem dX10_power_5 : decode cX10_power 5 = .ok (.getfield 134, 3) := by decide +kernel
theorem dX10_power_8 : decode cX10_power 8 = .ok (.astore_n 2, 1) := by decide +kernel
theorem dX10_power_9 : decode cX10_power 9 = .ok (.aload_n 2, 1) := by decide +kernel
theorem dX10_power_10 : decode cX10_power 10 = .ok (.getfield 262, 3) := by decide +kernel
theorem dX10_power_13 : decode cX10_power 13 = .ok (.i2l, 1) := by decide +kernel
theorem dX10_power_14 : decode cX10_power 14 = .ok (.aload_n 2, 1) := by decide +kernel
theorem dX10_power_15 : decode cX10_power 15 = .ok (.getfield 138, 3) := by decide +kernel
theorem dX10_power_18 : decode cX10_power 18 = .ok (.i2l, 1) := by decide +kernel
theorem dX10_power_19 : decode cX10_power 19 = .ok (.lmul, 1) := by decide +kernel
theorem dX10_power_20 : decode cX10_power 20 = .ok (.ldc2_w 265, 3) := by decide +kernel
theorem dX10_power_23 : decode cX10_power 23 = .ok (.ldiv, 1) := by decide +kernel
theorem dX10_power_24 : decode cX10_power 24 = .ok (.l2i, 1) := by decide +kernel
theorem dX10_power_25 : decode cX10_power 25 = .ok (.ireturn, 1) := by decide +kernel
set_option maxRecDepth 100000 in
set_option maxHeartbeats 4000000 in
theorem t_X10_power (l : Launch) (hfl : l.stackTraces = false) (D : va_G) (ct : Nat → ClassId) (S : ty_S) (ws : va_W) (ph : va_W → Prop) (xx : Nat → Nat → Nat → Prop) (x : Nat) (w : Nat) (sp : Nat) (sv : Nat) (bu : Nat) (ns : Nat) (bl : Int32) (le : Int32) (p1 : Int32) (sz : Nat) (hT : ty_V ct S ph ws) (h_w : S w = some (.inl 9)) (h_sp : S sp = some (.inl 9)) (h_sv : S sv = some (.inr (4, ns))) (hph : ty_C ph xx) (hy1 : ty_y1 xx) : vx_Met l yX10_power (ws_ yX10_power cX10_power 3 (some .int)) ({ frames := 7, cells := 1, slots := 6, locals := 112 } : Room) (va_Pc [.ref x, .int p1] (cmP D ct sz ([(ty_XO x w sp sv bu bl le)] ++ ws))) (va_Qi (fun (r : Int32) (u9 : va_W) => ty_V ct S ph u9) (cmB D ([(ty_XO x w sp sv bu bl le)] ++ ws) sz (fun (u9 : va_W) => ([(ty_XO x w sp sv bu bl le)] ++ u9))) (va_A ([(ty_XO x w sp sv bu bl le)] ++ ws) sz)) (vx_X (fun (u9 : va_W) => ty_V ct S ph u9) (cmBY D ([(ty_XO x w sp sv bu bl le)] ++ ws) sz ["java/lang/IndexOutOfBoundsException"] (fun (u9 : va_W) => ([(ty_XO x w sp sv bu bl le)] ++ u9))) (va_A ([(ty_XO x w sp sv bu bl le)] ++ ws) sz)) 1 6 (va_A ([(ty_XO x w sp sv bu bl le)] ++ ws) sz) := by
  refine vx_ofW (cc := cX10_power) (maxL := 3) (ret := (some .int)) (by decide) rfl ?_
  intro p e s m args below meth c s₁ B hml hex hv
  obtain ⟨rfl, hsz, hP, hK, hD0, hX⟩ := hv
  have hx := B.exec
  have hb := B.bytes
  have hr := B.returns
  have hts := ws_all (atoms_spec (ws := ws_ yX10_power cX10_power 3 (some .int)) B.pre)
  have hown : s.vm.findClass RX10 = some m.cls := findClass_of_methodNamed B.named
  have hlocks := B.notSynchronized
  subst hsz
  have hD := hD0.self (sz := s.heap.size)
  generalize hAe : va_A ([(ty_XO x w sp sv bu bl le)] ++ ws) s.heap.size = A at hD hX ⊢
  have hA : ∀ q : Nat, s.heap.size ≤ q → A q := fun q h => by rw [← hAe]; exact Or.inr h
  have hS : va_S A s.heap s.heap [] := va_S.rf
  have hl := lv_entry ([.ref x, .int p1]) (n := 3) (Nat.le_of_ble_eq_true rfl)
  rw [lg_entry_eq]
  generalize (lg_sl ([.ref x, .int p1]) ++ List.replicate (3 - (lg_sl ([.ref x, .int p1])).length) Slot.unset).toArray = ls at hl ⊢
  have hl : lv_has ls 3 [(0, .ref x), (1, .int p1)] := hl
  refine lv_aload_n hx hb dX10_power_0 rfl (lv_at hl 0 rfl) ?_
  refine lv_iload_n hx hb dX10_power_1 rfl (lv_at hl 1 rfl) ?_
  refine ty_xq (wr := []) (wc := ([(ty_XO x w sp sv bu bl le)] ++ ws)) (vx_runV (As := [.int p1]) (rest := []) ⟨hx, hb, hml, hown, hts⟩ (t_X10_needChannel l hfl D ct S ws ph xx x w sp sv bu ns bl le p1 _ hT h_w h_sp h_sv hph hy1) (cm_V 1 hts kc_X10_needChannel ki_RX10 kl_RX10_172 kv_X10_needChannel kx_X10_needChannel kd_X10_needChannel ⟨Nat.le_of_ble_eq_true rfl, Nat.le_of_ble_eq_true rfl⟩) (ty_preE (wr := []) (wc := ([(ty_XO x w sp sv bu bl le)] ++ ws)) (ci := 10) (q0 := 0) hP hK hD hS hA hX rfl rfl) rfl rfl hl.1 rfl (lv_room (Nat.le_of_ble_eq_true rfl)) dX10_power_2 ⟨Nat.le_of_ble_eq_true rfl, Nat.le_of_ble_eq_true rfl⟩) hP hD hS hA (fun E ce q9 u H locs hu hE hP hD hS hce hcv hcl => ?_) (fun r_1 u H locs hw_2 hP hD hS => ?_)
  · obtain ⟨ws_3, rfl⟩ : ∃ z, z = u := ⟨_, rfl⟩
    have hT := hu
    have hP : va_P D vwCl ([(ty_XO x w sp sv bu bl le)] ++ ws_3) H := hP
    have hD : va_D A ([(ty_XO x w sp sv bu bl le)] ++ ws_3) := hD
    exact vx_out (fun x hx => (hex x hx).elim) hlocks hce hcv hcl (fun t ht hW => ⟨ws_3, hT, ⟨hE, by rw [ht]; exact hP, by rw [hAe]; exact hD⟩, hS.F ht⟩) hS.2.2 (Nat.le_of_ble_eq_true rfl) (Nat.le_of_ble_eq_true rfl)
  · obtain ⟨ws_4, rfl⟩ : ∃ z, z = u := ⟨_, rfl⟩
    obtain ⟨hT, hq_5⟩ := hw_2
    have hP : va_P D vwCl ([(ty_XO x w sp sv bu bl le)] ++ ws_4) H := hP
    have hD : va_D A ([(ty_XO x w sp sv bu bl le)] ++ ws_4) := hD
    refine W.widen (k := 1) (n := 6) (Nat.le_of_ble_eq_true rfl) (Nat.le_of_ble_eq_true rfl) ?_
    obtain ⟨a_6, rfl, ha_7⟩ := hq_5
    refine W.eq (g2 := F0 m 5 ls (.ref a_6 :: [])) rfl ?_
    refine ty_getN (E := [(ty_XO x w sp sv bu bl le)]) (ws := ws_4) (D := D) (ci := 1) (C := RX1) (T := TX1) (N := 14) hx hb hts in_X1 hown hK hP hT ha_7 rfl 1 (by decide) (hts _ kl_RX10_134) (fun _ h9 => h9) rfl dX10_power_5 (fun _ hv_8 hf_9 => ?_)
    obtain ⟨a_10, rfl, ha_11⟩ := hv_8
    refine lv_astore_n (lv' := [(2, .ref a_10), (0, .ref x), (1, .int p1)]) hx hb dX10_power_8 rfl hl (by decide) rfl (fun ls hl => ?_)
    refine lv_aload_n hx hb dX10_power_9 rfl (lv_at hl 0 rfl) ?_
    refine ty_getN (E := [(ty_XO x w sp sv bu bl le)]) (ws := ws_4) (D := D) (ci := 0) (C := RX0) (T := TX0) (N := 16) hx hb hts in_X0 hown hK hP hT ha_11 rfl 13 (by decide) (hts _ kl_RX10_262) (fun _ h9 => h9) rfl dX10_power_10 (fun _ hv_12 hf_13 => ?_)
    obtain ⟨x_14, rfl⟩ := hv_12
    refine lv_i2l hx hb dX10_power_13 rfl ?_
    refine lv_topl (fun x_15 _ => ?_)
    refine lv_aload_n hx hb dX10_power_14 rfl (lv_at hl 0 rfl) ?_
    refine ty_getN (E := [(ty_XO x w sp sv bu bl le)]) (ws := ws_4) (D := D) (ci := 0) (C := RX0) (T := TX0) (N := 16) hx hb hts in_X0 hown hK hP hT ha_11 rfl 14 (by decide) (hts _ kl_RX10_138) (fun _ h9 => h9) rfl dX10_power_15 (fun _ hv_16 hf_17 => ?_)
    obtain ⟨x_18, rfl⟩ := hv_16
    refine lv_i2l hx hb dX10_power_18 rfl ?_
    refine lv_topl (fun x_19 _ => ?_)
    refine lv_lmul hx hb dX10_power_19 ?_
    refine lv_topl (fun x_20 _ => ?_)
    refine lv_ldc2 hx hb hown (hts _ kl_RX10_265) dX10_power_20 ?_
    refine lv_ldiv hx hb dX10_power_23 (by decide) ?_
    refine lv_topl (fun x_21 _ => ?_)
    refine lv_l2i hx hb dX10_power_24 rfl ?_
    refine lv_topi (fun x_22 _ => ?_)
    refine vx_ret ?_
    exact W.iret (v := x_22) hx hb hr (fun t ht hW => ⟨⟨x_22, ws_4, rfl, hT, by rw [ht]; exact hP, by rw [hAe]; exact hD⟩, hS.F ht⟩) hS.2.2 dX10_power_25
theorem dX10_measuredRest_0 : decode cX10_measuredRest 0 = .ok (.aload_n 0, 1) := by decide +kernel
theorem dX10_measuredRest_1 : decode cX10_measuredRest 1 = .ok (.iload_n 1, 1) := by decide +kernel
theorem dX10_measuredRest_2 : decode cX10_measuredRest 2 = .ok (.invokevirtual 172, 3) := by decide +kernel
theorem dX10_measuredRest_5 : decode cX10_measuredRest 5 = .ok (.getfield 267, 3) := by decide +kernel
theorem dX10_measuredRest_8 : decode cX10_measuredRest 8 = .ok (.getfield 271, 3) := by decide +kernel
theorem dX10_measuredRest_11 : decode cX10_measuredRest 11 = .ok (.ireturn, 1) := by decide +kernel
set_option maxRecDepth 100000 in
set_option maxHeartbeats 4000000 in
theorem t_X10_measuredRest (l : Launch) (hfl : l.stackTraces = false) (D : va_G) (ct : Nat → ClassId) (S : ty_S) (ws : va_W) (ph : va_W → Prop) (xx : Nat → Nat → Nat → Prop) (x : Nat) (w : Nat) (sp : Nat) (sv : Nat) (bu : Nat) (ns : Nat) (bl : Int32) (le : Int32) (p1 : Int32) (sz : Nat) (hT : ty_V ct S ph ws) (h_w : S w = some (.inl 9)) (h_sp : S sp = some (.inl 9)) (h_sv : S sv = some (.inr (4, ns))) (hph : ty_C ph xx) (hy1 : ty_y1 xx) : vx_Met l yX10_measuredRest (ws_ yX10_measuredRest cX10_measuredRest 2 (some .int)) ({ frames := 7, cells := 1, slots := 6, locals := 112 } : Room) (va_Pc [.ref x, .int p1] (cmP D ct sz ([(ty_XO x w sp sv bu bl le)] ++ ws))) (va_Qi (fun (r : Int32) (u9 : va_W) => ty_V ct S ph u9) (cmB D ([(ty_XO x w sp sv bu bl le)] ++ ws) sz (fun (u9 : va_W) => ([(ty_XO x w sp sv bu bl le)] ++ u9))) (va_A ([(ty_XO x w sp sv bu bl le)] ++ ws) sz)) (vx_X (fun (u9 : va_W) => ty_V ct S ph u9) (cmBY D ([(ty_XO x w sp sv bu bl le)] ++ ws) sz ["java/lang/IndexOutOfBoundsException"] (fun (u9 : va_W) => ([(ty_XO x w sp sv bu bl le)] ++ u9))) (va_A ([(ty_XO x w sp sv bu bl le)] ++ ws) sz)) 1 6 (va_A ([(ty_XO x w sp sv bu bl le)] ++ ws) sz) := by
  refine vx_ofW (cc := cX10_measuredRest) (maxL := 2) (ret := (some .int)) (by decide) rfl ?_
  intro p e s m args below meth c s₁ B hml hex hv
  obtain ⟨rfl, hsz, hP, hK, hD0, hX⟩ := hv
  have hx := B.exec
  have hb := B.bytes
  have hr := B.returns
  have hts := ws_all (atoms_spec (ws := ws_ yX10_measuredRest cX10_measuredRest 2 (some .int)) B.pre)
  have hown : s.vm.findClass RX10 = some m.cls := findClass_of_methodNamed B.named
  have hlocks := B.notSynchronized
  subst hsz
  have hD := hD0.self (sz := s.heap.size)
  generalize hAe : va_A ([(ty_XO x w sp sv bu bl le)] ++ ws) s.heap.size = A at hD hX ⊢
  have hA : ∀ q : Nat, s.heap.size ≤ q → A q := fun q h => by rw [← hAe]; exact Or.inr h
  have hS : va_S A s.heap s.heap [] := va_S.rf
  have hl := lv_entry ([.ref x, .int p1]) (n := 2) (Nat.le_of_ble_eq_true rfl)
  rw [lg_entry_eq]
  generalize (lg_sl ([.ref x, .int p1]) ++ List.replicate (2 - (lg_sl ([.ref x, .int p1])).length) Slot.unset).toArray = ls at hl ⊢
  have hl : lv_has ls 2 [(0, .ref x), (1, .int p1)] := hl
  refine lv_aload_n hx hb dX10_measuredRest_0 rfl (lv_at hl 0 rfl) ?_
  refine lv_iload_n hx hb dX10_measuredRest_1 rfl (lv_at hl 1 rfl) ?_
  refine ty_xq (wr := []) (wc := ([(ty_XO x w sp sv bu bl le)] ++ ws)) (vx_runV (As := [.int p1]) (rest := []) ⟨hx, hb, hml, hown, hts⟩ (t_X10_needChannel l hfl D ct S ws ph xx x w sp sv bu ns bl le p1 _ hT h_w h_sp h_sv hph hy1) (cm_V 1 hts kc_X10_needChannel ki_RX10 kl_RX10_172 kv_X10_needChannel kx_X10_needChannel kd_X10_needChannel ⟨Nat.le_of_ble_eq_true rfl, Nat.le_of_ble_eq_true rfl⟩) (ty_preE (wr := []) (wc := ([(ty_XO x w sp sv bu bl le)] ++ ws)) (ci := 10) (q0 := 0) hP hK hD hS hA hX rfl rfl) rfl rfl hl.1 rfl (lv_room (Nat.le_of_ble_eq_true rfl)) dX10_measuredRest_2 ⟨Nat.le_of_ble_eq_true rfl, Nat.le_of_ble_eq_true rfl⟩) hP hD hS hA (fun E ce q9 u H locs hu hE hP hD hS hce hcv hcl => ?_) (fun r_1 u H locs hw_2 hP hD hS => ?_)
  · obtain ⟨ws_3, rfl⟩ : ∃ z, z = u := ⟨_, rfl⟩
    have hT := hu
    have hP : va_P D vwCl ([(ty_XO x w sp sv bu bl le)] ++ ws_3) H := hP
    have hD : va_D A ([(ty_XO x w sp sv bu bl le)] ++ ws_3) := hD
    exact vx_out (fun x hx => (hex x hx).elim) hlocks hce hcv hcl (fun t ht hW => ⟨ws_3, hT, ⟨hE, by rw [ht]; exact hP, by rw [hAe]; exact hD⟩, hS.F ht⟩) hS.2.2 (Nat.le_of_ble_eq_true rfl) (Nat.le_of_ble_eq_true rfl)
  · obtain ⟨ws_4, rfl⟩ : ∃ z, z = u := ⟨_, rfl⟩
    obtain ⟨hT, hq_5⟩ := hw_2
    have hP : va_P D vwCl ([(ty_XO x w sp sv bu bl le)] ++ ws_4) H := hP
    have hD : va_D A ([(ty_XO x w sp sv bu bl le)] ++ ws_4) := hD
    refine W.widen (k := 1) (n := 6) (Nat.le_of_ble_eq_true rfl) (Nat.le_of_ble_eq_true rfl) ?_
    obtain ⟨a_6, rfl, ha_7⟩ := hq_5
    refine W.eq (g2 := F0 m 5 ls (.ref a_6 :: [])) rfl ?_
    refine ty_getN (E := [(ty_XO x w sp sv bu bl le)]) (ws := ws_4) (D := D) (ci := 1) (C := RX1) (T := TX1) (N := 14) hx hb hts in_X1 hown hK hP hT ha_7 rfl 2 (by decide) (hts _ kl_RX10_267) (fun _ h9 => h9) rfl dX10_measuredRest_5 (fun _ hv_8 hf_9 => ?_)
    obtain ⟨a_10, rfl, ha_11⟩ := hv_8
    refine ty_getN (E := [(ty_XO x w sp sv bu bl le)]) (ws := ws_4) (D := D) (ci := 4) (C := RX4) (T := TX4) (N := 7) hx hb hts in_X4 hown hK hP hT ha_11 rfl 0 (by decide) (hts _ kl_RX10_271) (fun _ h9 => h9) rfl dX10_measuredRest_8 (fun _ hv_12 hf_13 => ?_)
    obtain ⟨x_14, rfl⟩ := hv_12
    refine vx_ret ?_
    exact W.iret (v := x_14) hx hb hr (fun t ht hW => ⟨⟨x_14, ws_4, rfl, hT, by rw [ht]; exact hP, by rw [hAe]; exact hD⟩, hS.F ht⟩) hS.2.2 dX10_measuredRest_11
theorem dX10_capacityByRule_0 : decode cX10_capacityByRule 0 = .ok (.aload_n 0, 1) := by decide +kernel
theorem dX10_capacityByRule_1 : decode cX10_capacityByRule 1 = .ok (.iload_n 1, 1) := by decide +kernel
theorem dX10_capacityByRule_2 : decode cX10_capacityByRule 2 = .ok (.invokevirtual 172, 3) := by decide +kernel
theorem dX10_capacityByRule_5 : decode cX10_capacityByRule 5 = .ok (.getfield 267, 3) := by decide +kernel
theorem dX10_capacityByRule_8 : decode cX10_capacityByRule 8 = .ok (.getfield 276, 3) := by decide +kernel
theorem dX10_capacityByRule_11 : decode cX10_capacityByRule 11 = .ok (.ireturn, 1) := by decide +kernel
set_option maxRecDepth 100000 in
set_option maxHeartbeats 4000000 in
theorem t_X10_capacityByRule (l : Launch) (hfl : l.stackTraces = false) (D : va_G) (ct : Nat → ClassId) (S : ty_S) (ws : va_W) (ph : va_W → Prop) (xx : Nat → Nat → Nat → Prop) (x : Nat) (w : Nat) (sp : Nat) (sv : Nat) (bu : Nat) (ns : Nat) (bl : Int32) (le : Int32) (p1 : Int32) (sz : Nat) (hT : ty_V ct S ph ws) (h_w : S w = some (.inl 9)) (h_sp : S sp = some (.inl 9)) (h_sv : S sv = some (.inr (4, ns))) (hph : ty_C ph xx) (hy1 : ty_y1 xx) : vx_Met l yX10_capacityByRule (ws_ yX10_capacityByRule cX10_capacityByRule 2 (some .int)) ({ frames := 7, cells := 1, slots := 6, locals := 112 } : Room) (va_Pc [.ref x, .int p1] (cmP D ct sz ([(ty_XO x w sp sv bu bl le)] ++ ws))) (va_Qi (fun (r : Int32) (u9 : va_W) => ty_V ct S ph u9) (cmB D ([(ty_XO x w sp sv bu bl le)] ++ ws) sz (fun (u9 : va_W) => ([(ty_XO x w sp sv bu bl le)] ++ u9))) (va_A ([(ty_XO x w sp sv bu bl le)] ++ ws) sz)) (vx_X (fun (u9 : va_W) => ty_V ct S ph u9) (cmBY D ([(ty_XO x w sp sv bu bl le)] ++ ws) sz ["java/lang/IndexOutOfBoundsException"] (fun (u9 : va_W) => ([(ty_XO x w sp sv bu bl le)] ++ u9))) (va_A ([(ty_XO x w sp sv bu bl le)] ++ ws) sz)) 1 6 (va_A ([(ty_XO x w sp sv bu bl le)] ++ ws) sz) := by
  refine vx_ofW (cc := cX10_capacityByRule) (maxL := 2) (ret := (some .int)) (by decide) rfl ?_
  intro p e s m args below meth c s₁ B hml hex hv
  obtain ⟨rfl, hsz, hP, hK, hD0, hX⟩ := hv
  have hx := B.exec
  have hb := B.bytes
  have hr := B.returns
  have hts := ws_all (atoms_spec (ws := ws_ yX10_capacityByRule cX10_capacityByRule 2 (some .int)) B.pre)
  have hown : s.vm.findClass RX10 = some m.cls := findClass_of_methodNamed B.named
  have hlocks := B.notSynchronized
  subst hsz
  have hD := hD0.self (sz := s.heap.size)
  generalize hAe : va_A ([(ty_XO x w sp sv bu bl le)] ++ ws) s.heap.size = A at hD hX ⊢
  have hA : ∀ q : Nat, s.heap.size ≤ q → A q := fun q h => by rw [← hAe]; exact Or.inr h
  have hS : va_S A s.heap s.heap [] := va_S.rf
  have hl := lv_entry ([.ref x, .int p1]) (n := 2) (Nat.le_of_ble_eq_true rfl)
  rw [lg_entry_eq]
  generalize (lg_sl ([.ref x, .int p1]) ++ List.replicate (2 - (lg_sl ([.ref x, .int p1])).length) Slot.unset).toArray = ls at hl ⊢
  have hl : lv_has ls 2 [(0, .ref x), (1, .int p1)] := hl
  refine lv_aload_n hx hb dX10_capacityByRule_0 rfl (lv_at hl 0 rfl) ?_
  refine lv_iload_n hx hb dX10_capacityByRule_1 rfl (lv_at hl 1 rfl) ?_
  refine ty_xq (wr := []) (wc := ([(ty_XO x w sp sv bu bl le)] ++ ws)) (vx_runV (As := [.int p1]) (rest := []) ⟨hx, hb, hml, hown, hts⟩ (t_X10_needChannel l hfl D ct S ws ph xx x w sp sv bu ns bl le p1 _ hT h_w h_sp h_sv hph hy1) (cm_V 1 hts kc_X10_needChannel ki_RX10 kl_RX10_172 kv_X10_needChannel kx_X10_needChannel kd_X10_needChannel ⟨Nat.le_of_ble_eq_true rfl, Nat.le_of_ble_eq_true rfl⟩) (ty_preE (wr := []) (wc := ([(ty_XO x w sp sv bu bl le)] ++ ws)) (ci := 10) (q0 := 0) hP hK hD hS hA hX rfl rfl) rfl rfl hl.1 rfl (lv_room (Nat.le_of_ble_eq_true rfl)) dX10_capacityByRule_2 ⟨Nat.le_of_ble_eq_true rfl, Nat.le_of_ble_eq_true rfl⟩) hP hD hS hA (fun E ce q9 u H locs hu hE hP hD hS hce hcv hcl => ?_) (fun r_1 u H locs hw_2 hP hD hS => ?_)
  · obtain ⟨ws_3, rfl⟩ : ∃ z, z = u := ⟨_, rfl⟩
    have hT := hu
    have hP : va_P D vwCl ([(ty_XO x w sp sv bu bl le)] ++ ws_3) H := hP
    have hD : va_D A ([(ty_XO x w sp sv bu bl le)] ++ ws_3) := hD
    exact vx_out (fun x hx => (hex x hx).elim) hlocks hce hcv hcl (fun t ht hW => ⟨ws_3, hT, ⟨hE, by rw [ht]; exact hP, by rw [hAe]; exact hD⟩, hS.F ht⟩) hS.2.2 (Nat.le_of_ble_eq_true rfl) (Nat.le_of_ble_eq_true rfl)
  · obtain ⟨ws_4, rfl⟩ : ∃ z, z = u := ⟨_, rfl⟩
    obtain ⟨hT, hq_5⟩ := hw_2
    have hP : va_P D vwCl ([(ty_XO x w sp sv bu bl le)] ++ ws_4) H := hP
    have hD : va_D A ([(ty_XO x w sp sv bu bl le)] ++ ws_4) := hD
    refine W.widen (k := 1) (n := 6) (Nat.le_of_ble_eq_true rfl) (Nat.le_of_ble_eq_true rfl) ?_
    obtain ⟨a_6, rfl, ha_7⟩ := hq_5
    refine W.eq (g2 := F0 m 5 ls (.ref a_6 :: [])) rfl ?_
    refine ty_getN (E := [(ty_XO x w sp sv bu bl le)]) (ws := ws_4) (D := D) (ci := 1) (C := RX1) (T := TX1) (N := 14) hx hb hts in_X1 hown hK hP hT ha_7 rfl 2 (by decide) (hts _ kl_RX10_267) (fun _ h9 => h9) rfl dX10_capacityByRule_5 (fun _ hv_8 hf_9 => ?_)
    obtain ⟨a_10, rfl, ha_11⟩ := hv_8
    refine ty_getN (E := [(ty_XO x w sp sv bu bl le)]) (ws := ws_4) (D := D) (ci := 4) (C := RX4) (T := TX4) (N := 7) hx hb hts in_X4 hown hK hP hT ha_11 rfl 1 (by decide) (hts _ kl_RX10_276) (fun _ h9 => h9) rfl dX10_capacityByRule_8 (fun _ hv_12 hf_13 => ?_)
    obtain ⟨x_14, rfl⟩ := hv_12
    refine vx_ret ?_
    exact W.iret (v := x_14) hx hb hr (fun t ht hW => ⟨⟨x_14, ws_4, rfl, hT, by rw [ht]; exact hP, by rw [hAe]; exact hD⟩, hS.F ht⟩) hS.2.2 dX10_capacityByRule_11
theorem dX10_internalResistance_0 : decode cX10_internalResistance 0 = .ok (.aload_n 0, 1) := by decide +kernel
theorem dX10_internalResistance_1 : decode cX10_internalResistance 1 = .ok (.iload_n 1, 1) := by decide +kernel
theorem dX10_internalResistance_2 : decode cX10_internalResistance 2 = .ok (.invokevirtual 172, 3) := by decide +kernel
theorem dX10_internalResistance_5 : decode cX10_internalResistance 5 = .ok (.getfield 267, 3) := by decide +kernel
theorem dX10_internalResistance_8 : decode cX10_internalResistance 8 = .ok (.getfield 279, 3) := by decide +kernel
theorem dX10_internalResistance_11 : decode cX10_internalResistance 11 = .ok (.ireturn, 1) := by decide +kernel
set_option maxRecDepth 100000 in
set_option maxHeartbeats 4000000 in
theorem t_X10_internalResistance (l : Launch) (hfl : l.stackTraces = false) (D : va_G) (ct : Nat → ClassId) (S : ty_S) (ws : va_W) (ph : va_W → Prop) (xx : Nat → Nat → Nat → Prop) (x : Nat) (w : Nat) (sp : Nat) (sv : Nat) (bu : Nat) (ns : Nat) (bl : Int32) (le : Int32) (p1 : Int32) (sz : Nat) (hT : ty_V ct S ph ws) (h_w : S w = some (.inl 9)) (h_sp : S sp = some (.inl 9)) (h_sv : S sv = some (.inr (4, ns))) (hph : ty_C ph xx) (hy1 : ty_y1 xx) : vx_Met l yX10_internalResistance (ws_ yX10_internalResistance cX10_internalResistance 2 (some .int)) ({ frames := 7, cells := 1, slots := 6, locals := 112 } : Room) (va_Pc [.ref x, .int p1] (cmP D ct sz ([(ty_XO x w sp sv bu bl le)] ++ ws))) (va_Qi (fun (r : Int32) (u9 : va_W) => ty_V ct S ph u9) (cmB D ([(ty_XO x w sp sv bu bl le)] ++ ws) sz (fun (u9 : va_W) => ([(ty_XO x w sp sv bu bl le)] ++ u9))) (va_A ([(ty_XO x w sp sv bu bl le)] ++ ws) sz)) (vx_X (fun (u9 : va_W) => ty_V ct S ph u9) (cmBY D ([(ty_XO x w sp sv bu bl le)] ++ ws) sz ["java/lang/IndexOutOfBoundsException"] (fun (u9 : va_W) => ([(ty_XO x w sp sv bu bl le)] ++ u9))) (va_A ([(ty_XO x w sp sv bu bl le)] ++ ws) sz)) 1 6 (va_A ([(ty_XO x w sp sv bu bl le)] ++ ws) sz) := by
  refine vx_ofW (cc := cX10_internalResistance) (maxL := 2) (ret := (some .int)) (by decide) rfl ?_
  intro p e s m args below meth c s₁ B hml hex hv
  obtain ⟨rfl, hsz, hP, hK, hD0, hX⟩ := hv
  have hx := B.exec
  have hb := B.bytes
  have hr := B.returns
  have hts := ws_all (atoms_spec (ws := ws_ yX10_internalResistance cX10_internalResistance 2 (some .int)) B.pre)
  have hown : s.vm.findClass RX10 = some m.cls := findClass_of_methodNamed B.named
  have hlocks := B.notSynchronized
  subst hsz
  have hD := hD0.self (sz := s.heap.size)
  generalize hAe : va_A ([(ty_XO x w sp sv bu bl le)] ++ ws) s.heap.size = A at hD hX ⊢
  have hA : ∀ q : Nat, s.heap.size ≤ q → A q := fun q h => by rw [← hAe]; exact Or.inr h
  have hS : va_S A s.heap s.heap [] := va_S.rf
  have hl := lv_entry ([.ref x, .int p1]) (n := 2) (Nat.le_of_ble_eq_true rfl)
  rw [lg_entry_eq]
  generalize (lg_sl ([.ref x, .int p1]) ++ List.replicate (2 - (lg_sl ([.ref x, .int p1])).length) Slot.unset).toArray = ls at hl ⊢
  have hl : lv_has ls 2 [(0, .ref x), (1, .int p1)] := hl
  refine lv_aload_n hx hb dX10_internalResistance_0 rfl (lv_at hl 0 rfl) ?_
  refine lv_iload_n hx hb dX10_internalResistance_1 rfl (lv_at hl 1 rfl) ?_
  refine ty_xq (wr := []) (wc := ([(ty_XO x w sp sv bu bl le)] ++ ws)) (vx_runV (As := [.int p1]) (rest := []) ⟨hx, hb, hml, hown, hts⟩ (t_X10_needChannel l hfl D ct S ws ph xx x w sp sv bu ns bl le p1 _ hT h_w h_sp h_sv hph hy1) (cm_V 1 hts kc_X10_needChannel ki_RX10 kl_RX10_172 kv_X10_needChannel kx_X10_needChannel kd_X10_needChannel ⟨Nat.le_of_ble_eq_true rfl, Nat.le_of_ble_eq_true rfl⟩) (ty_preE (wr := []) (wc := ([(ty_XO x w sp sv bu bl le)] ++ ws)) (ci := 10) (q0 := 0) hP hK hD hS hA hX rfl rfl) rfl rfl hl.1 rfl (lv_room (Nat.le_of_ble_eq_true rfl)) dX10_internalResistance_2 ⟨Nat.le_of_ble_eq_true rfl, Nat.le_of_ble_eq_true rfl⟩) hP hD hS hA (fun E ce q9 u H locs hu hE hP hD hS hce hcv hcl => ?_) (fun r_1 u H locs hw_2 hP hD hS => ?_)
  · obtain ⟨ws_3, rfl⟩ : ∃ z, z = u := ⟨_, rfl⟩
    have hT := hu
    have hP : va_P D vwCl ([(ty_XO x w sp sv bu bl le)] ++ ws_3) H := hP
    have hD : va_D A ([(ty_XO x w sp sv bu bl le)] ++ ws_3) := hD
    exact vx_out (fun x hx => (hex x hx).elim) hlocks hce hcv hcl (fun t ht hW => ⟨ws_3, hT, ⟨hE, by rw [ht]; exact hP, by rw [hAe]; exact hD⟩, hS.F ht⟩) hS.2.2 (Nat.le_of_ble_eq_true rfl) (Nat.le_of_ble_eq_true rfl)
  · obtain ⟨ws_4, rfl⟩ : ∃ z, z = u := ⟨_, rfl⟩
    obtain ⟨hT, hq_5⟩ := hw_2
    have hP : va_P D vwCl ([(ty_XO x w sp sv bu bl le)] ++ ws_4) H := hP
    have hD : va_D A ([(ty_XO x w sp sv bu bl le)] ++ ws_4) := hD
    refine W.widen (k := 1) (n := 6) (Nat.le_of_ble_eq_true rfl) (Nat.le_of_ble_eq_true rfl) ?_
    obtain ⟨a_6, rfl, ha_7⟩ := hq_5
    refine W.eq (g2 := F0 m 5 ls (.ref a_6 :: [])) rfl ?_
    refine ty_getN (E := [(ty_XO x w sp sv bu bl le)]) (ws := ws_4) (D := D) (ci := 1) (C := RX1) (T := TX1) (N := 14) hx hb hts in_X1 hown hK hP hT ha_7 rfl 2 (by decide) (hts _ kl_RX10_267) (fun _ h9 => h9) rfl dX10_internalResistance_5 (fun _ hv_8 hf_9 => ?_)
    obtain ⟨a_10, rfl, ha_11⟩ := hv_8
    refine ty_getN (E := [(ty_XO x w sp sv bu bl le)]) (ws := ws_4) (D := D) (ci := 4) (C := RX4) (T := TX4) (N := 7) hx hb hts in_X4 hown hK hP hT ha_11 rfl 2 (by decide) (hts _ kl_RX10_279) (fun _ h9 => h9) rfl dX10_internalResistance_8 (fun _ hv_12 hf_13 => ?_)
    obtain ⟨x_14, rfl⟩ := hv_12
    refine vx_ret ?_
    exact W.iret (v := x_14) hx hb hr (fun t ht hW => ⟨⟨x_14, ws_4, rfl, hT, by rw [ht]; exact hP, by rw [hAe]; exact hD⟩, hS.F ht⟩) hS.2.2 dX10_internalResistance_11
theorem dX10_ticksIn_0 : decode cX10_ticksIn 0 = .ok (.aload_n 0, 1) := by decide +kernel
theorem dX10_ticksIn_1 : decode cX10_ticksIn 1 = .ok (.iload_n 1, 1) := by decide +kernel
theorem dX10_ticksIn_2 : decode cX10_ticksIn 2 = .ok (.invokevirtual 172, 3) := by decide +kernel
theorem dX10_ticksIn_5 : decode cX10_ticksIn 5 = .ok (.astore_n 3, 1) := by decide +kernel
theorem dX10_ticksIn_6 : decode cX10_ticksIn 6 = .ok (.iload_n 2, 1) := by decide +kernel
theorem dX10_ticksIn_7 : decode cX10_ticksIn 7 = .ok (.iconst 0, 1) := by decide +kernel
theorem dX10_ticksIn_8 : decode cX10_ticksIn 8 = .ok (.bipush 9, 2) := by decide +kernel
theorem dX10_ticksIn_10 : decode cX10_ticksIn 10 = .ok (.invokestatic 81, 3) := by decide +kernel
theorem dX10_ticksIn_13 : decode cX10_ticksIn 13 = .ok (.aload_n 3, 1) := by decide +kernel
theorem dX10_ticksIn_14 : decode cX10_ticksIn 14 = .ok (.getfield 267, 3) := by decide +kernel
theorem dX10_ticksIn_17 : decode cX10_ticksIn 17 = .ok (.getfield 282, 3) := by decide +kernel
theorem dX10_ticksIn_20 : decode cX10_ticksIn 20 = .ok (.iload_n 2, 1) := by decide +kernel
theorem dX10_ticksIn_21 : decode cX10_ticksIn 21 = .ok (.invokestatic 216, 3) := by decide +kernel
theorem dX10_ticksIn_24 : decode cX10_ticksIn 24 = .ok (.ireturn, 1) := by decide +kernel
set_option maxRecDepth 100000 in
set_option maxHeartbeats 4000000 in
theorem t_X10_ticksIn (l : Launch) (hfl : l.stackTraces = false) (D : va_G) (ct : Nat → ClassId) (S : ty_S) (ws : va_W) (ph : va_W → Prop) (xx : Nat → Nat → Nat → Prop) (x : Nat) (w : Nat) (sp : Nat) (sv : Nat) (bu : Nat) (ns : Nat) (bl : Int32) (le : Int32) (p1 : Int32) (p2 : Int32) (sz : Nat) (hT : ty_V ct S ph ws) (h_w : S w = some (.inl 9)) (h_sp : S sp = some (.inl 9)) (h_sv : S sv = some (.inr (4, ns))) (hph : ty_C ph xx) (hy1 : ty_y1 xx) : vx_Met l yX10_ticksIn (ws_ yX10_ticksIn cX10_ticksIn 4 (some .int)) ({ frames := 7, cells := 2, slots := 12, locals := 112 } : Room) (va_Pc [.ref x, .int p1, .int p2] (cmP D ct sz ([(ty_XO x w sp sv bu bl le)] ++ ws))) (va_Qi (fun (r : Int32) (u9 : va_W) => ty_V ct S ph u9) (cmB D ([(ty_XO x w sp sv bu bl le)] ++ ws) sz (fun (u9 : va_W) => ([(ty_XO x w sp sv bu bl le)] ++ u9))) (va_A ([(ty_XO x w sp sv bu bl le)] ++ ws) sz)) (vx_X (fun (u9 : va_W) => ty_V ct S ph u9) (cmBY D ([(ty_XO x w sp sv bu bl le)] ++ ws) sz ["java/lang/IllegalArgumentException", "java/lang/IndexOutOfBoundsException"] (fun (u9 : va_W) => ([(ty_XO x w sp sv bu bl le)] ++ u9))) (va_A ([(ty_XO x w sp sv bu bl le)] ++ ws) sz)) 2 12 (va_A ([(ty_XO x w sp sv bu bl le)] ++ ws) sz) := by
  refine vx_ofW (cc := cX10_ticksIn) (maxL := 4) (ret := (some .int)) (by decide) rfl ?_
  intro p e s m args below meth c s₁ B hml hex hv
  obtain ⟨rfl, hsz, hP, hK, hD0, hX⟩ := hv
  have hx := B.exec
  have hb := B.bytes
  have hr := B.returns
  have hts := ws_all (atoms_spec (ws := ws_ yX10_ticksIn cX10_ticksIn 4 (some .int)) B.pre)
  have hown : s.vm.findClass RX10 = some m.cls := findClass_of_methodNamed B.named
  have hlocks := B.notSynchronized
  subst hsz
  have hD := hD0.self (sz := s.heap.size)
  generalize hAe : va_A ([(ty_XO x w sp sv bu bl le)] ++ ws) s.heap.size = A at hD hX ⊢
  have hA : ∀ q : Nat, s.heap.size ≤ q → A q := fun q h => by rw [← hAe]; exact Or.inr h
  have hS : va_S A s.heap s.heap [] := va_S.rf
  have hl := lv_entry ([.ref x, .int p1, .int p2]) (n := 4) (Nat.le_of_ble_eq_true rfl)
  rw [lg_entry_eq]
  generalize (lg_sl ([.ref x, .int p1, .int p2]) ++ List.replicate (4 - (lg_sl ([.ref x, .int p1, .int p2])).length) Slot.unset).toArray = ls at hl ⊢
  have hl : lv_has ls 4 [(0, .ref x), (1, .int p1), (2, .int p2)] := hl
  refine lv_aload_n hx hb dX10_ticksIn_0 rfl (lv_at hl 0 rfl) ?_
  refine lv_iload_n hx hb dX10_ticksIn_1 rfl (lv_at hl 1 rfl) ?_
  refine ty_xq (wr := []) (wc := ([(ty_XO x w sp sv bu bl le)] ++ ws)) (vx_runV (As := [.int p1]) (rest := []) ⟨hx, hb, hml, hown, hts⟩ (t_X10_needChannel l hfl D ct S ws ph xx x w sp sv bu ns bl le p1 _ hT h_w h_sp h_sv hph hy1) (cm_V 1 hts kc_X10_needChannel ki_RX10 kl_RX10_172 kv_X10_needChannel kx_X10_needChannel kd_X10_needChannel ⟨Nat.le_of_ble_eq_true rfl, Nat.le_of_ble_eq_true rfl⟩) (ty_preE (wr := []) (wc := ([(ty_XO x w sp sv bu bl le)] ++ ws)) (ci := 10) (q0 := 0) hP hK hD hS hA hX rfl rfl) rfl rfl hl.1 rfl (lv_room (Nat.le_of_ble_eq_true rfl)) dX10_ticksIn_2 ⟨Nat.le_of_ble_eq_true rfl, Nat.le_of_ble_eq_true rfl⟩) hP hD hS hA (fun E ce q9 u H locs hu hE hP hD hS hce hcv hcl => ?_) (fun r_1 u H locs hw_2 hP hD hS => ?_)
  · obtain ⟨ws_3, rfl⟩ : ∃ z, z = u := ⟨_, rfl⟩
    have hT := hu
    have hP : va_P D vwCl ([(ty_XO x w sp sv bu bl le)] ++ ws_3) H := hP
    have hD : va_D A ([(ty_XO x w sp sv bu bl le)] ++ ws_3) := hD
    exact vx_out (fun x hx => (hex x hx).elim) hlocks hce hcv hcl (fun t ht hW => ⟨ws_3, hT, ⟨(ty_mem hE (by decide)), by rw [ht]; exact hP, by rw [hAe]; exact hD⟩, hS.F ht⟩) hS.2.2 (Nat.le_of_ble_eq_true rfl) (Nat.le_of_ble_eq_true rfl)
  · obtain ⟨ws_4, rfl⟩ : ∃ z, z = u := ⟨_, rfl⟩
    obtain ⟨hT, hq_5⟩ := hw_2
    have hP : va_P D vwCl ([(ty_XO x w sp sv bu bl le)] ++ ws_4) H := hP
    have hD : va_D A ([(ty_XO x w sp sv bu bl le)] ++ ws_4) := hD
    refine W.widen (k := 1) (n := 6) (Nat.le_of_ble_eq_true rfl) (Nat.le_of_ble_eq_true rfl) ?_
    obtain ⟨a_6, rfl, ha_7⟩ := hq_5
    refine W.eq (g2 := F0 m 5 ls (.ref a_6 :: [])) rfl ?_
    refine lv_astore_n (lv' := [(3, .ref a_6), (0, .ref x), (1, .int p1), (2, .int p2)]) hx hb dX10_ticksIn_5 rfl hl (by decide) rfl (fun ls hl => ?_)
    refine lv_iload_n hx hb dX10_ticksIn_6 rfl (lv_at hl 3 rfl) ?_
    refine lv_iconst (v := 0) hx hb dX10_ticksIn_7 (by decide) ?_
    refine lv_bipush (v := 9) hx hb dX10_ticksIn_8 (by decide) ?_
    refine ty_xv (wr := [(ty_XO x w sp sv bu bl le)]) (wc := ([] ++ ws_4)) (vx_runS (As := [.int p2, .int 0, .int 9]) (rest := []) ⟨hx, hb, hml, hown, hts⟩ (t_X10_needRange l hfl D ct S ws_4 ph xx p2 (0 : Int32) (9 : Int32) _ hT hph hy1) (cm_S 3 hts kc_X10_needRange ki_RX10 kl_RX10_81 ks_X10_needRange kd_X10_needRange ⟨Nat.le_of_ble_eq_true rfl, Nat.le_of_ble_eq_true rfl⟩) (ty_preS (wr := [(ty_XO x w sp sv bu bl le)]) (wc := ([] ++ ws_4)) hP hK hD hS hA hX) rfl rfl hl.1 rfl (lv_room (Nat.le_of_ble_eq_true rfl)) dX10_ticksIn_10 ⟨Nat.le_of_ble_eq_true rfl, Nat.le_of_ble_eq_true rfl⟩) hP hD hS hA (fun E ce q9 u H locs hu hE hP hD hS hce hcv hcl => ?_) (fun u H locs hw_9 hP hD hS => ?_)
    · obtain ⟨ws_10, rfl⟩ : ∃ z, z = u := ⟨_, rfl⟩
      have hT := hu
      have hP : va_P D vwCl ([(ty_XO x w sp sv bu bl le)] ++ ws_10) H := hP
      have hD : va_D A ([(ty_XO x w sp sv bu bl le)] ++ ws_10) := hD
      exact vx_out (fun x hx => (hex x hx).elim) hlocks hce hcv hcl (fun t ht hW => ⟨ws_10, hT, ⟨(ty_mem hE (by decide)), by rw [ht]; exact hP, by rw [hAe]; exact hD⟩, hS.F ht⟩) hS.2.2 (Nat.le_of_ble_eq_true rfl) (Nat.le_of_ble_eq_true rfl)
    · obtain ⟨ws_11, rfl⟩ : ∃ z, z = u := ⟨_, rfl⟩
      have hT := hw_9
      have hP : va_P D vwCl ([(ty_XO x w sp sv bu bl le)] ++ ws_11) H := hP
      have hD : va_D A ([(ty_XO x w sp sv bu bl le)] ++ ws_11) := hD
      refine W.widen (k := 2) (n := 12) (Nat.le_of_ble_eq_true rfl) (Nat.le_of_ble_eq_true rfl) ?_
      refine lv_aload_n hx hb dX10_ticksIn_13 rfl (lv_at hl 0 rfl) ?_
      refine ty_getN (E := [(ty_XO x w sp sv bu bl le)]) (ws := ws_11) (D := D) (ci := 1) (C := RX1) (T := TX1) (N := 14) hx hb hts in_X1 hown hK hP hT ha_7 rfl 2 (by decide) (hts _ kl_RX10_267) (fun _ h9 => h9) rfl dX10_ticksIn_14 (fun _ hv_12 hf_13 => ?_)
      obtain ⟨a_14, rfl, ha_15⟩ := hv_12
      refine ty_getN (E := [(ty_XO x w sp sv bu bl le)]) (ws := ws_11) (D := D) (ci := 4) (C := RX4) (T := TX4) (N := 7) hx hb hts in_X4 hown hK hP hT ha_15 rfl 6 (by decide) (hts _ kl_RX10_282) (fun _ h9 => h9) rfl dX10_ticksIn_17 (fun _ hv_16 hf_17 => ?_)
      obtain ⟨a_18, n_19, rfl, ha_20⟩ := hv_16
      refine lv_iload_n hx hb dX10_ticksIn_20 rfl (lv_at hl 3 rfl) ?_
      refine ty_ki (wr := [(ty_XO x w sp sv bu bl le)]) (wc := ([] ++ ws_11)) (va_runS (As := [.ref a_18, .int p2]) (rest := []) ⟨hx, hb, hml, hown, hts⟩ (t_X10_at l D ct S ws_11 ph xx a_18 n_19 p2 _ hT ha_20 hph hy1) (cm_S 2 hts kc_X10_at ki_RX10 kl_RX10_216 ks_X10_at kd_X10_at ⟨Nat.le_of_ble_eq_true rfl, Nat.le_of_ble_eq_true rfl⟩) (ty_preS (wr := [(ty_XO x w sp sv bu bl le)]) (wc := ([] ++ ws_11)) hP hK hD hS hA hX) rfl rfl hl.1 rfl (lv_room (Nat.le_of_ble_eq_true rfl)) dX10_ticksIn_21 ⟨Nat.le_of_ble_eq_true rfl, Nat.le_of_ble_eq_true rfl⟩) hP hD hS hA (fun r_21 u H locs hw_22 hP hD hS => ?_)
      obtain ⟨ws_23, rfl⟩ : ∃ z, z = u := ⟨_, rfl⟩
      have hT := hw_22
      have hP : va_P D vwCl ([(ty_XO x w sp sv bu bl le)] ++ ws_23) H := hP
      have hD : va_D A ([(ty_XO x w sp sv bu bl le)] ++ ws_23) := hD
      refine vx_ret ?_
      exact W.iret (v := r_21) hx hb hr (fun t ht hW => ⟨⟨r_21, ws_23, rfl, hT, by rw [ht]; exact hP, by rw [hAe]; exact hD⟩, hS.F ht⟩) hS.2.2 dX10_ticksIn_24
theorem dX10_warnings_0 : decode cX10_warnings 0 = .ok (.aload_n 0, 1) := by decide +kernel
theorem dX10_warnings_1 : decode cX10_warnings 1 = .ok (.iload_n 1, 1) := by decide +kernel
theorem dX10_warnings_2 : decode cX10_warnings 2 = .ok (.invokevirtual 172, 3) := by decide +kernel
theorem dX10_warnings_5 : decode cX10_warnings 5 = .ok (.getfield 267, 3) := by decide +kernel
theorem dX10_warnings_8 : decode cX10_warnings 8 = .ok (.getfield 285, 3) := by decide +kernel
theorem dX10_warnings_11 : decode cX10_warnings 11 = .ok (.ireturn, 1) := by decide +kernel
set_option maxRecDepth 100000 in
set_option maxHeartbeats 4000000 in
theorem t_X10_warnings (l : Launch) (hfl : l.stackTraces = false) (D : va_G) (ct : Nat → ClassId) (S : ty_S) (ws : va_W) (ph : va_W → Prop) (xx : Nat → Nat → Nat → Prop) (x : Nat) (w : Nat) (sp : Nat) (sv : Nat) (bu : Nat) (ns : Nat) (bl : Int32) (le : Int32) (p1 : Int32) (sz : Nat) (hT : ty_V ct S ph ws) (h_w : S w = some (.inl 9)) (h_sp : S sp = some (.inl 9)) (h_sv : S sv = some (.inr (4, ns))) (hph : ty_C ph xx) (hy1 : ty_y1 xx) : vx_Met l yX10_warnings (ws_ yX10_warnings cX10_warnings 2 (some .int)) ({ frames := 7, cells := 1, slots := 6, locals := 112 } : Room) (va_Pc [.ref x, .int p1] (cmP D ct sz ([(ty_XO x w sp sv bu bl le)] ++ ws))) (va_Qi (fun (r : Int32) (u9 : va_W) => ty_V ct S ph u9) (cmB D ([(ty_XO x w sp sv bu bl le)] ++ ws) sz (fun (u9 : va_W) => ([(ty_XO x w sp sv bu bl le)] ++ u9))) (va_A ([(ty_XO x w sp sv bu bl le)] ++ ws) sz)) (vx_X (fun (u9 : va_W) => ty_V ct S ph u9) (cmBY D ([(ty_XO x w sp sv bu bl le)] ++ ws) sz ["java/lang/IndexOutOfBoundsException"] (fun (u9 : va_W) => ([(ty_XO x w sp sv bu bl le)] ++ u9))) (va_A ([(ty_XO x w sp sv bu bl le)] ++ ws) sz)) 1 6 (va_A ([(ty_XO x w sp sv bu bl le)] ++ ws) sz) := by
  refine vx_ofW (cc := cX10_warnings) (maxL := 2) (ret := (some .int)) (by decide) rfl ?_
  intro p e s m args below meth c s₁ B hml hex hv
  obtain ⟨rfl, hsz, hP, hK, hD0, hX⟩ := hv
  have hx := B.exec
  have hb := B.bytes
  have hr := B.returns
  have hts := ws_all (atoms_spec (ws := ws_ yX10_warnings cX10_warnings 2 (some .int)) B.pre)
  have hown : s.vm.findClass RX10 = some m.cls := findClass_of_methodNamed B.named
  have hlocks := B.notSynchronized
  subst hsz
  have hD := hD0.self (sz := s.heap.size)
  generalize hAe : va_A ([(ty_XO x w sp sv bu bl le)] ++ ws) s.heap.size = A at hD hX ⊢
  have hA : ∀ q : Nat, s.heap.size ≤ q → A q := fun q h => by rw [← hAe]; exact Or.inr h
  have hS : va_S A s.heap s.heap [] := va_S.rf
  have hl := lv_entry ([.ref x, .int p1]) (n := 2) (Nat.le_of_ble_eq_true rfl)
  rw [lg_entry_eq]
  generalize (lg_sl ([.ref x, .int p1]) ++ List.replicate (2 - (lg_sl ([.ref x, .int p1])).length) Slot.unset).toArray = ls at hl ⊢
  have hl : lv_has ls 2 [(0, .ref x), (1, .int p1)] := hl
  refine lv_aload_n hx hb dX10_warnings_0 rfl (lv_at hl 0 rfl) ?_
  refine lv_iload_n hx hb dX10_warnings_1 rfl (lv_at hl 1 rfl) ?_
  refine ty_xq (wr := []) (wc := ([(ty_XO x w sp sv bu bl le)] ++ ws)) (vx_runV (As := [.int p1]) (rest := []) ⟨hx, hb, hml, hown, hts⟩ (t_X10_needChannel l hfl D ct S ws ph xx x w sp sv bu ns bl le p1 _ hT h_w h_sp h_sv hph hy1) (cm_V 1 hts kc_X10_needChannel ki_RX10 kl_RX10_172 kv_X10_needChannel kx_X10_needChannel kd_X10_needChannel ⟨Nat.le_of_ble_eq_true rfl, Nat.le_of_ble_eq_true rfl⟩) (ty_preE (wr := []) (wc := ([(ty_XO x w sp sv bu bl le)] ++ ws)) (ci := 10) (q0 := 0) hP hK hD hS hA hX rfl rfl) rfl rfl hl.1 rfl (lv_room (Nat.le_of_ble_eq_true rfl)) dX10_warnings_2 ⟨Nat.le_of_ble_eq_true rfl, Nat.le_of_ble_eq_true rfl⟩) hP hD hS hA (fun E ce q9 u H locs hu hE hP hD hS hce hcv hcl => ?_) (fun r_1 u H locs hw_2 hP hD hS => ?_)
  · obtain ⟨ws_3, rfl⟩ : ∃ z, z = u := ⟨_, rfl⟩
    have hT := hu
    have hP : va_P D vwCl ([(ty_XO x w sp sv bu bl le)] ++ ws_3) H := hP
    have hD : va_D A ([(ty_XO x w sp sv bu bl le)] ++ ws_3) := hD
    exact vx_out (fun x hx => (hex x hx).elim) hlocks hce hcv hcl (fun t ht hW => ⟨ws_3, hT, ⟨hE, by rw [ht]; exact hP, by rw [hAe]; exact hD⟩, hS.F ht⟩) hS.2.2 (Nat.le_of_ble_eq_true rfl) (Nat.le_of_ble_eq_true rfl)
  · obtain ⟨ws_4, rfl⟩ : ∃ z, z = u := ⟨_, rfl⟩
    obtain ⟨hT, hq_5⟩ := hw_2
    have hP : va_P D vwCl ([(ty_XO x w sp sv bu bl le)] ++ ws_4) H := hP
    have hD : va_D A ([(ty_XO x w sp sv bu bl le)] ++ ws_4) := hD
    refine W.widen (k := 1) (n := 6) (Nat.le_of_ble_eq_true rfl) (Nat.le_of_ble_eq_true rfl) ?_
    obtain ⟨a_6, rfl, ha_7⟩ := hq_5
    refine W.eq (g2 := F0 m 5 ls (.ref a_6 :: [])) rfl ?_
    refine ty_getN (E := [(ty_XO x w sp sv bu bl le)]) (ws := ws_4) (D := D) (ci := 1) (C := RX1) (T := TX1) (N := 14) hx hb hts in_X1 hown hK hP hT ha_7 rfl 2 (by decide) (hts _ kl_RX10_267) (fun _ h9 => h9) rfl dX10_warnings_5 (fun _ hv_8 hf_9 => ?_)
    obtain ⟨a_10, rfl, ha_11⟩ := hv_8
    refine ty_getN (E := [(ty_XO x w sp sv bu bl le)]) (ws := ws_4) (D := D) (ci := 4) (C := RX4) (T := TX4) (N := 7) hx hb hts in_X4 hown hK hP hT ha_11 rfl 5 (by decide) (hts _ kl_RX10_285) (fun _ h9 => h9) rfl dX10_warnings_8 (fun _ hv_12 hf_13 => ?_)
    obtain ⟨x_14, rfl⟩ := hv_12
    refine vx_ret ?_
    exact W.iret (v := x_14) hx hb hr (fun t ht hW => ⟨⟨x_14, ws_4, rfl, hT, by rw [ht]; exact hP, by rw [hAe]; exact hD⟩, hS.F ht⟩) hS.2.2 dX10_warnings_11
theorem dX10_warned_0 : decode cX10_warned 0 = .ok (.aload_n 0, 1) := by decide +kernel
theorem dX10_warned_1 : decode cX10_warned 1 = .ok (.iload_n 1, 1) := by decide +kernel
theorem dX10_warned_2 : decode cX10_warned 2 = .ok (.invokevirtual 172, 3) := by decide +kernel
theorem dX10_warned_5 : decode cX10_warned 5 = .ok (.getfield 267, 3) := by decide +kernel
theorem dX10_warned_8 : decode cX10_warned 8 = .ok (.getfield 288, 3) := by decide +kernel
theorem dX10_warned_11 : decode cX10_warned 11 = .ok (.ireturn, 1) := by decide +kernel
set_option maxRecDepth 100000 in
set_option maxHeartbeats 4000000 in
theorem t_X10_warned (l : Launch) (hfl : l.stackTraces = false) (D : va_G) (ct : Nat → ClassId) (S : ty_S) (ws : va_W) (ph : va_W → Prop) (xx : Nat → Nat → Nat → Prop) (x : Nat) (w : Nat) (sp : Nat) (sv : Nat) (bu : Nat) (ns : Nat) (bl : Int32) (le : Int32) (p1 : Int32) (sz : Nat) (hT : ty_V ct S ph ws) (h_w : S w = some (.inl 9)) (h_sp : S sp = some (.inl 9)) (h_sv : S sv = some (.inr (4, ns))) (hph : ty_C ph xx) (hy1 : ty_y1 xx) : vx_Met l yX10_warned (ws_ yX10_warned cX10_warned 2 (some .int)) ({ frames := 7, cells := 1, slots := 6, locals := 112 } : Room) (va_Pc [.ref x, .int p1] (cmP D ct sz ([(ty_XO x w sp sv bu bl le)] ++ ws))) (va_Qi (fun (r : Int32) (u9 : va_W) => ty_V ct S ph u9) (cmB D ([(ty_XO x w sp sv bu bl le)] ++ ws) sz (fun (u9 : va_W) => ([(ty_XO x w sp sv bu bl le)] ++ u9))) (va_A ([(ty_XO x w sp sv bu bl le)] ++ ws) sz)) (vx_X (fun (u9 : va_W) => ty_V ct S ph u9) (cmBY D ([(ty_XO x w sp sv bu bl le)] ++ ws) sz ["java/lang/IndexOutOfBoundsException"] (fun (u9 : va_W) => ([(ty_XO x w sp sv bu bl le)] ++ u9))) (va_A ([(ty_XO x w sp sv bu bl le)] ++ ws) sz)) 1 6 (va_A ([(ty_XO x w sp sv bu bl le)] ++ ws) sz) := by
  refine vx_ofW (cc := cX10_warned) (maxL := 2) (ret := (some .int)) (by decide) rfl ?_
  intro p e s m args below meth c s₁ B hml hex hv
  obtain ⟨rfl, hsz, hP, hK, hD0, hX⟩ := hv
  have hx := B.exec
  have hb := B.bytes
  have hr := B.returns
  have hts := ws_all (atoms_spec (ws := ws_ yX10_warned cX10_warned 2 (some .int)) B.pre)
  have hown : s.vm.findClass RX10 = some m.cls := findClass_of_methodNamed B.named
  have hlocks := B.notSynchronized
  subst hsz
  have hD := hD0.self (sz := s.heap.size)
  generalize hAe : va_A ([(ty_XO x w sp sv bu bl le)] ++ ws) s.heap.size = A at hD hX ⊢
  have hA : ∀ q : Nat, s.heap.size ≤ q → A q := fun q h => by rw [← hAe]; exact Or.inr h
  have hS : va_S A s.heap s.heap [] := va_S.rf
  have hl := lv_entry ([.ref x, .int p1]) (n := 2) (Nat.le_of_ble_eq_true rfl)
  rw [lg_entry_eq]
  generalize (lg_sl ([.ref x, .int p1]) ++ List.replicate (2 - (lg_sl ([.ref x, .int p1])).length) Slot.unset).toArray = ls at hl ⊢
  have hl : lv_has ls 2 [(0, .ref x), (1, .int p1)] := hl
  refine lv_aload_n hx hb dX10_warned_0 rfl (lv_at hl 0 rfl) ?_
  refine lv_iload_n hx hb dX10_warned_1 rfl (lv_at hl 1 rfl) ?_
  refine ty_xq (wr := []) (wc := ([(ty_XO x w sp sv bu bl le)] ++ ws)) (vx_runV (As := [.int p1]) (rest := []) ⟨hx, hb, hml, hown, hts⟩ (t_X10_needChannel l hfl D ct S ws ph xx x w sp sv bu ns bl le p1 _ hT h_w h_sp h_sv hph hy1) (cm_V 1 hts kc_X10_needChannel ki_RX10 kl_RX10_172 kv_X10_needChannel kx_X10_needChannel kd_X10_needChannel ⟨Nat.le_of_ble_eq_true rfl, Nat.le_of_ble_eq_true rfl⟩) (ty_preE (wr := []) (wc := ([(ty_XO x w sp sv bu bl le)] ++ ws)) (ci := 10) (q0 := 0) hP hK hD hS hA hX rfl rfl) rfl rfl hl.1 rfl (lv_room (Nat.le_of_ble_eq_true rfl)) dX10_warned_2 ⟨Nat.le_of_ble_eq_true rfl, Nat.le_of_ble_eq_true rfl⟩) hP hD hS hA (fun E ce q9 u H locs hu hE hP hD hS hce hcv hcl => ?_) (fun r_1 u H locs hw_2 hP hD hS => ?_)
  · obtain ⟨ws_3, rfl⟩ : ∃ z, z = u := ⟨_, rfl⟩
    have hT := hu
    have hP : va_P D vwCl ([(ty_XO x w sp sv bu bl le)] ++ ws_3) H := hP
    have hD : va_D A ([(ty_XO x w sp sv bu bl le)] ++ ws_3) := hD
    exact vx_out (fun x hx => (hex x hx).elim) hlocks hce hcv hcl (fun t ht hW => ⟨ws_3, hT, ⟨hE, by rw [ht]; exact hP, by rw [hAe]; exact hD⟩, hS.F ht⟩) hS.2.2 (Nat.le_of_ble_eq_true rfl) (Nat.le_of_ble_eq_true rfl)
  · obtain ⟨ws_4, rfl⟩ : ∃ z, z = u := ⟨_, rfl⟩
    obtain ⟨hT, hq_5⟩ := hw_2
    have hP : va_P D vwCl ([(ty_XO x w sp sv bu bl le)] ++ ws_4) H := hP
    have hD : va_D A ([(ty_XO x w sp sv bu bl le)] ++ ws_4) := hD
    refine W.widen (k := 1) (n := 6) (Nat.le_of_ble_eq_true rfl) (Nat.le_of_ble_eq_true rfl) ?_
    obtain ⟨a_6, rfl, ha_7⟩ := hq_5
    refine W.eq (g2 := F0 m 5 ls (.ref a_6 :: [])) rfl ?_
    refine ty_getN (E := [(ty_XO x w sp sv bu bl le)]) (ws := ws_4) (D := D) (ci := 1) (C := RX1) (T := TX1) (N := 14) hx hb hts in_X1 hown hK hP hT ha_7 rfl 2 (by decide) (hts _ kl_RX10_267) (fun _ h9 => h9) rfl dX10_warned_5 (fun _ hv_8 hf_9 => ?_)
    obtain ⟨a_10, rfl, ha_11⟩ := hv_8
    refine ty_getN (E := [(ty_XO x w sp sv bu bl le)]) (ws := ws_4) (D := D) (ci := 4) (C := RX4) (T := TX4) (N := 7) hx hb hts in_X4 hown hK hP hT ha_11 rfl 4 (by decide) (hts _ kl_RX10_288) (fun _ h9 => h9) rfl dX10_warned_8 (fun _ hv_12 hf_13 => ?_)
    obtain ⟨x_14, rfl⟩ := hv_12
    refine vx_ret ?_
    exact W.iret (v := x_14) hx hb hr (fun t ht hW => ⟨⟨x_14, ws_4, rfl, hT, by rw [ht]; exact hP, by rw [hAe]; exact hD⟩, hS.F ht⟩) hS.2.2 dX10_warned_11
theorem dX10_repeats_0 : decode cX10_repeats 0 = .ok (.aload_n 0, 1) := by decide +kernel
theorem dX10_repeats_1 : decode cX10_repeats 1 = .ok (.iload_n 1, 1) := by decide +kernel
theorem dX10_repeats_2 : decode cX10_repeats 2 = .ok (.invokevirtual 172, 3) := by decide +kernel
theorem dX10_repeats_5 : decode cX10_repeats 5 = .ok (.getfield 291, 3) := by decide +kernel
theorem dX10_repeats_8 : decode cX10_repeats 8 = .ok (.iload_n 2, 1) := by decide +kernel
theorem dX10_repeats_9 : decode cX10_repeats 9 = .ok (.invokestatic 216, 3) := by decide +kernel
theorem dX10_repeats_12 : decode cX10_repeats 12 = .ok (.ireturn, 1) := by decide +kernel
set_option maxRecDepth 100000 in
set_option maxHeartbeats 4000000 in
theorem t_X10_repeats (l : Launch) (hfl : l.stackTraces = false) (D : va_G) (ct : Nat → ClassId) (S : ty_S) (ws : va_W) (ph : va_W → Prop) (xx : Nat → Nat → Nat → Prop) (x : Nat) (w : Nat) (sp : Nat) (sv : Nat) (bu : Nat) (ns : Nat) (bl : Int32) (le : Int32) (p1 : Int32) (p2 : Int32) (sz : Nat) (hT : ty_V ct S ph ws) (h_w : S w = some (.inl 9)) (h_sp : S sp = some (.inl 9)) (h_sv : S sv = some (.inr (4, ns))) (hph : ty_C ph xx) (hy1 : ty_y1 xx) : vx_Met l yX10_repeats (ws_ yX10_repeats cX10_repeats 3 (some .int)) ({ frames := 7, cells := 1, slots := 6, locals := 112 } : Room) (va_Pc [.ref x, .int p1, .int p2] (cmP D ct sz ([(ty_XO x w sp sv bu bl le)] ++ ws))) (va_Qi (fun (r : Int32) (u9 : va_W) => ty_V ct S ph u9) (cmB D ([(ty_XO x w sp sv bu bl le)] ++ ws) sz (fun (u9 : va_W) => ([(ty_XO x w sp sv bu bl le)] ++ u9))) (va_A ([(ty_XO x w sp sv bu bl le)] ++ ws) sz)) (vx_X (fun (u9 : va_W) => ty_V ct S ph u9) (cmBY D ([(ty_XO x w sp sv bu bl le)] ++ ws) sz ["java/lang/IndexOutOfBoundsException"] (fun (u9 : va_W) => ([(ty_XO x w sp sv bu bl le)] ++ u9))) (va_A ([(ty_XO x w sp sv bu bl le)] ++ ws) sz)) 1 6 (va_A ([(ty_XO x w sp sv bu bl le)] ++ ws) sz) := by
  refine vx_ofW (cc := cX10_repeats) (maxL := 3) (ret := (some .int)) (by decide) rfl ?_
  intro p e s m args below meth c s₁ B hml hex hv
  obtain ⟨rfl, hsz, hP, hK, hD0, hX⟩ := hv
  have hx := B.exec
  have hb := B.bytes
  have hr := B.returns
  have hts := ws_all (atoms_spec (ws := ws_ yX10_repeats cX10_repeats 3 (some .int)) B.pre)
  have hown : s.vm.findClass RX10 = some m.cls := findClass_of_methodNamed B.named
  have hlocks := B.notSynchronized
  subst hsz
  have hD := hD0.self (sz := s.heap.size)
  generalize hAe : va_A ([(ty_XO x w sp sv bu bl le)] ++ ws) s.heap.size = A at hD hX ⊢
  have hA : ∀ q : Nat, s.heap.size ≤ q → A q := fun q h => by rw [← hAe]; exact Or.inr h
  have hS : va_S A s.heap s.heap [] := va_S.rf
  have hl := lv_entry ([.ref x, .int p1, .int p2]) (n := 3) (Nat.le_of_ble_eq_true rfl)
  rw [lg_entry_eq]
  generalize (lg_sl ([.ref x, .int p1, .int p2]) ++ List.replicate (3 - (lg_sl ([.ref x, .int p1, .int p2])).length) Slot.unset).toArray = ls at hl ⊢
  have hl : lv_has ls 3 [(0, .ref x), (1, .int p1), (2, .int p2)] := hl
  refine lv_aload_n hx hb dX10_repeats_0 rfl (lv_at hl 0 rfl) ?_
  refine lv_iload_n hx hb dX10_repeats_1 rfl (lv_at hl 1 rfl) ?_
  refine ty_xq (wr := []) (wc := ([(ty_XO x w sp sv bu bl le)] ++ ws)) (vx_runV (As := [.int p1]) (rest := []) ⟨hx, hb, hml, hown, hts⟩ (t_X10_needChannel l hfl D ct S ws ph xx x w sp sv bu ns bl le p1 _ hT h_w h_sp h_sv hph hy1) (cm_V 1 hts kc_X10_needChannel ki_RX10 kl_RX10_172 kv_X10_needChannel kx_X10_needChannel kd_X10_needChannel ⟨Nat.le_of_ble_eq_true rfl, Nat.le_of_ble_eq_true rfl⟩) (ty_preE (wr := []) (wc := ([(ty_XO x w sp sv bu bl le)] ++ ws)) (ci := 10) (q0 := 0) hP hK hD hS hA hX rfl rfl) rfl rfl hl.1 rfl (lv_room (Nat.le_of_ble_eq_true rfl)) dX10_repeats_2 ⟨Nat.le_of_ble_eq_true rfl, Nat.le_of_ble_eq_true rfl⟩) hP hD hS hA (fun E ce q9 u H locs hu hE hP hD hS hce hcv hcl => ?_) (fun r_1 u H locs hw_2 hP hD hS => ?_)
  · obtain ⟨ws_3, rfl⟩ : ∃ z, z = u := ⟨_, rfl⟩
    have hT := hu
    have hP : va_P D vwCl ([(ty_XO x w sp sv bu bl le)] ++ ws_3) H := hP
    have hD : va_D A ([(ty_XO x w sp sv bu bl le)] ++ ws_3) := hD
    exact vx_out (fun x hx => (hex x hx).elim) hlocks hce hcv hcl (fun t ht hW => ⟨ws_3, hT, ⟨hE, by rw [ht]; exact hP, by rw [hAe]; exact hD⟩, hS.F ht⟩) hS.2.2 (Nat.le_of_ble_eq_true rfl) (Nat.le_of_ble_eq_true rfl)
  · obtain ⟨ws_4, rfl⟩ : ∃ z, z = u := ⟨_, rfl⟩
    obtain ⟨hT, hq_5⟩ := hw_2
    have hP : va_P D vwCl ([(ty_XO x w sp sv bu bl le)] ++ ws_4) H := hP
    have hD : va_D A ([(ty_XO x w sp sv bu bl le)] ++ ws_4) := hD
    refine W.widen (k := 1) (n := 6) (Nat.le_of_ble_eq_true rfl) (Nat.le_of_ble_eq_true rfl) ?_
    obtain ⟨a_6, rfl, ha_7⟩ := hq_5
    refine W.eq (g2 := F0 m 5 ls (.ref a_6 :: [])) rfl ?_
    refine ty_getN (E := [(ty_XO x w sp sv bu bl le)]) (ws := ws_4) (D := D) (ci := 1) (C := RX1) (T := TX1) (N := 14) hx hb hts in_X1 hown hK hP hT ha_7 rfl 7 (by decide) (hts _ kl_RX10_291) (fun _ h9 => h9) rfl dX10_repeats_5 (fun _ hv_8 hf_9 => ?_)
    obtain ⟨a_10, n_11, rfl, ha_12⟩ := hv_8
    refine lv_iload_n hx hb dX10_repeats_8 rfl (lv_at hl 2 rfl) ?_
    refine ty_ki (wr := [(ty_XO x w sp sv bu bl le)]) (wc := ([] ++ ws_4)) (va_runS (As := [.ref a_10, .int p2]) (rest := []) ⟨hx, hb, hml, hown, hts⟩ (t_X10_at l D ct S ws_4 ph xx a_10 n_11 p2 _ hT ha_12 hph hy1) (cm_S 2 hts kc_X10_at ki_RX10 kl_RX10_216 ks_X10_at kd_X10_at ⟨Nat.le_of_ble_eq_true rfl, Nat.le_of_ble_eq_true rfl⟩) (ty_preS (wr := [(ty_XO x w sp sv bu bl le)]) (wc := ([] ++ ws_4)) hP hK hD hS hA hX) rfl rfl hl.1 rfl (lv_room (Nat.le_of_ble_eq_true rfl)) dX10_repeats_9 ⟨Nat.le_of_ble_eq_true rfl, Nat.le_of_ble_eq_true rfl⟩) hP hD hS hA (fun r_13 u H locs hw_14 hP hD hS => ?_)
    obtain ⟨ws_15, rfl⟩ : ∃ z, z = u := ⟨_, rfl⟩
    have hT := hw_14
    have hP : va_P D vwCl ([(ty_XO x w sp sv bu bl le)] ++ ws_15) H := hP
    have hD : va_D A ([(ty_XO x w sp sv bu bl le)] ++ ws_15) := hD
    refine vx_ret ?_
    exact W.iret (v := r_13) hx hb hr (fun t ht hW => ⟨⟨r_13, ws_15, rfl, hT, by rw [ht]; exact hP, by rw [hAe]; exact hD⟩, hS.F ht⟩) hS.2.2 dX10_repeats_12
