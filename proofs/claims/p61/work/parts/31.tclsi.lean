theorem dX10_stepEndsIn_0 : decode cX10_stepEndsIn 0 = .ok (.aload_n 0, 1) := by decide +kernel
theorem dX10_stepEndsIn_1 : decode cX10_stepEndsIn 1 = .ok (.iload_n 1, 1) := by decide +kernel
theorem dX10_stepEndsIn_2 : decode cX10_stepEndsIn 2 = .ok (.invokevirtual 321, 3) := by decide +kernel
theorem dX10_stepEndsIn_5 : decode cX10_stepEndsIn 5 = .ok (.astore_n 2, 1) := by decide +kernel
theorem dX10_stepEndsIn_6 : decode cX10_stepEndsIn 6 = .ok (.iconst 1, 1) := by decide +kernel
theorem dX10_stepEndsIn_7 : decode cX10_stepEndsIn 7 = .ok (.istore_n 3, 1) := by decide +kernel
theorem dX10_stepEndsIn_8 : decode cX10_stepEndsIn 8 = .ok (.iload_n 3, 1) := by decide +kernel
theorem dX10_stepEndsIn_9 : decode cX10_stepEndsIn 9 = .ok (.sipush 20000, 3) := by decide +kernel
theorem dX10_stepEndsIn_12 : decode cX10_stepEndsIn 12 = .ok (.if_icmp .gt 30, 3) := by decide +kernel
theorem dX10_stepEndsIn_15 : decode cX10_stepEndsIn 15 = .ok (.aload_n 2, 1) := by decide +kernel
theorem dX10_stepEndsIn_16 : decode cX10_stepEndsIn 16 = .ok (.getfield 129, 3) := by decide +kernel
theorem dX10_stepEndsIn_19 : decode cX10_stepEndsIn 19 = .ok (.iconst 1, 1) := by decide +kernel
theorem dX10_stepEndsIn_20 : decode cX10_stepEndsIn 20 = .ok (.if_icmp .ne 22, 3) := by decide +kernel
theorem dX10_stepEndsIn_23 : decode cX10_stepEndsIn 23 = .ok (.aload_n 2, 1) := by decide +kernel
theorem dX10_stepEndsIn_24 : decode cX10_stepEndsIn 24 = .ok (.aload_n 0, 1) := by decide +kernel
theorem dX10_stepEndsIn_25 : decode cX10_stepEndsIn 25 = .ok (.getfield 16, 3) := by decide +kernel
theorem dX10_stepEndsIn_28 : decode cX10_stepEndsIn 28 = .ok (.invokevirtual 168, 3) := by decide +kernel
theorem dX10_stepEndsIn_31 : decode cX10_stepEndsIn 31 = .ok (.ifCond .eq 5, 3) := by decide +kernel
theorem dX10_stepEndsIn_34 : decode cX10_stepEndsIn 34 = .ok (.iload_n 3, 1) := by decide +kernel
theorem dX10_stepEndsIn_35 : decode cX10_stepEndsIn 35 = .ok (.ireturn, 1) := by decide +kernel
theorem dX10_stepEndsIn_36 : decode cX10_stepEndsIn 36 = .ok (.iinc 3 1, 3) := by decide +kernel
theorem dX10_stepEndsIn_39 : decode cX10_stepEndsIn 39 = .ok (.goto (-31), 3) := by decide +kernel
theorem dX10_stepEndsIn_42 : decode cX10_stepEndsIn 42 = .ok (.iconst (-1), 1) := by decide +kernel
theorem dX10_stepEndsIn_43 : decode cX10_stepEndsIn 43 = .ok (.ireturn, 1) := by decide +kernel
set_option maxRecDepth 100000 in
set_option maxHeartbeats 4000000 in
theorem t_X10_stepEndsIn (l : Launch) (hfl : l.stackTraces = false) (D : va_G) (ct : Nat → ClassId) (S : ty_S) (ws : va_W) (ph : va_W → Prop) (xx : Nat → Nat → Nat → Prop) (x : Nat) (w : Nat) (sp : Nat) (sv : Nat) (bu : Nat) (ns : Nat) (bl : Int32) (le : Int32) (p1 : Int32) (sz : Nat) (hT : ty_V ct S ph ws) (h_w : S w = some (.inl 9)) (h_sp : S sp = some (.inl 9)) (h_sv : S sv = some (.inr (4, ns))) (hph : ty_C ph xx) (hy1 : ty_y1 xx) (hy2 : ty_y0 xx 2) (hy5 : ty_y0 xx 5) (hy7 : ty_yc xx 7) (hy11 : ty_y0 xx 11) (hys : xx 9 0 sp ∧ xx 9 4 sp) : vx_Met l yX10_stepEndsIn (ws_ yX10_stepEndsIn cX10_stepEndsIn 4 (some .int)) ({ frames := 7, cells := 1, slots := 6, locals := 189 } : Room) (va_Pc [.ref x, .int p1] (cmP D ct sz ([(ty_XO x w sp sv bu bl le)] ++ ws))) (va_Qi (fun (r : Int32) (u9 : va_W) => ty_V ct S ph u9) (cmB D ([(ty_XO x w sp sv bu bl le)] ++ ws) sz (fun (u9 : va_W) => ([(ty_XO x w sp sv bu bl le)] ++ u9))) (va_A ([(ty_XO x w sp sv bu bl le)] ++ ws) sz)) (vx_X (fun (u9 : va_W) => ty_V ct S ph u9) (cmBY D ([(ty_XO x w sp sv bu bl le)] ++ ws) sz ["java/lang/IndexOutOfBoundsException"] (fun (u9 : va_W) => ([(ty_XO x w sp sv bu bl le)] ++ u9))) (va_A ([(ty_XO x w sp sv bu bl le)] ++ ws) sz)) 1 6 (va_A ([(ty_XO x w sp sv bu bl le)] ++ ws) sz) := by
  refine vx_ofW (cc := cX10_stepEndsIn) (maxL := 4) (ret := (some .int)) (by decide) rfl ?_
  intro p e s m args below meth c s₁ B hml hex hv
  obtain ⟨rfl, hsz, hP, hK, hD0, hX⟩ := hv
  have hx := B.exec
  have hb := B.bytes
  have hr := B.returns
  have hts := ws_all (atoms_spec (ws := ws_ yX10_stepEndsIn cX10_stepEndsIn 4 (some .int)) B.pre)
  have hown : s.vm.findClass RX10 = some m.cls := findClass_of_methodNamed B.named
  have hlocks := B.notSynchronized
  subst hsz
  have hD := hD0.self (sz := s.heap.size)
  generalize hAe : va_A ([(ty_XO x w sp sv bu bl le)] ++ ws) s.heap.size = A at hD hX ⊢
  have hA : ∀ q : Nat, s.heap.size ≤ q → A q := fun q h => by rw [← hAe]; exact Or.inr h
  have hS : va_S A s.heap s.heap [] := va_S.rf
  have hl := lv_entry ([.ref x, .int p1]) (n := 4) (Nat.le_of_ble_eq_true rfl)
  rw [lg_entry_eq]
  generalize (lg_sl ([.ref x, .int p1]) ++ List.replicate (4 - (lg_sl ([.ref x, .int p1])).length) Slot.unset).toArray = ls at hl ⊢
  have hl : lv_has ls 4 [(0, .ref x), (1, .int p1)] := hl
  refine lv_aload_n hx hb dX10_stepEndsIn_0 rfl (lv_at hl 0 rfl) ?_
  refine lv_iload_n hx hb dX10_stepEndsIn_1 rfl (lv_at hl 1 rfl) ?_
  refine ty_xq (wr := []) (wc := ([(ty_XO x w sp sv bu bl le)] ++ ws)) (vx_runV (As := [.int p1]) (rest := []) ⟨hx, hb, hml, hown, hts⟩ (t_X10_needTrial l hfl D ct S ws ph xx x w sp sv bu ns bl le p1 _ hT h_w h_sp h_sv hph hy1 hy2 hy5 hy7 hy11 hys) (cm_V 1 hts kc_X10_needTrial ki_RX10 kl_RX10_321 kv_X10_needTrial kx_X10_needTrial kd_X10_needTrial ⟨Nat.le_of_ble_eq_true rfl, Nat.le_of_ble_eq_true rfl⟩) (ty_preE (wr := []) (wc := ([(ty_XO x w sp sv bu bl le)] ++ ws)) (ci := 10) (q0 := 0) hP hK hD hS hA hX rfl rfl) rfl rfl hl.1 rfl (lv_room (Nat.le_of_ble_eq_true rfl)) dX10_stepEndsIn_2 ⟨Nat.le_of_ble_eq_true rfl, Nat.le_of_ble_eq_true rfl⟩) hP hD hS hA (fun E ce q9 u H locs hu hE hP hD hS hce hcv hcl => ?_) (fun r_1 u H locs hw_2 hP hD hS => ?_)
  · obtain ⟨ws_3, rfl⟩ : ∃ z, z = u := ⟨_, rfl⟩
    have hT := hu
    have hP : va_P D vwCl ([(ty_XO x w sp sv bu bl le)] ++ ws_3) H := hP
    have hD : va_D A ([(ty_XO x w sp sv bu bl le)] ++ ws_3) := hD
    exact vx_out (fun x hx => (hex x hx).elim) hlocks hce hcv hcl (fun t ht hW => ⟨ws_3, hT, ⟨hE, by rw [ht]; exact hP, by rw [hAe]; exact hD⟩, hS.F ht⟩) hS.2.2 (Nat.le_of_ble_eq_true rfl) (Nat.le_of_ble_eq_true rfl)
  · obtain ⟨ws_4, rfl⟩ : ∃ z, z = u := ⟨_, rfl⟩
    obtain ⟨hT, hq_5⟩ := hw_2
    have hP : va_P D vwCl ([(ty_XO x w sp sv bu bl le)] ++ ws_4) H := hP
    have hD : va_D A ([(ty_XO x w sp sv bu bl le)] ++ ws_4) := hD
    refine W.widen (k := 1) (n := 6) (Nat.le_of_ble_eq_true rfl) (Nat.le_of_ble_eq_true rfl) ?_
    obtain ⟨a_6, rfl, ha_7⟩ := hq_5
    refine W.eq (g2 := F0 m 5 ls (.ref a_6 :: [])) rfl ?_
    refine lv_astore_n (lv' := [(2, .ref a_6), (0, .ref x), (1, .int p1)]) hx hb dX10_stepEndsIn_5 rfl hl (by decide) rfl (fun ls hl => ?_)
    refine lv_iconst (v := 1) hx hb dX10_stepEndsIn_6 (by decide) ?_
    refine lv_istore_n (lv' := [(3, .int 1), (2, .ref a_6), (0, .ref x), (1, .int p1)]) hx hb dX10_stepEndsIn_7 rfl hl (by decide) rfl (fun ls hl => ?_)
    refine ty_loop (I := fun μ H locs ls => ∃ (ws : va_W) (y_8 : Int32), μ = (2147483648 - y_8.toInt).toNat ∧ ty_V ct S ph ws ∧ va_P D vwCl ([(ty_XO x w sp sv bu bl le)] ++ ws) H ∧ va_D A ([(ty_XO x w sp sv bu bl le)] ++ ws) ∧ va_S A s.heap H locs ∧ lv_has ls 4 [(0, .ref x), (1, .int p1), (2, .ref a_6), (3, .int y_8)]) ⟨_, ws_4, (1 : Int32), rfl, hT, hP, hD, hS, (lv_sub hl [2, 3, 1, 0] rfl)⟩ (fun μ H locs ls hI ih_8 => ?_)
    obtain ⟨ws, y_8, rfl, hT, hP, hD, hS, hl⟩ := hI
    refine lv_iload_n hx hb dX10_stepEndsIn_8 rfl (lv_at hl 3 rfl) ?_
    refine lv_sipush (v := 20000) hx hb dX10_stepEndsIn_9 (by decide) ?_
    refine lv_icmp_gt (tgt := 42) hx hb dX10_stepEndsIn_12 (by decide) (fun hc_9 => ?_) (fun hc_9 => ?_)
    · refine lv_iconst (v := (-1)) hx hb dX10_stepEndsIn_42 (by decide) ?_
      refine vx_ret ?_
      exact W.iret (v := (-1)) hx hb hr (fun t ht hW => ⟨⟨(-1), ws, rfl, hT, by rw [ht]; exact hP, by rw [hAe]; exact hD⟩, hS.F ht⟩) hS.2.2 dX10_stepEndsIn_43
    · refine lv_aload_n hx hb dX10_stepEndsIn_15 rfl (lv_at hl 2 rfl) ?_
      refine ty_getN (E := [(ty_XO x w sp sv bu bl le)]) (ws := ws) (D := D) (ci := 1) (C := RX1) (T := TX1) (N := 14) hx hb hts in_X1 hown hK hP hT ha_7 rfl 3 (by decide) (hts _ kl_RX10_129) (fun _ h9 => h9) rfl dX10_stepEndsIn_16 (fun _ hv_10 hf_11 => ?_)
      obtain ⟨x_12, rfl⟩ := hv_10
      refine lv_iconst (v := 1) hx hb dX10_stepEndsIn_19 (by decide) ?_
      refine lv_icmp_ne (tgt := 42) hx hb dX10_stepEndsIn_20 (by decide) (fun hc_13 => ?_) (fun hc_13 => ?_)
      · refine lv_iconst (v := (-1)) hx hb dX10_stepEndsIn_42 (by decide) ?_
        refine vx_ret ?_
        exact W.iret (v := (-1)) hx hb hr (fun t ht hW => ⟨⟨(-1), ws, rfl, hT, by rw [ht]; exact hP, by rw [hAe]; exact hD⟩, hS.F ht⟩) hS.2.2 dX10_stepEndsIn_43
      · refine lv_aload_n hx hb dX10_stepEndsIn_23 rfl (lv_at hl 2 rfl) ?_
        refine lv_aload_n hx hb dX10_stepEndsIn_24 rfl (lv_at hl 0 rfl) ?_
        refine va_get (v := .ref sp) (D := D) (ci := 10) (C := RX10) (T := TX10) (N := 6) hx hb hts in_X10 hown hK hP 0 rfl rfl 1 (by decide) (hts _ kl_RX10_16) (fun _ h9 => h9) rfl dX10_stepEndsIn_25 ?_
        refine ty_ki (wr := [(ty_XO x w sp sv bu bl le)]) (wc := ([] ++ ws)) (va_runVN (As := [.ref sp]) (rest := []) ⟨hx, hb, hml, hown, hts⟩ (t_X1_passTick l D ct S ws ph xx a_6 sp _ hT ha_7 h_sp hph hy1) (cm_VN 1 hts kc_X1_passTick ki_RX1 kl_RX10_168 kv_X1_passTick kx_X1_passTick kd_X1_passTick ⟨Nat.le_of_ble_eq_true rfl, Nat.le_of_ble_eq_true rfl⟩) (ty_preV (wr := [(ty_XO x w sp sv bu bl le)]) (E := []) (ws := ws) (ci := 1) hP hK hD hS hA hX hT rfl ha_7) rfl rfl hl.1 rfl (lv_room (Nat.le_of_ble_eq_true rfl)) dX10_stepEndsIn_28 ⟨Nat.le_of_ble_eq_true rfl, Nat.le_of_ble_eq_true rfl⟩) hP hD hS hA (fun r_14 u H locs hw_15 hP hD hS => ?_)
        obtain ⟨ws_16, rfl⟩ : ∃ z, z = u := ⟨_, rfl⟩
        have hT := hw_15
        have hP : va_P D vwCl ([(ty_XO x w sp sv bu bl le)] ++ ws_16) H := hP
        have hD : va_D A ([(ty_XO x w sp sv bu bl le)] ++ ws_16) := hD
        refine lv_if_eq (tgt := 36) hx hb dX10_stepEndsIn_31 (by decide) (fun hc_17 => ?_) (fun hc_17 => ?_)
        · refine lv_iinc (v := (y_8 + Int32.ofInt 1)) (lv' := [(3, .int (y_8 + Int32.ofInt 1)), (0, .ref x), (1, .int p1), (2, .ref a_6)]) hx hb dX10_stepEndsIn_36 hl (k := 3) rfl rfl (by decide) rfl (fun ls hl => ?_)
          refine lv_goto (tgt := 8) hx hb dX10_stepEndsIn_39 (by decide) ?_
          exact ih_8 _ _ _ _ (ty_incle hc_9 (by decide)) ⟨ws_16, (y_8 + Int32.ofInt 1), rfl, hT, hP, hD, hS, (lv_sub hl [1, 2, 3, 0] rfl)⟩
        · refine lv_iload_n hx hb dX10_stepEndsIn_34 rfl (lv_at hl 3 rfl) ?_
          refine vx_ret ?_
          exact W.iret (v := y_8) hx hb hr (fun t ht hW => ⟨⟨y_8, ws_16, rfl, hT, by rw [ht]; exact hP, by rw [hAe]; exact hD⟩, hS.F ht⟩) hS.2.2 dX10_stepEndsIn_35
theorem dX10_valueAfter_0 : decode cX10_valueAfter 0 = .ok (.aload_n 0, 1) := by decide +kernel
theorem dX10_valueAfter_1 : decode cX10_valueAfter 1 = .ok (.iload_n 1, 1) := by decide +kernel
theorem dX10_valueAfter_2 : decode cX10_valueAfter 2 = .ok (.invokevirtual 321, 3) := by decide +kernel
theorem dX10_valueAfter_5 : decode cX10_valueAfter 5 = .ok (.astore 4, 2) := by decide +kernel
theorem dX10_valueAfter_7 : decode cX10_valueAfter 7 = .ok (.iload_n 2, 1) := by decide +kernel
theorem dX10_valueAfter_8 : decode cX10_valueAfter 8 = .ok (.iconst 0, 1) := by decide +kernel
theorem dX10_valueAfter_9 : decode cX10_valueAfter 9 = .ok (.bipush 10, 2) := by decide +kernel
theorem dX10_valueAfter_11 : decode cX10_valueAfter 11 = .ok (.invokestatic 81, 3) := by decide +kernel
theorem dX10_valueAfter_14 : decode cX10_valueAfter 14 = .ok (.iload_n 3, 1) := by decide +kernel
theorem dX10_valueAfter_15 : decode cX10_valueAfter 15 = .ok (.iconst 0, 1) := by decide +kernel
theorem dX10_valueAfter_16 : decode cX10_valueAfter 16 = .ok (.sipush 10000, 3) := by decide +kernel
theorem dX10_valueAfter_19 : decode cX10_valueAfter 19 = .ok (.invokestatic 81, 3) := by decide +kernel
theorem dX10_valueAfter_22 : decode cX10_valueAfter 22 = .ok (.iconst 0, 1) := by decide +kernel
theorem dX10_valueAfter_23 : decode cX10_valueAfter 23 = .ok (.istore 5, 2) := by decide +kernel
theorem dX10_valueAfter_25 : decode cX10_valueAfter 25 = .ok (.iload 5, 2) := by decide +kernel
theorem dX10_valueAfter_27 : decode cX10_valueAfter 27 = .ok (.iload_n 3, 1) := by decide +kernel
theorem dX10_valueAfter_28 : decode cX10_valueAfter 28 = .ok (.if_icmp .ge 19, 3) := by decide +kernel
theorem dX10_valueAfter_31 : decode cX10_valueAfter 31 = .ok (.aload 4, 2) := by decide +kernel
theorem dX10_valueAfter_33 : decode cX10_valueAfter 33 = .ok (.aload_n 0, 1) := by decide +kernel
theorem dX10_valueAfter_34 : decode cX10_valueAfter 34 = .ok (.getfield 16, 3) := by decide +kernel
theorem dX10_valueAfter_37 : decode cX10_valueAfter 37 = .ok (.invokevirtual 168, 3) := by decide +kernel
theorem dX10_valueAfter_40 : decode cX10_valueAfter 40 = .ok (.pop, 1) := by decide +kernel
theorem dX10_valueAfter_41 : decode cX10_valueAfter 41 = .ok (.iinc 5 1, 3) := by decide +kernel
theorem dX10_valueAfter_44 : decode cX10_valueAfter 44 = .ok (.goto (-19), 3) := by decide +kernel
theorem dX10_valueAfter_47 : decode cX10_valueAfter 47 = .ok (.aload 4, 2) := by decide +kernel
theorem dX10_valueAfter_49 : decode cX10_valueAfter 49 = .ok (.iload_n 2, 1) := by decide +kernel
theorem dX10_valueAfter_50 : decode cX10_valueAfter 50 = .ok (.invokevirtual 227, 3) := by decide +kernel
theorem dX10_valueAfter_53 : decode cX10_valueAfter 53 = .ok (.ireturn, 1) := by decide +kernel
set_option maxRecDepth 100000 in
set_option maxHeartbeats 4000000 in
theorem t_X10_valueAfter (l : Launch) (hfl : l.stackTraces = false) (D : va_G) (ct : Nat → ClassId) (S : ty_S) (ws : va_W) (ph : va_W → Prop) (xx : Nat → Nat → Nat → Prop) (x : Nat) (w : Nat) (sp : Nat) (sv : Nat) (bu : Nat) (ns : Nat) (bl : Int32) (le : Int32) (p1 : Int32) (p2 : Int32) (p3 : Int32) (sz : Nat) (hT : ty_V ct S ph ws) (h_w : S w = some (.inl 9)) (h_sp : S sp = some (.inl 9)) (h_sv : S sv = some (.inr (4, ns))) (hph : ty_C ph xx) (hy1 : ty_y1 xx) (hy2 : ty_y0 xx 2) (hy5 : ty_y0 xx 5) (hy7 : ty_yc xx 7) (hy11 : ty_y0 xx 11) (hys : xx 9 0 sp ∧ xx 9 4 sp) : vx_Met l yX10_valueAfter (ws_ yX10_valueAfter cX10_valueAfter 6 (some .int)) ({ frames := 7, cells := 3, slots := 18, locals := 189 } : Room) (va_Pc [.ref x, .int p1, .int p2, .int p3] (cmP D ct sz ([(ty_XO x w sp sv bu bl le)] ++ ws))) (va_Qi (fun (r : Int32) (u9 : va_W) => ty_V ct S ph u9) (cmB D ([(ty_XO x w sp sv bu bl le)] ++ ws) sz (fun (u9 : va_W) => ([(ty_XO x w sp sv bu bl le)] ++ u9))) (va_A ([(ty_XO x w sp sv bu bl le)] ++ ws) sz)) (vx_X (fun (u9 : va_W) => ty_V ct S ph u9) (cmBY D ([(ty_XO x w sp sv bu bl le)] ++ ws) sz ["java/lang/IllegalArgumentException", "java/lang/IndexOutOfBoundsException"] (fun (u9 : va_W) => ([(ty_XO x w sp sv bu bl le)] ++ u9))) (va_A ([(ty_XO x w sp sv bu bl le)] ++ ws) sz)) 3 18 (va_A ([(ty_XO x w sp sv bu bl le)] ++ ws) sz) := by
  refine vx_ofW (cc := cX10_valueAfter) (maxL := 6) (ret := (some .int)) (by decide) rfl ?_
  intro p e s m args below meth c s₁ B hml hex hv
  obtain ⟨rfl, hsz, hP, hK, hD0, hX⟩ := hv
  have hx := B.exec
  have hb := B.bytes
  have hr := B.returns
  have hts := ws_all (atoms_spec (ws := ws_ yX10_valueAfter cX10_valueAfter 6 (some .int)) B.pre)
  have hown : s.vm.findClass RX10 = some m.cls := findClass_of_methodNamed B.named
  have hlocks := B.notSynchronized
  subst hsz
  have hD := hD0.self (sz := s.heap.size)
  generalize hAe : va_A ([(ty_XO x w sp sv bu bl le)] ++ ws) s.heap.size = A at hD hX ⊢
  have hA : ∀ q : Nat, s.heap.size ≤ q → A q := fun q h => by rw [← hAe]; exact Or.inr h
  have hS : va_S A s.heap s.heap [] := va_S.rf
  have hl := lv_entry ([.ref x, .int p1, .int p2, .int p3]) (n := 6) (Nat.le_of_ble_eq_true rfl)
  rw [lg_entry_eq]
  generalize (lg_sl ([.ref x, .int p1, .int p2, .int p3]) ++ List.replicate (6 - (lg_sl ([.ref x, .int p1, .int p2, .int p3])).length) Slot.unset).toArray = ls at hl ⊢
  have hl : lv_has ls 6 [(0, .ref x), (1, .int p1), (2, .int p2), (3, .int p3)] := hl
  refine lv_aload_n hx hb dX10_valueAfter_0 rfl (lv_at hl 0 rfl) ?_
  refine lv_iload_n hx hb dX10_valueAfter_1 rfl (lv_at hl 1 rfl) ?_
  refine ty_xq (wr := []) (wc := ([(ty_XO x w sp sv bu bl le)] ++ ws)) (vx_runV (As := [.int p1]) (rest := []) ⟨hx, hb, hml, hown, hts⟩ (t_X10_needTrial l hfl D ct S ws ph xx x w sp sv bu ns bl le p1 _ hT h_w h_sp h_sv hph hy1 hy2 hy5 hy7 hy11 hys) (cm_V 1 hts kc_X10_needTrial ki_RX10 kl_RX10_321 kv_X10_needTrial kx_X10_needTrial kd_X10_needTrial ⟨Nat.le_of_ble_eq_true rfl, Nat.le_of_ble_eq_true rfl⟩) (ty_preE (wr := []) (wc := ([(ty_XO x w sp sv bu bl le)] ++ ws)) (ci := 10) (q0 := 0) hP hK hD hS hA hX rfl rfl) rfl rfl hl.1 rfl (lv_room (Nat.le_of_ble_eq_true rfl)) dX10_valueAfter_2 ⟨Nat.le_of_ble_eq_true rfl, Nat.le_of_ble_eq_true rfl⟩) hP hD hS hA (fun E ce q9 u H locs hu hE hP hD hS hce hcv hcl => ?_) (fun r_1 u H locs hw_2 hP hD hS => ?_)
  · obtain ⟨ws_3, rfl⟩ : ∃ z, z = u := ⟨_, rfl⟩
    have hT := hu
    have hP : va_P D vwCl ([(ty_XO x w sp sv bu bl le)] ++ ws_3) H := hP
    have hD : va_D A ([(ty_XO x w sp sv bu bl le)] ++ ws_3) := hD
    exact vx_out (fun x hx => (hex x hx).elim) hlocks hce hcv hcl (fun t ht hW => ⟨ws_3, hT, ⟨(ty_mem hE (by decide)), by rw [ht]; exact hP, by rw [hAe]; exact hD⟩, hS.F ht⟩) hS.2.2 (Nat.le_of_ble_eq_true rfl) (Nat.le_of_ble_eq_true rfl)
  · obtain ⟨ws_4, rfl⟩ : ∃ z, z = u := ⟨_, rfl⟩
    obtain ⟨hT, hq_5⟩ := hw_2
    have hP : va_P D vwCl ([(ty_XO x w sp sv bu bl le)] ++ ws_4) H := hP
    have hD : va_D A ([(ty_XO x w sp sv bu bl le)] ++ ws_4) := hD
    refine W.widen (k := 1) (n := 6) (Nat.le_of_ble_eq_true rfl) (Nat.le_of_ble_eq_true rfl) ?_
    obtain ⟨a_6, rfl, ha_7⟩ := hq_5
    refine W.eq (g2 := F0 m 5 ls (.ref a_6 :: [])) rfl ?_
    refine lv_astore (lv' := [(4, .ref a_6), (0, .ref x), (1, .int p1), (2, .int p2), (3, .int p3)]) hx hb dX10_valueAfter_5 hl (by decide) rfl (fun ls hl => ?_)
    refine lv_iload_n hx hb dX10_valueAfter_7 rfl (lv_at hl 3 rfl) ?_
    refine lv_iconst (v := 0) hx hb dX10_valueAfter_8 (by decide) ?_
    refine lv_bipush (v := 10) hx hb dX10_valueAfter_9 (by decide) ?_
    refine ty_xv (wr := [(ty_XO x w sp sv bu bl le)]) (wc := ([] ++ ws_4)) (vx_runS (As := [.int p2, .int 0, .int 10]) (rest := []) ⟨hx, hb, hml, hown, hts⟩ (t_X10_needRange l hfl D ct S ws_4 ph xx p2 (0 : Int32) (10 : Int32) _ hT hph hy1) (cm_S 3 hts kc_X10_needRange ki_RX10 kl_RX10_81 ks_X10_needRange kd_X10_needRange ⟨Nat.le_of_ble_eq_true rfl, Nat.le_of_ble_eq_true rfl⟩) (ty_preS (wr := [(ty_XO x w sp sv bu bl le)]) (wc := ([] ++ ws_4)) hP hK hD hS hA hX) rfl rfl hl.1 rfl (lv_room (Nat.le_of_ble_eq_true rfl)) dX10_valueAfter_11 ⟨Nat.le_of_ble_eq_true rfl, Nat.le_of_ble_eq_true rfl⟩) hP hD hS hA (fun E ce q9 u H locs hu hE hP hD hS hce hcv hcl => ?_) (fun u H locs hw_9 hP hD hS => ?_)
    · obtain ⟨ws_10, rfl⟩ : ∃ z, z = u := ⟨_, rfl⟩
      have hT := hu
      have hP : va_P D vwCl ([(ty_XO x w sp sv bu bl le)] ++ ws_10) H := hP
      have hD : va_D A ([(ty_XO x w sp sv bu bl le)] ++ ws_10) := hD
      exact vx_out (fun x hx => (hex x hx).elim) hlocks hce hcv hcl (fun t ht hW => ⟨ws_10, hT, ⟨(ty_mem hE (by decide)), by rw [ht]; exact hP, by rw [hAe]; exact hD⟩, hS.F ht⟩) hS.2.2 (Nat.le_of_ble_eq_true rfl) (Nat.le_of_ble_eq_true rfl)
    · obtain ⟨ws_11, rfl⟩ : ∃ z, z = u := ⟨_, rfl⟩
      have hT := hw_9
      have hP : va_P D vwCl ([(ty_XO x w sp sv bu bl le)] ++ ws_11) H := hP
      have hD : va_D A ([(ty_XO x w sp sv bu bl le)] ++ ws_11) := hD
      refine W.widen (k := 2) (n := 12) (Nat.le_of_ble_eq_true rfl) (Nat.le_of_ble_eq_true rfl) ?_
      refine lv_iload_n hx hb dX10_valueAfter_14 rfl (lv_at hl 4 rfl) ?_
      refine lv_iconst (v := 0) hx hb dX10_valueAfter_15 (by decide) ?_
      refine lv_sipush (v := 10000) hx hb dX10_valueAfter_16 (by decide) ?_
      refine ty_xv (wr := [(ty_XO x w sp sv bu bl le)]) (wc := ([] ++ ws_11)) (vx_runS (As := [.int p3, .int 0, .int 10000]) (rest := []) ⟨hx, hb, hml, hown, hts⟩ (t_X10_needRange l hfl D ct S ws_11 ph xx p3 (0 : Int32) (10000 : Int32) _ hT hph hy1) (cm_S 3 hts kc_X10_needRange ki_RX10 kl_RX10_81 ks_X10_needRange kd_X10_needRange ⟨Nat.le_of_ble_eq_true rfl, Nat.le_of_ble_eq_true rfl⟩) (ty_preS (wr := [(ty_XO x w sp sv bu bl le)]) (wc := ([] ++ ws_11)) hP hK hD hS hA hX) rfl rfl hl.1 rfl (lv_room (Nat.le_of_ble_eq_true rfl)) dX10_valueAfter_19 ⟨Nat.le_of_ble_eq_true rfl, Nat.le_of_ble_eq_true rfl⟩) hP hD hS hA (fun E ce q9 u H locs hu hE hP hD hS hce hcv hcl => ?_) (fun u H locs hw_13 hP hD hS => ?_)
      · obtain ⟨ws_14, rfl⟩ : ∃ z, z = u := ⟨_, rfl⟩
        have hT := hu
        have hP : va_P D vwCl ([(ty_XO x w sp sv bu bl le)] ++ ws_14) H := hP
        have hD : va_D A ([(ty_XO x w sp sv bu bl le)] ++ ws_14) := hD
        exact vx_out (fun x hx => (hex x hx).elim) hlocks hce hcv hcl (fun t ht hW => ⟨ws_14, hT, ⟨(ty_mem hE (by decide)), by rw [ht]; exact hP, by rw [hAe]; exact hD⟩, hS.F ht⟩) hS.2.2 (Nat.le_of_ble_eq_true rfl) (Nat.le_of_ble_eq_true rfl)
      · obtain ⟨ws_15, rfl⟩ : ∃ z, z = u := ⟨_, rfl⟩
        have hT := hw_13
        have hP : va_P D vwCl ([(ty_XO x w sp sv bu bl le)] ++ ws_15) H := hP
        have hD : va_D A ([(ty_XO x w sp sv bu bl le)] ++ ws_15) := hD
        refine W.widen (k := 3) (n := 18) (Nat.le_of_ble_eq_true rfl) (Nat.le_of_ble_eq_true rfl) ?_
        refine lv_iconst (v := 0) hx hb dX10_valueAfter_22 (by decide) ?_
        refine lv_istore (lv' := [(5, .int 0), (4, .ref a_6), (0, .ref x), (1, .int p1), (2, .int p2), (3, .int p3)]) hx hb dX10_valueAfter_23 hl (by decide) rfl (fun ls hl => ?_)
        refine ty_loop (I := fun μ H locs ls => ∃ (ws : va_W) (y_16 : Int32), μ = (2147483648 - y_16.toInt).toNat ∧ ty_V ct S ph ws ∧ va_P D vwCl ([(ty_XO x w sp sv bu bl le)] ++ ws) H ∧ va_D A ([(ty_XO x w sp sv bu bl le)] ++ ws) ∧ va_S A s.heap H locs ∧ lv_has ls 6 [(0, .ref x), (1, .int p1), (2, .int p2), (3, .int p3), (4, .ref a_6), (5, .int y_16)]) ⟨_, ws_15, (0 : Int32), rfl, hT, hP, hD, hS, (lv_sub hl [2, 3, 4, 5, 1, 0] rfl)⟩ (fun μ H locs ls hI ih_25 => ?_)
        obtain ⟨ws, y_16, rfl, hT, hP, hD, hS, hl⟩ := hI
        refine lv_iload hx hb dX10_valueAfter_25 (lv_at hl 5 rfl) ?_
        refine lv_iload_n hx hb dX10_valueAfter_27 rfl (lv_at hl 3 rfl) ?_
        refine lv_icmp_ge (tgt := 47) hx hb dX10_valueAfter_28 (by decide) (fun hc_17 => ?_) (fun hc_17 => ?_)
        · refine lv_aload hx hb dX10_valueAfter_47 (lv_at hl 4 rfl) ?_
          refine lv_iload_n hx hb dX10_valueAfter_49 rfl (lv_at hl 2 rfl) ?_
          refine ty_ki (wr := [(ty_XO x w sp sv bu bl le)]) (wc := ([] ++ ws)) (va_runVN (As := [.int p2]) (rest := []) ⟨hx, hb, hml, hown, hts⟩ (t_X1_number l D ct S ws ph xx a_6 p2 _ hT ha_7 hph hy1) (cm_VN 1 hts kc_X1_number ki_RX1 kl_RX10_227 kv_X1_number kx_X1_number kd_X1_number ⟨Nat.le_of_ble_eq_true rfl, Nat.le_of_ble_eq_true rfl⟩) (ty_preV (wr := [(ty_XO x w sp sv bu bl le)]) (E := []) (ws := ws) (ci := 1) hP hK hD hS hA hX hT rfl ha_7) rfl rfl hl.1 rfl (lv_room (Nat.le_of_ble_eq_true rfl)) dX10_valueAfter_50 ⟨Nat.le_of_ble_eq_true rfl, Nat.le_of_ble_eq_true rfl⟩) hP hD hS hA (fun r_18 u H locs hw_19 hP hD hS => ?_)
          obtain ⟨ws_20, rfl⟩ : ∃ z, z = u := ⟨_, rfl⟩
          have hT := hw_19
          have hP : va_P D vwCl ([(ty_XO x w sp sv bu bl le)] ++ ws_20) H := hP
          have hD : va_D A ([(ty_XO x w sp sv bu bl le)] ++ ws_20) := hD
          refine vx_ret ?_
          exact W.iret (v := r_18) hx hb hr (fun t ht hW => ⟨⟨r_18, ws_20, rfl, hT, by rw [ht]; exact hP, by rw [hAe]; exact hD⟩, hS.F ht⟩) hS.2.2 dX10_valueAfter_53
        · refine lv_aload hx hb dX10_valueAfter_31 (lv_at hl 4 rfl) ?_
          refine lv_aload_n hx hb dX10_valueAfter_33 rfl (lv_at hl 0 rfl) ?_
          refine va_get (v := .ref sp) (D := D) (ci := 10) (C := RX10) (T := TX10) (N := 6) hx hb hts in_X10 hown hK hP 0 rfl rfl 1 (by decide) (hts _ kl_RX10_16) (fun _ h9 => h9) rfl dX10_valueAfter_34 ?_
          refine ty_ki (wr := [(ty_XO x w sp sv bu bl le)]) (wc := ([] ++ ws)) (va_runVN (As := [.ref sp]) (rest := []) ⟨hx, hb, hml, hown, hts⟩ (t_X1_passTick l D ct S ws ph xx a_6 sp _ hT ha_7 h_sp hph hy1) (cm_VN 1 hts kc_X1_passTick ki_RX1 kl_RX10_168 kv_X1_passTick kx_X1_passTick kd_X1_passTick ⟨Nat.le_of_ble_eq_true rfl, Nat.le_of_ble_eq_true rfl⟩) (ty_preV (wr := [(ty_XO x w sp sv bu bl le)]) (E := []) (ws := ws) (ci := 1) hP hK hD hS hA hX hT rfl ha_7) rfl rfl hl.1 rfl (lv_room (Nat.le_of_ble_eq_true rfl)) dX10_valueAfter_37 ⟨Nat.le_of_ble_eq_true rfl, Nat.le_of_ble_eq_true rfl⟩) hP hD hS hA (fun r_21 u H locs hw_22 hP hD hS => ?_)
          obtain ⟨ws_23, rfl⟩ : ∃ z, z = u := ⟨_, rfl⟩
          have hT := hw_22
          have hP : va_P D vwCl ([(ty_XO x w sp sv bu bl le)] ++ ws_23) H := hP
          have hD : va_D A ([(ty_XO x w sp sv bu bl le)] ++ ws_23) := hD
          refine lv_pop hx hb dX10_valueAfter_40 rfl ?_
          refine lv_iinc (v := (y_16 + Int32.ofInt 1)) (lv' := [(5, .int (y_16 + Int32.ofInt 1)), (0, .ref x), (1, .int p1), (2, .int p2), (3, .int p3), (4, .ref a_6)]) hx hb dX10_valueAfter_41 hl (k := 5) rfl rfl (by decide) rfl (fun ls hl => ?_)
          refine lv_goto (tgt := 25) hx hb dX10_valueAfter_44 (by decide) ?_
          exact ih_25 _ _ _ _ (ty_inc (cm_lt hc_17)) ⟨ws_23, (y_16 + Int32.ofInt 1), rfl, hT, hP, hD, hS, (lv_sub hl [1, 2, 3, 4, 5, 0] rfl)⟩
theorem dX10_peakTemperature_0 : decode cX10_peakTemperature 0 = .ok (.aload_n 0, 1) := by decide +kernel
theorem dX10_peakTemperature_1 : decode cX10_peakTemperature 1 = .ok (.iload_n 1, 1) := by decide +kernel
theorem dX10_peakTemperature_2 : decode cX10_peakTemperature 2 = .ok (.invokevirtual 321, 3) := by decide +kernel
theorem dX10_peakTemperature_5 : decode cX10_peakTemperature 5 = .ok (.astore_n 3, 1) := by decide +kernel
theorem dX10_peakTemperature_6 : decode cX10_peakTemperature 6 = .ok (.iload_n 2, 1) := by decide +kernel
theorem dX10_peakTemperature_7 : decode cX10_peakTemperature 7 = .ok (.iconst 0, 1) := by decide +kernel
theorem dX10_peakTemperature_8 : decode cX10_peakTemperature 8 = .ok (.sipush 10000, 3) := by decide +kernel
theorem dX10_peakTemperature_11 : decode cX10_peakTemperature 11 = .ok (.invokestatic 81, 3) := by decide +kernel
theorem dX10_peakTemperature_14 : decode cX10_peakTemperature 14 = .ok (.aload_n 3, 1) := by decide +kernel
theorem dX10_peakTemperature_15 : decode cX10_peakTemperature 15 = .ok (.getfield 134, 3) := by decide +kernel
theorem dX10_peakTemperature_18 : decode cX10_peakTemperature 18 = .ok (.getfield 299, 3) := by decide +kernel
theorem dX10_peakTemperature_21 : decode cX10_peakTemperature 21 = .ok (.istore 4, 2) := by decide +kernel
theorem dX10_peakTemperature_23 : decode cX10_peakTemperature 23 = .ok (.iconst 0, 1) := by decide +kernel
theorem dX10_peakTemperature_24 : decode cX10_peakTemperature 24 = .ok (.istore 5, 2) := by decide +kernel
theorem dX10_peakTemperature_26 : decode cX10_peakTemperature 26 = .ok (.iload 5, 2) := by decide +kernel
theorem dX10_peakTemperature_28 : decode cX10_peakTemperature 28 = .ok (.iload_n 2, 1) := by decide +kernel
theorem dX10_peakTemperature_29 : decode cX10_peakTemperature 29 = .ok (.if_icmp .ge 32, 3) := by decide +kernel
theorem dX10_peakTemperature_32 : decode cX10_peakTemperature 32 = .ok (.aload_n 3, 1) := by decide +kernel
theorem dX10_peakTemperature_33 : decode cX10_peakTemperature 33 = .ok (.aload_n 0, 1) := by decide +kernel
theorem dX10_peakTemperature_34 : decode cX10_peakTemperature 34 = .ok (.getfield 16, 3) := by decide +kernel
theorem dX10_peakTemperature_37 : decode cX10_peakTemperature 37 = .ok (.invokevirtual 168, 3) := by decide +kernel
theorem dX10_peakTemperature_40 : decode cX10_peakTemperature 40 = .ok (.pop, 1) := by decide +kernel
theorem dX10_peakTemperature_41 : decode cX10_peakTemperature 41 = .ok (.iload 4, 2) := by decide +kernel
theorem dX10_peakTemperature_43 : decode cX10_peakTemperature 43 = .ok (.aload_n 3, 1) := by decide +kernel
theorem dX10_peakTemperature_44 : decode cX10_peakTemperature 44 = .ok (.getfield 134, 3) := by decide +kernel
theorem dX10_peakTemperature_47 : decode cX10_peakTemperature 47 = .ok (.getfield 299, 3) := by decide +kernel
theorem dX10_peakTemperature_50 : decode cX10_peakTemperature 50 = .ok (.invokestatic 328, 3) := by decide +kernel
theorem dX10_peakTemperature_53 : decode cX10_peakTemperature 53 = .ok (.istore 4, 2) := by decide +kernel
theorem dX10_peakTemperature_55 : decode cX10_peakTemperature 55 = .ok (.iinc 5 1, 3) := by decide +kernel
theorem dX10_peakTemperature_58 : decode cX10_peakTemperature 58 = .ok (.goto (-32), 3) := by decide +kernel
theorem dX10_peakTemperature_61 : decode cX10_peakTemperature 61 = .ok (.iload 4, 2) := by decide +kernel
theorem dX10_peakTemperature_63 : decode cX10_peakTemperature 63 = .ok (.ireturn, 1) := by decide +kernel
set_option maxRecDepth 100000 in
set_option maxHeartbeats 4000000 in
theorem t_X10_peakTemperature (l : Launch) (hfl : l.stackTraces = false) (D : va_G) (ct : Nat → ClassId) (S : ty_S) (ws : va_W) (ph : va_W → Prop) (xx : Nat → Nat → Nat → Prop) (x : Nat) (w : Nat) (sp : Nat) (sv : Nat) (bu : Nat) (ns : Nat) (bl : Int32) (le : Int32) (p1 : Int32) (p2 : Int32) (sz : Nat) (hT : ty_V ct S ph ws) (h_w : S w = some (.inl 9)) (h_sp : S sp = some (.inl 9)) (h_sv : S sv = some (.inr (4, ns))) (hph : ty_C ph xx) (hy1 : ty_y1 xx) (hy2 : ty_y0 xx 2) (hy5 : ty_y0 xx 5) (hy7 : ty_yc xx 7) (hy11 : ty_y0 xx 11) (hys : xx 9 0 sp ∧ xx 9 4 sp) : vx_Met l yX10_peakTemperature (ws_ yX10_peakTemperature cX10_peakTemperature 6 (some .int)) ({ frames := 7, cells := 2, slots := 12, locals := 189 } : Room) (va_Pc [.ref x, .int p1, .int p2] (cmP D ct sz ([(ty_XO x w sp sv bu bl le)] ++ ws))) (va_Qi (fun (r : Int32) (u9 : va_W) => ty_V ct S ph u9) (cmB D ([(ty_XO x w sp sv bu bl le)] ++ ws) sz (fun (u9 : va_W) => ([(ty_XO x w sp sv bu bl le)] ++ u9))) (va_A ([(ty_XO x w sp sv bu bl le)] ++ ws) sz)) (vx_X (fun (u9 : va_W) => ty_V ct S ph u9) (cmBY D ([(ty_XO x w sp sv bu bl le)] ++ ws) sz ["java/lang/IllegalArgumentException", "java/lang/IndexOutOfBoundsException"] (fun (u9 : va_W) => ([(ty_XO x w sp sv bu bl le)] ++ u9))) (va_A ([(ty_XO x w sp sv bu bl le)] ++ ws) sz)) 2 12 (va_A ([(ty_XO x w sp sv bu bl le)] ++ ws) sz) := by
  refine vx_ofW (cc := cX10_peakTemperature) (maxL := 6) (ret := (some .int)) (by decide) rfl ?_
  intro p e s m args below meth c s₁ B hml hex hv
  obtain ⟨rfl, hsz, hP, hK, hD0, hX⟩ := hv
  have hx := B.exec
  have hb := B.bytes
  have hr := B.returns
  have hts := ws_all (atoms_spec (ws := ws_ yX10_peakTemperature cX10_peakTemperature 6 (some .int)) B.pre)
  have hown : s.vm.findClass RX10 = some m.cls := findClass_of_methodNamed B.named
  have hlocks := B.notSynchronized
  subst hsz
  have hD := hD0.self (sz := s.heap.size)
  generalize hAe : va_A ([(ty_XO x w sp sv bu bl le)] ++ ws) s.heap.size = A at hD hX ⊢
  have hA : ∀ q : Nat, s.heap.size ≤ q → A q := fun q h => by rw [← hAe]; exact Or.inr h
  have hS : va_S A s.heap s.heap [] := va_S.rf
  have hl := lv_entry ([.ref x, .int p1, .int p2]) (n := 6) (Nat.le_of_ble_eq_true rfl)
  rw [lg_entry_eq]
  generalize (lg_sl ([.ref x, .int p1, .int p2]) ++ List.replicate (6 - (lg_sl ([.ref x, .int p1, .int p2])).length) Slot.unset).toArray = ls at hl ⊢
  have hl : lv_has ls 6 [(0, .ref x), (1, .int p1), (2, .int p2)] := hl
  refine lv_aload_n hx hb dX10_peakTemperature_0 rfl (lv_at hl 0 rfl) ?_
  refine lv_iload_n hx hb dX10_peakTemperature_1 rfl (lv_at hl 1 rfl) ?_
  refine ty_xq (wr := []) (wc := ([(ty_XO x w sp sv bu bl le)] ++ ws)) (vx_runV (As := [.int p1]) (rest := []) ⟨hx, hb, hml, hown, hts⟩ (t_X10_needTrial l hfl D ct S ws ph xx x w sp sv bu ns bl le p1 _ hT h_w h_sp h_sv hph hy1 hy2 hy5 hy7 hy11 hys) (cm_V 1 hts kc_X10_needTrial ki_RX10 kl_RX10_321 kv_X10_needTrial kx_X10_needTrial kd_X10_needTrial ⟨Nat.le_of_ble_eq_true rfl, Nat.le_of_ble_eq_true rfl⟩) (ty_preE (wr := []) (wc := ([(ty_XO x w sp sv bu bl le)] ++ ws)) (ci := 10) (q0 := 0) hP hK hD hS hA hX rfl rfl) rfl rfl hl.1 rfl (lv_room (Nat.le_of_ble_eq_true rfl)) dX10_peakTemperature_2 ⟨Nat.le_of_ble_eq_true rfl, Nat.le_of_ble_eq_true rfl⟩) hP hD hS hA (fun E ce q9 u H locs hu hE hP hD hS hce hcv hcl => ?_) (fun r_1 u H locs hw_2 hP hD hS => ?_)
  · obtain ⟨ws_3, rfl⟩ : ∃ z, z = u := ⟨_, rfl⟩
    have hT := hu
    have hP : va_P D vwCl ([(ty_XO x w sp sv bu bl le)] ++ ws_3) H := hP
    have hD : va_D A ([(ty_XO x w sp sv bu bl le)] ++ ws_3) := hD
    exact vx_out (fun x hx => (hex x hx).elim) hlocks hce hcv hcl (fun t ht hW => ⟨ws_3, hT, ⟨(ty_mem hE (by decide)), by rw [ht]; exact hP, by rw [hAe]; exact hD⟩, hS.F ht⟩) hS.2.2 (Nat.le_of_ble_eq_true rfl) (Nat.le_of_ble_eq_true rfl)
  · obtain ⟨ws_4, rfl⟩ : ∃ z, z = u := ⟨_, rfl⟩
    obtain ⟨hT, hq_5⟩ := hw_2
    have hP : va_P D vwCl ([(ty_XO x w sp sv bu bl le)] ++ ws_4) H := hP
    have hD : va_D A ([(ty_XO x w sp sv bu bl le)] ++ ws_4) := hD
    refine W.widen (k := 1) (n := 6) (Nat.le_of_ble_eq_true rfl) (Nat.le_of_ble_eq_true rfl) ?_
    obtain ⟨a_6, rfl, ha_7⟩ := hq_5
    refine W.eq (g2 := F0 m 5 ls (.ref a_6 :: [])) rfl ?_
    refine lv_astore_n (lv' := [(3, .ref a_6), (0, .ref x), (1, .int p1), (2, .int p2)]) hx hb dX10_peakTemperature_5 rfl hl (by decide) rfl (fun ls hl => ?_)
    refine lv_iload_n hx hb dX10_peakTemperature_6 rfl (lv_at hl 3 rfl) ?_
    refine lv_iconst (v := 0) hx hb dX10_peakTemperature_7 (by decide) ?_
    refine lv_sipush (v := 10000) hx hb dX10_peakTemperature_8 (by decide) ?_
    refine ty_xv (wr := [(ty_XO x w sp sv bu bl le)]) (wc := ([] ++ ws_4)) (vx_runS (As := [.int p2, .int 0, .int 10000]) (rest := []) ⟨hx, hb, hml, hown, hts⟩ (t_X10_needRange l hfl D ct S ws_4 ph xx p2 (0 : Int32) (10000 : Int32) _ hT hph hy1) (cm_S 3 hts kc_X10_needRange ki_RX10 kl_RX10_81 ks_X10_needRange kd_X10_needRange ⟨Nat.le_of_ble_eq_true rfl, Nat.le_of_ble_eq_true rfl⟩) (ty_preS (wr := [(ty_XO x w sp sv bu bl le)]) (wc := ([] ++ ws_4)) hP hK hD hS hA hX) rfl rfl hl.1 rfl (lv_room (Nat.le_of_ble_eq_true rfl)) dX10_peakTemperature_11 ⟨Nat.le_of_ble_eq_true rfl, Nat.le_of_ble_eq_true rfl⟩) hP hD hS hA (fun E ce q9 u H locs hu hE hP hD hS hce hcv hcl => ?_) (fun u H locs hw_9 hP hD hS => ?_)
    · obtain ⟨ws_10, rfl⟩ : ∃ z, z = u := ⟨_, rfl⟩
      have hT := hu
      have hP : va_P D vwCl ([(ty_XO x w sp sv bu bl le)] ++ ws_10) H := hP
      have hD : va_D A ([(ty_XO x w sp sv bu bl le)] ++ ws_10) := hD
      exact vx_out (fun x hx => (hex x hx).elim) hlocks hce hcv hcl (fun t ht hW => ⟨ws_10, hT, ⟨(ty_mem hE (by decide)), by rw [ht]; exact hP, by rw [hAe]; exact hD⟩, hS.F ht⟩) hS.2.2 (Nat.le_of_ble_eq_true rfl) (Nat.le_of_ble_eq_true rfl)
    · obtain ⟨ws_11, rfl⟩ : ∃ z, z = u := ⟨_, rfl⟩
      have hT := hw_9
      have hP : va_P D vwCl ([(ty_XO x w sp sv bu bl le)] ++ ws_11) H := hP
      have hD : va_D A ([(ty_XO x w sp sv bu bl le)] ++ ws_11) := hD
      refine W.widen (k := 2) (n := 12) (Nat.le_of_ble_eq_true rfl) (Nat.le_of_ble_eq_true rfl) ?_
      refine lv_aload_n hx hb dX10_peakTemperature_14 rfl (lv_at hl 0 rfl) ?_
      refine ty_getN (E := [(ty_XO x w sp sv bu bl le)]) (ws := ws_11) (D := D) (ci := 1) (C := RX1) (T := TX1) (N := 14) hx hb hts in_X1 hown hK hP hT ha_7 rfl 1 (by decide) (hts _ kl_RX10_134) (fun _ h9 => h9) rfl dX10_peakTemperature_15 (fun _ hv_12 hf_13 => ?_)
      obtain ⟨a_14, rfl, ha_15⟩ := hv_12
      refine ty_getN (E := [(ty_XO x w sp sv bu bl le)]) (ws := ws_11) (D := D) (ci := 0) (C := RX0) (T := TX0) (N := 16) hx hb hts in_X0 hown hK hP hT ha_15 rfl 11 (by decide) (hts _ kl_RX10_299) (fun _ h9 => h9) rfl dX10_peakTemperature_18 (fun _ hv_16 hf_17 => ?_)
      obtain ⟨x_18, rfl⟩ := hv_16
      refine lv_istore (lv' := [(4, .int x_18), (3, .ref a_6), (0, .ref x), (1, .int p1), (2, .int p2)]) hx hb dX10_peakTemperature_21 hl (by decide) rfl (fun ls hl => ?_)
      refine lv_iconst (v := 0) hx hb dX10_peakTemperature_23 (by decide) ?_
      refine lv_istore (lv' := [(5, .int 0), (4, .int x_18), (3, .ref a_6), (0, .ref x), (1, .int p1), (2, .int p2)]) hx hb dX10_peakTemperature_24 hl (by decide) rfl (fun ls hl => ?_)
      refine ty_loop (I := fun μ H locs ls => ∃ (ws : va_W) (y_19 : Int32) (y_20 : Int32), μ = (2147483648 - y_20.toInt).toNat ∧ ty_V ct S ph ws ∧ va_P D vwCl ([(ty_XO x w sp sv bu bl le)] ++ ws) H ∧ va_D A ([(ty_XO x w sp sv bu bl le)] ++ ws) ∧ va_S A s.heap H locs ∧ lv_has ls 6 [(0, .ref x), (1, .int p1), (2, .int p2), (3, .ref a_6), (4, .int y_19), (5, .int y_20)]) ⟨_, ws_11, x_18, (0 : Int32), rfl, hT, hP, hD, hS, (lv_sub hl [3, 4, 5, 2, 1, 0] rfl)⟩ (fun μ H locs ls hI ih_26 => ?_)
      obtain ⟨ws, y_19, y_20, rfl, hT, hP, hD, hS, hl⟩ := hI
      refine lv_iload hx hb dX10_peakTemperature_26 (lv_at hl 5 rfl) ?_
      refine lv_iload_n hx hb dX10_peakTemperature_28 rfl (lv_at hl 2 rfl) ?_
      refine lv_icmp_ge (tgt := 61) hx hb dX10_peakTemperature_29 (by decide) (fun hc_21 => ?_) (fun hc_21 => ?_)
      · refine lv_iload hx hb dX10_peakTemperature_61 (lv_at hl 4 rfl) ?_
        refine vx_ret ?_
        exact W.iret (v := y_19) hx hb hr (fun t ht hW => ⟨⟨y_19, ws, rfl, hT, by rw [ht]; exact hP, by rw [hAe]; exact hD⟩, hS.F ht⟩) hS.2.2 dX10_peakTemperature_63
      · refine lv_aload_n hx hb dX10_peakTemperature_32 rfl (lv_at hl 3 rfl) ?_
        refine lv_aload_n hx hb dX10_peakTemperature_33 rfl (lv_at hl 0 rfl) ?_
        refine va_get (v := .ref sp) (D := D) (ci := 10) (C := RX10) (T := TX10) (N := 6) hx hb hts in_X10 hown hK hP 0 rfl rfl 1 (by decide) (hts _ kl_RX10_16) (fun _ h9 => h9) rfl dX10_peakTemperature_34 ?_
        refine ty_ki (wr := [(ty_XO x w sp sv bu bl le)]) (wc := ([] ++ ws)) (va_runVN (As := [.ref sp]) (rest := []) ⟨hx, hb, hml, hown, hts⟩ (t_X1_passTick l D ct S ws ph xx a_6 sp _ hT ha_7 h_sp hph hy1) (cm_VN 1 hts kc_X1_passTick ki_RX1 kl_RX10_168 kv_X1_passTick kx_X1_passTick kd_X1_passTick ⟨Nat.le_of_ble_eq_true rfl, Nat.le_of_ble_eq_true rfl⟩) (ty_preV (wr := [(ty_XO x w sp sv bu bl le)]) (E := []) (ws := ws) (ci := 1) hP hK hD hS hA hX hT rfl ha_7) rfl rfl hl.1 rfl (lv_room (Nat.le_of_ble_eq_true rfl)) dX10_peakTemperature_37 ⟨Nat.le_of_ble_eq_true rfl, Nat.le_of_ble_eq_true rfl⟩) hP hD hS hA (fun r_22 u H locs hw_23 hP hD hS => ?_)
        obtain ⟨ws_24, rfl⟩ : ∃ z, z = u := ⟨_, rfl⟩
        have hT := hw_23
        have hP : va_P D vwCl ([(ty_XO x w sp sv bu bl le)] ++ ws_24) H := hP
        have hD : va_D A ([(ty_XO x w sp sv bu bl le)] ++ ws_24) := hD
        refine lv_pop hx hb dX10_peakTemperature_40 rfl ?_
        refine lv_iload hx hb dX10_peakTemperature_41 (lv_at hl 4 rfl) ?_
        refine lv_aload_n hx hb dX10_peakTemperature_43 rfl (lv_at hl 3 rfl) ?_
        refine ty_getN (E := [(ty_XO x w sp sv bu bl le)]) (ws := ws_24) (D := D) (ci := 1) (C := RX1) (T := TX1) (N := 14) hx hb hts in_X1 hown hK hP hT ha_7 rfl 1 (by decide) (hts _ kl_RX10_134) (fun _ h9 => h9) rfl dX10_peakTemperature_44 (fun _ hv_25 hf_26 => ?_)
        obtain ⟨a_27, rfl, ha_28⟩ := hv_25
        refine ty_getN (E := [(ty_XO x w sp sv bu bl le)]) (ws := ws_24) (D := D) (ci := 0) (C := RX0) (T := TX0) (N := 16) hx hb hts in_X0 hown hK hP hT ha_28 rfl 11 (by decide) (hts _ kl_RX10_299) (fun _ h9 => h9) rfl dX10_peakTemperature_47 (fun _ hv_29 hf_30 => ?_)
        obtain ⟨x_31, rfl⟩ := hv_29
        refine va_mmax hx hb (hml.trans hl.1.symm) hown (hts _ kl_RX10_328) (hts _ jm_max_s) (hts _ ki_RJ9) (hts _ jm_max_c) (Nat.le_of_ble_eq_true rfl) (Nat.le_of_ble_eq_true rfl) (Nat.le_of_ble_eq_true rfl) (Nat.le_of_ble_eq_true rfl) dX10_peakTemperature_50 ?_
        refine lv_topi (fun x_32 _ => ?_)
        refine lv_istore (lv' := [(4, .int x_32), (0, .ref x), (1, .int p1), (2, .int p2), (3, .ref a_6), (5, .int y_20)]) hx hb dX10_peakTemperature_53 hl (by decide) rfl (fun ls hl => ?_)
        refine lv_iinc (v := (y_20 + Int32.ofInt 1)) (lv' := [(5, .int (y_20 + Int32.ofInt 1)), (4, .int x_32), (0, .ref x), (1, .int p1), (2, .int p2), (3, .ref a_6)]) hx hb dX10_peakTemperature_55 hl (k := 5) rfl rfl (by decide) rfl (fun ls hl => ?_)
        refine lv_goto (tgt := 26) hx hb dX10_peakTemperature_58 (by decide) ?_
        exact ih_26 _ _ _ _ (ty_inc (cm_lt hc_21)) ⟨ws_24, x_32, (y_20 + Int32.ofInt 1), rfl, hT, hP, hD, hS, (lv_sub hl [2, 3, 4, 5, 1, 0] rfl)⟩
theorem dX10_settledIn_0 : decode cX10_settledIn 0 = .ok (.aload_n 0, 1) := by decide +kernel
theorem dX10_settledIn_1 : decode cX10_settledIn 1 = .ok (.iload_n 1, 1) := by decide +kernel
theorem dX10_settledIn_2 : decode cX10_settledIn 2 = .ok (.invokevirtual 321, 3) := by decide +kernel
theorem dX10_settledIn_5 : decode cX10_settledIn 5 = .ok (.astore_n 2, 1) := by decide +kernel
theorem dX10_settledIn_6 : decode cX10_settledIn 6 = .ok (.aload_n 2, 1) := by decide +kernel
theorem dX10_settledIn_7 : decode cX10_settledIn 7 = .ok (.getfield 129, 3) := by decide +kernel
theorem dX10_settledIn_10 : decode cX10_settledIn 10 = .ok (.iconst 1, 1) := by decide +kernel
theorem dX10_settledIn_11 : decode cX10_settledIn 11 = .ok (.if_icmp .ne 5, 3) := by decide +kernel
theorem dX10_settledIn_14 : decode cX10_settledIn 14 = .ok (.iconst (-1), 1) := by decide +kernel
theorem dX10_settledIn_15 : decode cX10_settledIn 15 = .ok (.ireturn, 1) := by decide +kernel
theorem dX10_settledIn_16 : decode cX10_settledIn 16 = .ok (.iconst 0, 1) := by decide +kernel
theorem dX10_settledIn_17 : decode cX10_settledIn 17 = .ok (.istore_n 3, 1) := by decide +kernel
theorem dX10_settledIn_18 : decode cX10_settledIn 18 = .ok (.iload_n 3, 1) := by decide +kernel
theorem dX10_settledIn_19 : decode cX10_settledIn 19 = .ok (.sipush 10000, 3) := by decide +kernel
theorem dX10_settledIn_22 : decode cX10_settledIn 22 = .ok (.if_icmp .ge 30, 3) := by decide +kernel
theorem dX10_settledIn_25 : decode cX10_settledIn 25 = .ok (.aload_n 2, 1) := by decide +kernel
theorem dX10_settledIn_26 : decode cX10_settledIn 26 = .ok (.getfield 134, 3) := by decide +kernel
theorem dX10_settledIn_29 : decode cX10_settledIn 29 = .ok (.getfield 333, 3) := by decide +kernel
theorem dX10_settledIn_32 : decode cX10_settledIn 32 = .ok (.ifCond .ne 5, 3) := by decide +kernel
theorem dX10_settledIn_35 : decode cX10_settledIn 35 = .ok (.iload_n 3, 1) := by decide +kernel
theorem dX10_settledIn_36 : decode cX10_settledIn 36 = .ok (.ireturn, 1) := by decide +kernel
theorem dX10_settledIn_37 : decode cX10_settledIn 37 = .ok (.aload_n 2, 1) := by decide +kernel
theorem dX10_settledIn_38 : decode cX10_settledIn 38 = .ok (.aload_n 0, 1) := by decide +kernel
theorem dX10_settledIn_39 : decode cX10_settledIn 39 = .ok (.getfield 16, 3) := by decide +kernel
theorem dX10_settledIn_42 : decode cX10_settledIn 42 = .ok (.invokevirtual 168, 3) := by decide +kernel
theorem dX10_settledIn_45 : decode cX10_settledIn 45 = .ok (.pop, 1) := by decide +kernel
theorem dX10_settledIn_46 : decode cX10_settledIn 46 = .ok (.iinc 3 1, 3) := by decide +kernel
theorem dX10_settledIn_49 : decode cX10_settledIn 49 = .ok (.goto (-31), 3) := by decide +kernel
theorem dX10_settledIn_52 : decode cX10_settledIn 52 = .ok (.aload_n 2, 1) := by decide +kernel
theorem dX10_settledIn_53 : decode cX10_settledIn 53 = .ok (.getfield 134, 3) := by decide +kernel
theorem dX10_settledIn_56 : decode cX10_settledIn 56 = .ok (.getfield 333, 3) := by decide +kernel
theorem dX10_settledIn_59 : decode cX10_settledIn 59 = .ok (.ifCond .ne 9, 3) := by decide +kernel
theorem dX10_settledIn_62 : decode cX10_settledIn 62 = .ok (.sipush 10000, 3) := by decide +kernel
theorem dX10_settledIn_65 : decode cX10_settledIn 65 = .ok (.goto 4, 3) := by decide +kernel
theorem dX10_settledIn_68 : decode cX10_settledIn 68 = .ok (.iconst (-1), 1) := by decide +kernel
theorem dX10_settledIn_69 : decode cX10_settledIn 69 = .ok (.ireturn, 1) := by decide +kernel
set_option maxRecDepth 100000 in
set_option maxHeartbeats 4000000 in
theorem t_X10_settledIn (l : Launch) (hfl : l.stackTraces = false) (D : va_G) (ct : Nat → ClassId) (S : ty_S) (ws : va_W) (ph : va_W → Prop) (xx : Nat → Nat → Nat → Prop) (x : Nat) (w : Nat) (sp : Nat) (sv : Nat) (bu : Nat) (ns : Nat) (bl : Int32) (le : Int32) (p1 : Int32) (sz : Nat) (hT : ty_V ct S ph ws) (h_w : S w = some (.inl 9)) (h_sp : S sp = some (.inl 9)) (h_sv : S sv = some (.inr (4, ns))) (hph : ty_C ph xx) (hy1 : ty_y1 xx) (hy2 : ty_y0 xx 2) (hy5 : ty_y0 xx 5) (hy7 : ty_yc xx 7) (hy11 : ty_y0 xx 11) (hys : xx 9 0 sp ∧ xx 9 4 sp) : vx_Met l yX10_settledIn (ws_ yX10_settledIn cX10_settledIn 4 (some .int)) ({ frames := 7, cells := 1, slots := 6, locals := 189 } : Room) (va_Pc [.ref x, .int p1] (cmP D ct sz ([(ty_XO x w sp sv bu bl le)] ++ ws))) (va_Qi (fun (r : Int32) (u9 : va_W) => ty_V ct S ph u9) (cmB D ([(ty_XO x w sp sv bu bl le)] ++ ws) sz (fun (u9 : va_W) => ([(ty_XO x w sp sv bu bl le)] ++ u9))) (va_A ([(ty_XO x w sp sv bu bl le)] ++ ws) sz)) (vx_X (fun (u9 : va_W) => ty_V ct S ph u9) (cmBY D ([(ty_XO x w sp sv bu bl le)] ++ ws) sz ["java/lang/IndexOutOfBoundsException"] (fun (u9 : va_W) => ([(ty_XO x w sp sv bu bl le)] ++ u9))) (va_A ([(ty_XO x w sp sv bu bl le)] ++ ws) sz)) 1 6 (va_A ([(ty_XO x w sp sv bu bl le)] ++ ws) sz) := by
  refine vx_ofW (cc := cX10_settledIn) (maxL := 4) (ret := (some .int)) (by decide) rfl ?_
  intro p e s m args below meth c s₁ B hml hex hv
  obtain ⟨rfl, hsz, hP, hK, hD0, hX⟩ := hv
  have hx := B.exec
  have hb := B.bytes
  have hr := B.returns
  have hts := ws_all (atoms_spec (ws := ws_ yX10_settledIn cX10_settledIn 4 (some .int)) B.pre)
  have hown : s.vm.findClass RX10 = some m.cls := findClass_of_methodNamed B.named
  have hlocks := B.notSynchronized
  subst hsz
  have hD := hD0.self (sz := s.heap.size)
  generalize hAe : va_A ([(ty_XO x w sp sv bu bl le)] ++ ws) s.heap.size = A at hD hX ⊢
  have hA : ∀ q : Nat, s.heap.size ≤ q → A q := fun q h => by rw [← hAe]; exact Or.inr h
  have hS : va_S A s.heap s.heap [] := va_S.rf
  have hl := lv_entry ([.ref x, .int p1]) (n := 4) (Nat.le_of_ble_eq_true rfl)
  rw [lg_entry_eq]
  generalize (lg_sl ([.ref x, .int p1]) ++ List.replicate (4 - (lg_sl ([.ref x, .int p1])).length) Slot.unset).toArray = ls at hl ⊢
  have hl : lv_has ls 4 [(0, .ref x), (1, .int p1)] := hl
  refine lv_aload_n hx hb dX10_settledIn_0 rfl (lv_at hl 0 rfl) ?_
  refine lv_iload_n hx hb dX10_settledIn_1 rfl (lv_at hl 1 rfl) ?_
  refine ty_xq (wr := []) (wc := ([(ty_XO x w sp sv bu bl le)] ++ ws)) (vx_runV (As := [.int p1]) (rest := []) ⟨hx, hb, hml, hown, hts⟩ (t_X10_needTrial l hfl D ct S ws ph xx x w sp sv bu ns bl le p1 _ hT h_w h_sp h_sv hph hy1 hy2 hy5 hy7 hy11 hys) (cm_V 1 hts kc_X10_needTrial ki_RX10 kl_RX10_321 kv_X10_needTrial kx_X10_needTrial kd_X10_needTrial ⟨Nat.le_of_ble_eq_true rfl, Nat.le_of_ble_eq_true rfl⟩) (ty_preE (wr := []) (wc := ([(ty_XO x w sp sv bu bl le)] ++ ws)) (ci := 10) (q0 := 0) hP hK hD hS hA hX rfl rfl) rfl rfl hl.1 rfl (lv_room (Nat.le_of_ble_eq_true rfl)) dX10_settledIn_2 ⟨Nat.le_of_ble_eq_true rfl, Nat.le_of_ble_eq_true rfl⟩) hP hD hS hA (fun E ce q9 u H locs hu hE hP hD hS hce hcv hcl => ?_) (fun r_1 u H locs hw_2 hP hD hS => ?_)
  · obtain ⟨ws_3, rfl⟩ : ∃ z, z = u := ⟨_, rfl⟩
    have hT := hu
    have hP : va_P D vwCl ([(ty_XO x w sp sv bu bl le)] ++ ws_3) H := hP
    have hD : va_D A ([(ty_XO x w sp sv bu bl le)] ++ ws_3) := hD
    exact vx_out (fun x hx => (hex x hx).elim) hlocks hce hcv hcl (fun t ht hW => ⟨ws_3, hT, ⟨hE, by rw [ht]; exact hP, by rw [hAe]; exact hD⟩, hS.F ht⟩) hS.2.2 (Nat.le_of_ble_eq_true rfl) (Nat.le_of_ble_eq_true rfl)
  · obtain ⟨ws_4, rfl⟩ : ∃ z, z = u := ⟨_, rfl⟩
    obtain ⟨hT, hq_5⟩ := hw_2
    have hP : va_P D vwCl ([(ty_XO x w sp sv bu bl le)] ++ ws_4) H := hP
    have hD : va_D A ([(ty_XO x w sp sv bu bl le)] ++ ws_4) := hD
    refine W.widen (k := 1) (n := 6) (Nat.le_of_ble_eq_true rfl) (Nat.le_of_ble_eq_true rfl) ?_
    obtain ⟨a_6, rfl, ha_7⟩ := hq_5
    refine W.eq (g2 := F0 m 5 ls (.ref a_6 :: [])) rfl ?_
    refine lv_astore_n (lv' := [(2, .ref a_6), (0, .ref x), (1, .int p1)]) hx hb dX10_settledIn_5 rfl hl (by decide) rfl (fun ls hl => ?_)
    refine lv_aload_n hx hb dX10_settledIn_6 rfl (lv_at hl 0 rfl) ?_
    refine ty_getN (E := [(ty_XO x w sp sv bu bl le)]) (ws := ws_4) (D := D) (ci := 1) (C := RX1) (T := TX1) (N := 14) hx hb hts in_X1 hown hK hP hT ha_7 rfl 3 (by decide) (hts _ kl_RX10_129) (fun _ h9 => h9) rfl dX10_settledIn_7 (fun _ hv_8 hf_9 => ?_)
    obtain ⟨x_10, rfl⟩ := hv_8
    refine lv_iconst (v := 1) hx hb dX10_settledIn_10 (by decide) ?_
    refine lv_icmp_ne (tgt := 16) hx hb dX10_settledIn_11 (by decide) (fun hc_11 => ?_) (fun hc_11 => ?_)
    · refine lv_iconst (v := 0) hx hb dX10_settledIn_16 (by decide) ?_
      refine lv_istore_n (lv' := [(3, .int 0), (2, .ref a_6), (0, .ref x), (1, .int p1)]) hx hb dX10_settledIn_17 rfl hl (by decide) rfl (fun ls hl => ?_)
      refine ty_loop (I := fun μ H locs ls => ∃ (ws : va_W) (y_12 : Int32), μ = (2147483648 - y_12.toInt).toNat ∧ ty_V ct S ph ws ∧ va_P D vwCl ([(ty_XO x w sp sv bu bl le)] ++ ws) H ∧ va_D A ([(ty_XO x w sp sv bu bl le)] ++ ws) ∧ va_S A s.heap H locs ∧ lv_has ls 4 [(0, .ref x), (1, .int p1), (2, .ref a_6), (3, .int y_12)]) ⟨_, ws_4, (0 : Int32), rfl, hT, hP, hD, hS, (lv_sub hl [2, 3, 1, 0] rfl)⟩ (fun μ H locs ls hI ih_18 => ?_)
      obtain ⟨ws, y_12, rfl, hT, hP, hD, hS, hl⟩ := hI
      refine lv_iload_n hx hb dX10_settledIn_18 rfl (lv_at hl 3 rfl) ?_
      refine lv_sipush (v := 10000) hx hb dX10_settledIn_19 (by decide) ?_
      refine lv_icmp_ge (tgt := 52) hx hb dX10_settledIn_22 (by decide) (fun hc_13 => ?_) (fun hc_13 => ?_)
      · refine lv_aload_n hx hb dX10_settledIn_52 rfl (lv_at hl 2 rfl) ?_
        refine ty_getN (E := [(ty_XO x w sp sv bu bl le)]) (ws := ws) (D := D) (ci := 1) (C := RX1) (T := TX1) (N := 14) hx hb hts in_X1 hown hK hP hT ha_7 rfl 1 (by decide) (hts _ kl_RX10_134) (fun _ h9 => h9) rfl dX10_settledIn_53 (fun _ hv_14 hf_15 => ?_)
        obtain ⟨a_16, rfl, ha_17⟩ := hv_14
        refine ty_getN (E := [(ty_XO x w sp sv bu bl le)]) (ws := ws) (D := D) (ci := 0) (C := RX0) (T := TX0) (N := 16) hx hb hts in_X0 hown hK hP hT ha_17 rfl 10 (by decide) (hts _ kl_RX10_333) (fun _ h9 => h9) rfl dX10_settledIn_56 (fun _ hv_18 hf_19 => ?_)
        obtain ⟨x_20, rfl⟩ := hv_18
        refine lv_if_ne (tgt := 68) hx hb dX10_settledIn_59 (by decide) (fun hc_21 => ?_) (fun hc_21 => ?_)
        · refine lv_iconst (v := (-1)) hx hb dX10_settledIn_68 (by decide) ?_
          refine vx_ret ?_
          exact W.iret (v := (-1)) hx hb hr (fun t ht hW => ⟨⟨(-1), ws, rfl, hT, by rw [ht]; exact hP, by rw [hAe]; exact hD⟩, hS.F ht⟩) hS.2.2 dX10_settledIn_69
        · refine lv_sipush (v := 10000) hx hb dX10_settledIn_62 (by decide) ?_
          refine lv_goto (tgt := 69) hx hb dX10_settledIn_65 (by decide) ?_
          refine vx_ret ?_
          exact W.iret (v := 10000) hx hb hr (fun t ht hW => ⟨⟨10000, ws, rfl, hT, by rw [ht]; exact hP, by rw [hAe]; exact hD⟩, hS.F ht⟩) hS.2.2 dX10_settledIn_69
      · refine lv_aload_n hx hb dX10_settledIn_25 rfl (lv_at hl 2 rfl) ?_
        refine ty_getN (E := [(ty_XO x w sp sv bu bl le)]) (ws := ws) (D := D) (ci := 1) (C := RX1) (T := TX1) (N := 14) hx hb hts in_X1 hown hK hP hT ha_7 rfl 1 (by decide) (hts _ kl_RX10_134) (fun _ h9 => h9) rfl dX10_settledIn_26 (fun _ hv_22 hf_23 => ?_)
        obtain ⟨a_24, rfl, ha_25⟩ := hv_22
        refine ty_getN (E := [(ty_XO x w sp sv bu bl le)]) (ws := ws) (D := D) (ci := 0) (C := RX0) (T := TX0) (N := 16) hx hb hts in_X0 hown hK hP hT ha_25 rfl 10 (by decide) (hts _ kl_RX10_333) (fun _ h9 => h9) rfl dX10_settledIn_29 (fun _ hv_26 hf_27 => ?_)
        obtain ⟨x_28, rfl⟩ := hv_26
        refine lv_if_ne (tgt := 37) hx hb dX10_settledIn_32 (by decide) (fun hc_29 => ?_) (fun hc_29 => ?_)
        · refine lv_aload_n hx hb dX10_settledIn_37 rfl (lv_at hl 2 rfl) ?_
          refine lv_aload_n hx hb dX10_settledIn_38 rfl (lv_at hl 0 rfl) ?_
          refine va_get (v := .ref sp) (D := D) (ci := 10) (C := RX10) (T := TX10) (N := 6) hx hb hts in_X10 hown hK hP 0 rfl rfl 1 (by decide) (hts _ kl_RX10_16) (fun _ h9 => h9) rfl dX10_settledIn_39 ?_
          refine ty_ki (wr := [(ty_XO x w sp sv bu bl le)]) (wc := ([] ++ ws)) (va_runVN (As := [.ref sp]) (rest := []) ⟨hx, hb, hml, hown, hts⟩ (t_X1_passTick l D ct S ws ph xx a_6 sp _ hT ha_7 h_sp hph hy1) (cm_VN 1 hts kc_X1_passTick ki_RX1 kl_RX10_168 kv_X1_passTick kx_X1_passTick kd_X1_passTick ⟨Nat.le_of_ble_eq_true rfl, Nat.le_of_ble_eq_true rfl⟩) (ty_preV (wr := [(ty_XO x w sp sv bu bl le)]) (E := []) (ws := ws) (ci := 1) hP hK hD hS hA hX hT rfl ha_7) rfl rfl hl.1 rfl (lv_room (Nat.le_of_ble_eq_true rfl)) dX10_settledIn_42 ⟨Nat.le_of_ble_eq_true rfl, Nat.le_of_ble_eq_true rfl⟩) hP hD hS hA (fun r_30 u H locs hw_31 hP hD hS => ?_)
          obtain ⟨ws_32, rfl⟩ : ∃ z, z = u := ⟨_, rfl⟩
          have hT := hw_31
          have hP : va_P D vwCl ([(ty_XO x w sp sv bu bl le)] ++ ws_32) H := hP
          have hD : va_D A ([(ty_XO x w sp sv bu bl le)] ++ ws_32) := hD
          refine lv_pop hx hb dX10_settledIn_45 rfl ?_
          refine lv_iinc (v := (y_12 + Int32.ofInt 1)) (lv' := [(3, .int (y_12 + Int32.ofInt 1)), (0, .ref x), (1, .int p1), (2, .ref a_6)]) hx hb dX10_settledIn_46 hl (k := 3) rfl rfl (by decide) rfl (fun ls hl => ?_)
          refine lv_goto (tgt := 18) hx hb dX10_settledIn_49 (by decide) ?_
          exact ih_18 _ _ _ _ (ty_inc (cm_lt hc_13)) ⟨ws_32, (y_12 + Int32.ofInt 1), rfl, hT, hP, hD, hS, (lv_sub hl [1, 2, 3, 0] rfl)⟩
        · refine lv_iload_n hx hb dX10_settledIn_35 rfl (lv_at hl 3 rfl) ?_
          refine vx_ret ?_
          exact W.iret (v := y_12) hx hb hr (fun t ht hW => ⟨⟨y_12, ws, rfl, hT, by rw [ht]; exact hP, by rw [hAe]; exact hD⟩, hS.F ht⟩) hS.2.2 dX10_settledIn_36
    · refine lv_iconst (v := (-1)) hx hb dX10_settledIn_14 (by decide) ?_
      refine vx_ret ?_
      exact W.iret (v := (-1)) hx hb hr (fun t ht hW => ⟨⟨(-1), ws_4, rfl, hT, by rw [ht]; exact hP, by rw [hAe]; exact hD⟩, hS.F ht⟩) hS.2.2 dX10_settledIn_15
theorem dX10_ticksUntil_0 : decode cX10_ticksUntil 0 = .ok (.iconst 1, 1) := by decide +kernel
theorem dX10_ticksUntil_1 : decode cX10_ticksUntil 1 = .ok (.istore_n 3, 1) := by decide +kernel
theorem dX10_ticksUntil_2 : decode cX10_ticksUntil 2 = .ok (.iload_n 3, 1) := by decide +kernel
theorem dX10_ticksUntil_3 : decode cX10_ticksUntil 3 = .ok (.sipush 30000, 3) := by decide +kernel
theorem dX10_ticksUntil_6 : decode cX10_ticksUntil 6 = .ok (.if_icmp .gt 36, 3) := by decide +kernel
theorem dX10_ticksUntil_9 : decode cX10_ticksUntil 9 = .ok (.aload_n 1, 1) := by decide +kernel
theorem dX10_ticksUntil_10 : decode cX10_ticksUntil 10 = .ok (.getfield 129, 3) := by decide +kernel
theorem dX10_ticksUntil_13 : decode cX10_ticksUntil 13 = .ok (.iconst 1, 1) := by decide +kernel
theorem dX10_ticksUntil_14 : decode cX10_ticksUntil 14 = .ok (.if_icmp .ne 28, 3) := by decide +kernel
theorem dX10_ticksUntil_17 : decode cX10_ticksUntil 17 = .ok (.aload_n 1, 1) := by decide +kernel
theorem dX10_ticksUntil_18 : decode cX10_ticksUntil 18 = .ok (.aload_n 0, 1) := by decide +kernel
theorem dX10_ticksUntil_19 : decode cX10_ticksUntil 19 = .ok (.getfield 16, 3) := by decide +kernel
theorem dX10_ticksUntil_22 : decode cX10_ticksUntil 22 = .ok (.invokevirtual 168, 3) := by decide +kernel
theorem dX10_ticksUntil_25 : decode cX10_ticksUntil 25 = .ok (.pop, 1) := by decide +kernel
theorem dX10_ticksUntil_26 : decode cX10_ticksUntil 26 = .ok (.aload_n 1, 1) := by decide +kernel
theorem dX10_ticksUntil_27 : decode cX10_ticksUntil 27 = .ok (.getfield 129, 3) := by decide +kernel
theorem dX10_ticksUntil_30 : decode cX10_ticksUntil 30 = .ok (.iload_n 2, 1) := by decide +kernel
theorem dX10_ticksUntil_31 : decode cX10_ticksUntil 31 = .ok (.if_icmp .ne 5, 3) := by decide +kernel
theorem dX10_ticksUntil_34 : decode cX10_ticksUntil 34 = .ok (.iload_n 3, 1) := by decide +kernel
theorem dX10_ticksUntil_35 : decode cX10_ticksUntil 35 = .ok (.ireturn, 1) := by decide +kernel
theorem dX10_ticksUntil_36 : decode cX10_ticksUntil 36 = .ok (.iinc 3 1, 3) := by decide +kernel
theorem dX10_ticksUntil_39 : decode cX10_ticksUntil 39 = .ok (.goto (-37), 3) := by decide +kernel
theorem dX10_ticksUntil_42 : decode cX10_ticksUntil 42 = .ok (.iconst (-1), 1) := by decide +kernel
theorem dX10_ticksUntil_43 : decode cX10_ticksUntil 43 = .ok (.ireturn, 1) := by decide +kernel
set_option maxRecDepth 100000 in
set_option maxHeartbeats 4000000 in
theorem t_X10_ticksUntil (l : Launch) (D : va_G) (ct : Nat → ClassId) (S : ty_S) (ws : va_W) (ph : va_W → Prop) (xx : Nat → Nat → Nat → Prop) (x : Nat) (w : Nat) (sp : Nat) (sv : Nat) (bu : Nat) (ns : Nat) (bl : Int32) (le : Int32) (p1 : Nat) (p2 : Int32) (sz : Nat) (hT : ty_V ct S ph ws) (h_w : S w = some (.inl 9)) (h_sp : S sp = some (.inl 9)) (h_sv : S sv = some (.inr (4, ns))) (h_p1 : S p1 = some (.inl 1)) (hph : ty_C ph xx) (hy1 : ty_y1 xx) : Met l yX10_ticksUntil (ws_ yX10_ticksUntil cX10_ticksUntil 4 (some .int)) ({ frames := 5, cells := 0, slots := 0, locals := 121 } : Room) (va_Pc [.ref x, .ref p1, .int p2] (cmP D ct sz ([(ty_XO x w sp sv bu bl le)] ++ ws))) (va_Qi (fun (r : Int32) (u9 : va_W) => ty_V ct S ph u9) (cmB D ([(ty_XO x w sp sv bu bl le)] ++ ws) sz (fun (u9 : va_W) => ([(ty_XO x w sp sv bu bl le)] ++ u9))) (va_A ([(ty_XO x w sp sv bu bl le)] ++ ws) sz)) 0 0 (va_A ([(ty_XO x w sp sv bu bl le)] ++ ws) sz) := by
  refine Met.ofW (cc := cX10_ticksUntil) (maxL := 4) (ret := (some .int)) (by decide) rfl ?_
  intro p e s m args below meth c s₁ B hml hv
  obtain ⟨rfl, hsz, hP, hK, hD0, hX⟩ := hv
  have hx := B.exec
  have hb := B.bytes
  have hr := B.returns
  have hts := ws_all (atoms_spec (ws := ws_ yX10_ticksUntil cX10_ticksUntil 4 (some .int)) B.pre)
  have hown : s.vm.findClass RX10 = some m.cls := findClass_of_methodNamed B.named
  have hlocks := B.notSynchronized
  subst hsz
  have hD := hD0.self (sz := s.heap.size)
  generalize hAe : va_A ([(ty_XO x w sp sv bu bl le)] ++ ws) s.heap.size = A at hD hX ⊢
  have hA : ∀ q : Nat, s.heap.size ≤ q → A q := fun q h => by rw [← hAe]; exact Or.inr h
  have hS : va_S A s.heap s.heap [] := va_S.rf
  have hl := lv_entry ([.ref x, .ref p1, .int p2]) (n := 4) (Nat.le_of_ble_eq_true rfl)
  rw [lg_entry_eq]
  generalize (lg_sl ([.ref x, .ref p1, .int p2]) ++ List.replicate (4 - (lg_sl ([.ref x, .ref p1, .int p2])).length) Slot.unset).toArray = ls at hl ⊢
  have hl : lv_has ls 4 [(0, .ref x), (1, .ref p1), (2, .int p2)] := hl
  refine lv_iconst (v := 1) hx hb dX10_ticksUntil_0 (by decide) ?_
  refine lv_istore_n (lv' := [(3, .int 1), (0, .ref x), (1, .ref p1), (2, .int p2)]) hx hb dX10_ticksUntil_1 rfl hl (by decide) rfl (fun ls hl => ?_)
  refine ty_loop (I := fun μ H locs ls => ∃ (ws : va_W) (y_1 : Int32), μ = (2147483648 - y_1.toInt).toNat ∧ ty_V ct S ph ws ∧ va_P D vwCl ([(ty_XO x w sp sv bu bl le)] ++ ws) H ∧ va_D A ([(ty_XO x w sp sv bu bl le)] ++ ws) ∧ va_S A s.heap H locs ∧ lv_has ls 4 [(0, .ref x), (1, .ref p1), (2, .int p2), (3, .int y_1)]) ⟨_, ws, (1 : Int32), rfl, hT, hP, hD, hS, (lv_sub hl [1, 2, 3, 0] rfl)⟩ (fun μ H locs ls hI ih_2 => ?_)
  obtain ⟨ws, y_1, rfl, hT, hP, hD, hS, hl⟩ := hI
  refine lv_iload_n hx hb dX10_ticksUntil_2 rfl (lv_at hl 3 rfl) ?_
  refine lv_sipush (v := 30000) hx hb dX10_ticksUntil_3 (by decide) ?_
  refine lv_icmp_gt (tgt := 42) hx hb dX10_ticksUntil_6 (by decide) (fun hc_2 => ?_) (fun hc_2 => ?_)
  · refine lv_iconst (v := (-1)) hx hb dX10_ticksUntil_42 (by decide) ?_
    exact W.iret (v := (-1)) hx hb hr (fun t ht hW => ⟨⟨(-1), ws, rfl, hT, by rw [ht]; exact hP, by rw [hAe]; exact hD⟩, hS.F ht⟩) hS.2.2 dX10_ticksUntil_43
  · refine lv_aload_n hx hb dX10_ticksUntil_9 rfl (lv_at hl 1 rfl) ?_
    refine ty_getN (E := [(ty_XO x w sp sv bu bl le)]) (ws := ws) (D := D) (ci := 1) (C := RX1) (T := TX1) (N := 14) hx hb hts in_X1 hown hK hP hT h_p1 rfl 3 (by decide) (hts _ kl_RX10_129) (fun _ h9 => h9) rfl dX10_ticksUntil_10 (fun _ hv_3 hf_4 => ?_)
    obtain ⟨x_5, rfl⟩ := hv_3
    refine lv_iconst (v := 1) hx hb dX10_ticksUntil_13 (by decide) ?_
    refine lv_icmp_ne (tgt := 42) hx hb dX10_ticksUntil_14 (by decide) (fun hc_6 => ?_) (fun hc_6 => ?_)
    · refine lv_iconst (v := (-1)) hx hb dX10_ticksUntil_42 (by decide) ?_
      exact W.iret (v := (-1)) hx hb hr (fun t ht hW => ⟨⟨(-1), ws, rfl, hT, by rw [ht]; exact hP, by rw [hAe]; exact hD⟩, hS.F ht⟩) hS.2.2 dX10_ticksUntil_43
    · refine lv_aload_n hx hb dX10_ticksUntil_17 rfl (lv_at hl 1 rfl) ?_
      refine lv_aload_n hx hb dX10_ticksUntil_18 rfl (lv_at hl 0 rfl) ?_
      refine va_get (v := .ref sp) (D := D) (ci := 10) (C := RX10) (T := TX10) (N := 6) hx hb hts in_X10 hown hK hP 0 rfl rfl 1 (by decide) (hts _ kl_RX10_16) (fun _ h9 => h9) rfl dX10_ticksUntil_19 ?_
      refine ty_ki (wr := [(ty_XO x w sp sv bu bl le)]) (wc := ([] ++ ws)) (va_runVN (As := [.ref sp]) (rest := []) ⟨hx, hb, hml, hown, hts⟩ (t_X1_passTick l D ct S ws ph xx p1 sp _ hT h_p1 h_sp hph hy1) (cm_VN 1 hts kc_X1_passTick ki_RX1 kl_RX10_168 kv_X1_passTick kx_X1_passTick kd_X1_passTick ⟨Nat.le_of_ble_eq_true rfl, Nat.le_of_ble_eq_true rfl⟩) (ty_preV (wr := [(ty_XO x w sp sv bu bl le)]) (E := []) (ws := ws) (ci := 1) hP hK hD hS hA hX hT rfl h_p1) rfl rfl hl.1 rfl (lv_room (Nat.le_of_ble_eq_true rfl)) dX10_ticksUntil_22 ⟨Nat.le_of_ble_eq_true rfl, Nat.le_of_ble_eq_true rfl⟩) hP hD hS hA (fun r_7 u H locs hw_8 hP hD hS => ?_)
      obtain ⟨ws_9, rfl⟩ : ∃ z, z = u := ⟨_, rfl⟩
      have hT := hw_8
      have hP : va_P D vwCl ([(ty_XO x w sp sv bu bl le)] ++ ws_9) H := hP
      have hD : va_D A ([(ty_XO x w sp sv bu bl le)] ++ ws_9) := hD
      refine lv_pop hx hb dX10_ticksUntil_25 rfl ?_
      refine lv_aload_n hx hb dX10_ticksUntil_26 rfl (lv_at hl 1 rfl) ?_
      refine ty_getN (E := [(ty_XO x w sp sv bu bl le)]) (ws := ws_9) (D := D) (ci := 1) (C := RX1) (T := TX1) (N := 14) hx hb hts in_X1 hown hK hP hT h_p1 rfl 3 (by decide) (hts _ kl_RX10_129) (fun _ h9 => h9) rfl dX10_ticksUntil_27 (fun _ hv_10 hf_11 => ?_)
      obtain ⟨x_12, rfl⟩ := hv_10
      refine lv_iload_n hx hb dX10_ticksUntil_30 rfl (lv_at hl 2 rfl) ?_
      refine lv_icmp_ne (tgt := 36) hx hb dX10_ticksUntil_31 (by decide) (fun hc_13 => ?_) (fun hc_13 => ?_)
      · refine lv_iinc (v := (y_1 + Int32.ofInt 1)) (lv' := [(3, .int (y_1 + Int32.ofInt 1)), (0, .ref x), (1, .ref p1), (2, .int p2)]) hx hb dX10_ticksUntil_36 hl (k := 3) rfl rfl (by decide) rfl (fun ls hl => ?_)
        refine lv_goto (tgt := 2) hx hb dX10_ticksUntil_39 (by decide) ?_
        exact ih_2 _ _ _ _ (ty_incle hc_2 (by decide)) ⟨ws_9, (y_1 + Int32.ofInt 1), rfl, hT, hP, hD, hS, (lv_sub hl [1, 2, 3, 0] rfl)⟩
      · refine lv_iload_n hx hb dX10_ticksUntil_34 rfl (lv_at hl 3 rfl) ?_
        exact W.iret (v := y_1) hx hb hr (fun t ht hW => ⟨⟨y_1, ws_9, rfl, hT, by rw [ht]; exact hP, by rw [hAe]; exact hD⟩, hS.F ht⟩) hS.2.2 dX10_ticksUntil_35
theorem dX10_doneIn_0 : decode cX10_doneIn 0 = .ok (.aload_n 0, 1) := by decide +kernel
theorem dX10_doneIn_1 : decode cX10_doneIn 1 = .ok (.iload_n 1, 1) := by decide +kernel
theorem dX10_doneIn_2 : decode cX10_doneIn 2 = .ok (.invokevirtual 321, 3) := by decide +kernel
theorem dX10_doneIn_5 : decode cX10_doneIn 5 = .ok (.astore_n 2, 1) := by decide +kernel
theorem dX10_doneIn_6 : decode cX10_doneIn 6 = .ok (.aload_n 2, 1) := by decide +kernel
theorem dX10_doneIn_7 : decode cX10_doneIn 7 = .ok (.getfield 129, 3) := by decide +kernel
theorem dX10_doneIn_10 : decode cX10_doneIn 10 = .ok (.iconst 3, 1) := by decide +kernel
theorem dX10_doneIn_11 : decode cX10_doneIn 11 = .ok (.if_icmp .ne 7, 3) := by decide +kernel
theorem dX10_doneIn_14 : decode cX10_doneIn 14 = .ok (.iconst 0, 1) := by decide +kernel
theorem dX10_doneIn_15 : decode cX10_doneIn 15 = .ok (.goto 9, 3) := by decide +kernel
theorem dX10_doneIn_18 : decode cX10_doneIn 18 = .ok (.aload_n 0, 1) := by decide +kernel
theorem dX10_doneIn_19 : decode cX10_doneIn 19 = .ok (.aload_n 2, 1) := by decide +kernel
theorem dX10_doneIn_20 : decode cX10_doneIn 20 = .ok (.iconst 3, 1) := by decide +kernel
theorem dX10_doneIn_21 : decode cX10_doneIn 21 = .ok (.invokevirtual 324, 3) := by decide +kernel
theorem dX10_doneIn_24 : decode cX10_doneIn 24 = .ok (.ireturn, 1) := by decide +kernel
set_option maxRecDepth 100000 in
set_option maxHeartbeats 4000000 in
theorem t_X10_doneIn (l : Launch) (hfl : l.stackTraces = false) (D : va_G) (ct : Nat → ClassId) (S : ty_S) (ws : va_W) (ph : va_W → Prop) (xx : Nat → Nat → Nat → Prop) (x : Nat) (w : Nat) (sp : Nat) (sv : Nat) (bu : Nat) (ns : Nat) (bl : Int32) (le : Int32) (p1 : Int32) (sz : Nat) (hT : ty_V ct S ph ws) (h_w : S w = some (.inl 9)) (h_sp : S sp = some (.inl 9)) (h_sv : S sv = some (.inr (4, ns))) (hph : ty_C ph xx) (hy1 : ty_y1 xx) (hy2 : ty_y0 xx 2) (hy5 : ty_y0 xx 5) (hy7 : ty_yc xx 7) (hy11 : ty_y0 xx 11) (hys : xx 9 0 sp ∧ xx 9 4 sp) : vx_Met l yX10_doneIn (ws_ yX10_doneIn cX10_doneIn 3 (some .int)) ({ frames := 7, cells := 1, slots := 6, locals := 189 } : Room) (va_Pc [.ref x, .int p1] (cmP D ct sz ([(ty_XO x w sp sv bu bl le)] ++ ws))) (va_Qi (fun (r : Int32) (u9 : va_W) => ty_V ct S ph u9) (cmB D ([(ty_XO x w sp sv bu bl le)] ++ ws) sz (fun (u9 : va_W) => ([(ty_XO x w sp sv bu bl le)] ++ u9))) (va_A ([(ty_XO x w sp sv bu bl le)] ++ ws) sz)) (vx_X (fun (u9 : va_W) => ty_V ct S ph u9) (cmBY D ([(ty_XO x w sp sv bu bl le)] ++ ws) sz ["java/lang/IndexOutOfBoundsException"] (fun (u9 : va_W) => ([(ty_XO x w sp sv bu bl le)] ++ u9))) (va_A ([(ty_XO x w sp sv bu bl le)] ++ ws) sz)) 1 6 (va_A ([(ty_XO x w sp sv bu bl le)] ++ ws) sz) := by
  refine vx_ofW (cc := cX10_doneIn) (maxL := 3) (ret := (some .int)) (by decide) rfl ?_
  intro p e s m args below meth c s₁ B hml hex hv
  obtain ⟨rfl, hsz, hP, hK, hD0, hX⟩ := hv
  have hx := B.exec
  have hb := B.bytes
  have hr := B.returns
  have hts := ws_all (atoms_spec (ws := ws_ yX10_doneIn cX10_doneIn 3 (some .int)) B.pre)
  have hown : s.vm.findClass RX10 = some m.cls := findClass_of_methodNamed B.named
  have hlocks := B.notSynchronized
  subst hsz
  have hD := hD0.self (sz := s.heap.size)
  generalize hAe : va_A ([(ty_XO x w sp sv bu bl le)] ++ ws) s.heap.size = A at hD hX ⊢
  have hA : ∀ q : Nat, s.heap.size ≤ q → A q := fun q h => by rw [← hAe]; exact Or.inr h
  have hS : va_S A s.heap s.heap [] := va_S.rf
  have hl := lv_entry ([.ref x, .int p1]) (n := 3) (Nat.le_of_ble_eq_true rfl)
  rw [lg_entry_eq]
  generalize (lg_sl ([.ref x, .int p1]) ++ List.replicate (3 - (lg_sl ([.ref x, .int p1])).length) Slot.unset).toArray = ls at hl ⊢
  have hl : lv_has ls 3 [(0, .ref x), (1, .int p1)] := hl
  refine lv_aload_n hx hb dX10_doneIn_0 rfl (lv_at hl 0 rfl) ?_
  refine lv_iload_n hx hb dX10_doneIn_1 rfl (lv_at hl 1 rfl) ?_
  refine ty_xq (wr := []) (wc := ([(ty_XO x w sp sv bu bl le)] ++ ws)) (vx_runV (As := [.int p1]) (rest := []) ⟨hx, hb, hml, hown, hts⟩ (t_X10_needTrial l hfl D ct S ws ph xx x w sp sv bu ns bl le p1 _ hT h_w h_sp h_sv hph hy1 hy2 hy5 hy7 hy11 hys) (cm_V 1 hts kc_X10_needTrial ki_RX10 kl_RX10_321 kv_X10_needTrial kx_X10_needTrial kd_X10_needTrial ⟨Nat.le_of_ble_eq_true rfl, Nat.le_of_ble_eq_true rfl⟩) (ty_preE (wr := []) (wc := ([(ty_XO x w sp sv bu bl le)] ++ ws)) (ci := 10) (q0 := 0) hP hK hD hS hA hX rfl rfl) rfl rfl hl.1 rfl (lv_room (Nat.le_of_ble_eq_true rfl)) dX10_doneIn_2 ⟨Nat.le_of_ble_eq_true rfl, Nat.le_of_ble_eq_true rfl⟩) hP hD hS hA (fun E ce q9 u H locs hu hE hP hD hS hce hcv hcl => ?_) (fun r_1 u H locs hw_2 hP hD hS => ?_)
  · obtain ⟨ws_3, rfl⟩ : ∃ z, z = u := ⟨_, rfl⟩
    have hT := hu
    have hP : va_P D vwCl ([(ty_XO x w sp sv bu bl le)] ++ ws_3) H := hP
    have hD : va_D A ([(ty_XO x w sp sv bu bl le)] ++ ws_3) := hD
    exact vx_out (fun x hx => (hex x hx).elim) hlocks hce hcv hcl (fun t ht hW => ⟨ws_3, hT, ⟨hE, by rw [ht]; exact hP, by rw [hAe]; exact hD⟩, hS.F ht⟩) hS.2.2 (Nat.le_of_ble_eq_true rfl) (Nat.le_of_ble_eq_true rfl)
  · obtain ⟨ws_4, rfl⟩ : ∃ z, z = u := ⟨_, rfl⟩
    obtain ⟨hT, hq_5⟩ := hw_2
    have hP : va_P D vwCl ([(ty_XO x w sp sv bu bl le)] ++ ws_4) H := hP
    have hD : va_D A ([(ty_XO x w sp sv bu bl le)] ++ ws_4) := hD
    refine W.widen (k := 1) (n := 6) (Nat.le_of_ble_eq_true rfl) (Nat.le_of_ble_eq_true rfl) ?_
    obtain ⟨a_6, rfl, ha_7⟩ := hq_5
    refine W.eq (g2 := F0 m 5 ls (.ref a_6 :: [])) rfl ?_
    refine lv_astore_n (lv' := [(2, .ref a_6), (0, .ref x), (1, .int p1)]) hx hb dX10_doneIn_5 rfl hl (by decide) rfl (fun ls hl => ?_)
    refine lv_aload_n hx hb dX10_doneIn_6 rfl (lv_at hl 0 rfl) ?_
    refine ty_getN (E := [(ty_XO x w sp sv bu bl le)]) (ws := ws_4) (D := D) (ci := 1) (C := RX1) (T := TX1) (N := 14) hx hb hts in_X1 hown hK hP hT ha_7 rfl 3 (by decide) (hts _ kl_RX10_129) (fun _ h9 => h9) rfl dX10_doneIn_7 (fun _ hv_8 hf_9 => ?_)
    obtain ⟨x_10, rfl⟩ := hv_8
    refine lv_iconst (v := 3) hx hb dX10_doneIn_10 (by decide) ?_
    refine lv_icmp_ne (tgt := 18) hx hb dX10_doneIn_11 (by decide) (fun hc_11 => ?_) (fun hc_11 => ?_)
    · refine lv_aload_n hx hb dX10_doneIn_18 rfl (lv_at hl 1 rfl) ?_
      refine lv_aload_n hx hb dX10_doneIn_19 rfl (lv_at hl 0 rfl) ?_
      refine lv_iconst (v := 3) hx hb dX10_doneIn_20 (by decide) ?_
      refine ty_ki (wr := []) (wc := ([(ty_XO x w sp sv bu bl le)] ++ ws_4)) (va_runV (As := [.ref a_6, .int 3]) (rest := []) ⟨hx, hb, hml, hown, hts⟩ (t_X10_ticksUntil l D ct S ws_4 ph xx x w sp sv bu ns bl le a_6 (3 : Int32) _ hT h_w h_sp h_sv ha_7 hph hy1) (cm_V 2 hts kc_X10_ticksUntil ki_RX10 kl_RX10_324 kv_X10_ticksUntil kx_X10_ticksUntil kd_X10_ticksUntil ⟨Nat.le_of_ble_eq_true rfl, Nat.le_of_ble_eq_true rfl⟩) (ty_preE (wr := []) (wc := ([(ty_XO x w sp sv bu bl le)] ++ ws_4)) (ci := 10) (q0 := 0) hP hK hD hS hA hX rfl rfl) rfl rfl hl.1 rfl (lv_room (Nat.le_of_ble_eq_true rfl)) dX10_doneIn_21 ⟨Nat.le_of_ble_eq_true rfl, Nat.le_of_ble_eq_true rfl⟩) hP hD hS hA (fun r_12 u H locs hw_13 hP hD hS => ?_)
      obtain ⟨ws_14, rfl⟩ : ∃ z, z = u := ⟨_, rfl⟩
      have hT := hw_13
      have hP : va_P D vwCl ([(ty_XO x w sp sv bu bl le)] ++ ws_14) H := hP
      have hD : va_D A ([(ty_XO x w sp sv bu bl le)] ++ ws_14) := hD
      refine vx_ret ?_
      exact W.iret (v := r_12) hx hb hr (fun t ht hW => ⟨⟨r_12, ws_14, rfl, hT, by rw [ht]; exact hP, by rw [hAe]; exact hD⟩, hS.F ht⟩) hS.2.2 dX10_doneIn_24
    · refine lv_iconst (v := 0) hx hb dX10_doneIn_14 (by decide) ?_
      refine lv_goto (tgt := 24) hx hb dX10_doneIn_15 (by decide) ?_
      refine vx_ret ?_
      exact W.iret (v := 0) hx hb hr (fun t ht hW => ⟨⟨0, ws_4, rfl, hT, by rw [ht]; exact hP, by rw [hAe]; exact hD⟩, hS.F ht⟩) hS.2.2 dX10_doneIn_24
theorem dX10_tripsIn_0 : decode cX10_tripsIn 0 = .ok (.aload_n 0, 1) := by decide +kernel
theorem dX10_tripsIn_1 : decode cX10_tripsIn 1 = .ok (.aload_n 0, 1) := by decide +kernel
theorem dX10_tripsIn_2 : decode cX10_tripsIn 2 = .ok (.iload_n 1, 1) := by decide +kernel
theorem dX10_tripsIn_3 : decode cX10_tripsIn 3 = .ok (.invokevirtual 321, 3) := by decide +kernel
theorem dX10_tripsIn_6 : decode cX10_tripsIn 6 = .ok (.iconst 4, 1) := by decide +kernel
theorem dX10_tripsIn_7 : decode cX10_tripsIn 7 = .ok (.invokevirtual 324, 3) := by decide +kernel
theorem dX10_tripsIn_10 : decode cX10_tripsIn 10 = .ok (.ireturn, 1) := by decide +kernel
set_option maxRecDepth 100000 in
set_option maxHeartbeats 4000000 in
theorem t_X10_tripsIn (l : Launch) (hfl : l.stackTraces = false) (D : va_G) (ct : Nat → ClassId) (S : ty_S) (ws : va_W) (ph : va_W → Prop) (xx : Nat → Nat → Nat → Prop) (x : Nat) (w : Nat) (sp : Nat) (sv : Nat) (bu : Nat) (ns : Nat) (bl : Int32) (le : Int32) (p1 : Int32) (sz : Nat) (hT : ty_V ct S ph ws) (h_w : S w = some (.inl 9)) (h_sp : S sp = some (.inl 9)) (h_sv : S sv = some (.inr (4, ns))) (hph : ty_C ph xx) (hy1 : ty_y1 xx) (hy2 : ty_y0 xx 2) (hy5 : ty_y0 xx 5) (hy7 : ty_yc xx 7) (hy11 : ty_y0 xx 11) (hys : xx 9 0 sp ∧ xx 9 4 sp) : vx_Met l yX10_tripsIn (ws_ yX10_tripsIn cX10_tripsIn 2 (some .int)) ({ frames := 7, cells := 1, slots := 6, locals := 189 } : Room) (va_Pc [.ref x, .int p1] (cmP D ct sz ([(ty_XO x w sp sv bu bl le)] ++ ws))) (va_Qi (fun (r : Int32) (u9 : va_W) => ty_V ct S ph u9) (cmB D ([(ty_XO x w sp sv bu bl le)] ++ ws) sz (fun (u9 : va_W) => ([(ty_XO x w sp sv bu bl le)] ++ u9))) (va_A ([(ty_XO x w sp sv bu bl le)] ++ ws) sz)) (vx_X (fun (u9 : va_W) => ty_V ct S ph u9) (cmBY D ([(ty_XO x w sp sv bu bl le)] ++ ws) sz ["java/lang/IndexOutOfBoundsException"] (fun (u9 : va_W) => ([(ty_XO x w sp sv bu bl le)] ++ u9))) (va_A ([(ty_XO x w sp sv bu bl le)] ++ ws) sz)) 1 6 (va_A ([(ty_XO x w sp sv bu bl le)] ++ ws) sz) := by
  refine vx_ofW (cc := cX10_tripsIn) (maxL := 2) (ret := (some .int)) (by decide) rfl ?_
  intro p e s m args below meth c s₁ B hml hex hv
  obtain ⟨rfl, hsz, hP, hK, hD0, hX⟩ := hv
  have hx := B.exec
  have hb := B.bytes
  have hr := B.returns
  have hts := ws_all (atoms_spec (ws := ws_ yX10_tripsIn cX10_tripsIn 2 (some .int)) B.pre)
  have hown : s.vm.findClass RX10 = some m.cls := findClass_of_methodNamed B.named
  have hlocks := B.notSynchronized
  subst hsz
  have hD := hD0.self (sz := s.heap.size)
  generalize hAe : va_A ([(ty_XO x w sp sv bu bl le)] ++ ws) s.heap.size = A at hD hX ⊢
  have hA : ∀ q : Nat, s.heap.size ≤ q → A q := fun q h => by rw [← hAe]; exact Or.inr h
  have hS : va_S A s.heap s.heap [] := va_S.rf
  have hl := lv_entry ([.ref x, .int p1]) (n := 2) (Nat.le_of_ble_eq_true rfl)
  rw [lg_entry_eq]
  generalize (lg_sl ([.ref x, .int p1]) ++ List.replicate (2 - (lg_sl ([.ref x, .int p1])).length) Slot.unset).toArray = ls at hl ⊢
  have hl : lv_has ls 2 [(0, .ref x), (1, .int p1)] := hl
  refine lv_aload_n hx hb dX10_tripsIn_0 rfl (lv_at hl 0 rfl) ?_
  refine lv_aload_n hx hb dX10_tripsIn_1 rfl (lv_at hl 0 rfl) ?_
  refine lv_iload_n hx hb dX10_tripsIn_2 rfl (lv_at hl 1 rfl) ?_
  refine ty_xq (wr := []) (wc := ([(ty_XO x w sp sv bu bl le)] ++ ws)) (vx_runV (As := [.int p1]) (rest := [.ref x]) ⟨hx, hb, hml, hown, hts⟩ (t_X10_needTrial l hfl D ct S ws ph xx x w sp sv bu ns bl le p1 _ hT h_w h_sp h_sv hph hy1 hy2 hy5 hy7 hy11 hys) (cm_V 1 hts kc_X10_needTrial ki_RX10 kl_RX10_321 kv_X10_needTrial kx_X10_needTrial kd_X10_needTrial ⟨Nat.le_of_ble_eq_true rfl, Nat.le_of_ble_eq_true rfl⟩) (ty_preE (wr := []) (wc := ([(ty_XO x w sp sv bu bl le)] ++ ws)) (ci := 10) (q0 := 0) hP hK hD hS hA hX rfl rfl) rfl rfl hl.1 rfl (lv_room (Nat.le_of_ble_eq_true rfl)) dX10_tripsIn_3 ⟨Nat.le_of_ble_eq_true rfl, Nat.le_of_ble_eq_true rfl⟩) hP hD hS hA (fun E ce q9 u H locs hu hE hP hD hS hce hcv hcl => ?_) (fun r_1 u H locs hw_2 hP hD hS => ?_)
  · obtain ⟨ws_3, rfl⟩ : ∃ z, z = u := ⟨_, rfl⟩
    have hT := hu
    have hP : va_P D vwCl ([(ty_XO x w sp sv bu bl le)] ++ ws_3) H := hP
    have hD : va_D A ([(ty_XO x w sp sv bu bl le)] ++ ws_3) := hD
    exact vx_out (fun x hx => (hex x hx).elim) hlocks hce hcv hcl (fun t ht hW => ⟨ws_3, hT, ⟨hE, by rw [ht]; exact hP, by rw [hAe]; exact hD⟩, hS.F ht⟩) hS.2.2 (Nat.le_of_ble_eq_true rfl) (Nat.le_of_ble_eq_true rfl)
  · obtain ⟨ws_4, rfl⟩ : ∃ z, z = u := ⟨_, rfl⟩
    obtain ⟨hT, hq_5⟩ := hw_2
    have hP : va_P D vwCl ([(ty_XO x w sp sv bu bl le)] ++ ws_4) H := hP
    have hD : va_D A ([(ty_XO x w sp sv bu bl le)] ++ ws_4) := hD
    refine W.widen (k := 1) (n := 6) (Nat.le_of_ble_eq_true rfl) (Nat.le_of_ble_eq_true rfl) ?_
    obtain ⟨a_6, rfl, ha_7⟩ := hq_5
    refine W.eq (g2 := F0 m 6 ls (.ref a_6 :: [.ref x])) rfl ?_
    refine lv_iconst (v := 4) hx hb dX10_tripsIn_6 (by decide) ?_
    refine ty_ki (wr := []) (wc := ([(ty_XO x w sp sv bu bl le)] ++ ws_4)) (va_runV (As := [.ref a_6, .int 4]) (rest := []) ⟨hx, hb, hml, hown, hts⟩ (t_X10_ticksUntil l D ct S ws_4 ph xx x w sp sv bu ns bl le a_6 (4 : Int32) _ hT h_w h_sp h_sv ha_7 hph hy1) (cm_V 2 hts kc_X10_ticksUntil ki_RX10 kl_RX10_324 kv_X10_ticksUntil kx_X10_ticksUntil kd_X10_ticksUntil ⟨Nat.le_of_ble_eq_true rfl, Nat.le_of_ble_eq_true rfl⟩) (ty_preE (wr := []) (wc := ([(ty_XO x w sp sv bu bl le)] ++ ws_4)) (ci := 10) (q0 := 0) hP hK hD hS hA hX rfl rfl) rfl rfl hl.1 rfl (lv_room (Nat.le_of_ble_eq_true rfl)) dX10_tripsIn_7 ⟨Nat.le_of_ble_eq_true rfl, Nat.le_of_ble_eq_true rfl⟩) hP hD hS hA (fun r_8 u H locs hw_9 hP hD hS => ?_)
    obtain ⟨ws_10, rfl⟩ : ∃ z, z = u := ⟨_, rfl⟩
    have hT := hw_9
    have hP : va_P D vwCl ([(ty_XO x w sp sv bu bl le)] ++ ws_10) H := hP
    have hD : va_D A ([(ty_XO x w sp sv bu bl le)] ++ ws_10) := hD
    refine vx_ret ?_
    exact W.iret (v := r_8) hx hb hr (fun t ht hW => ⟨⟨r_8, ws_10, rfl, hT, by rw [ht]; exact hP, by rw [hAe]; exact hD⟩, hS.F ht⟩) hS.2.2 dX10_tripsIn_10
theorem dX10_duration_0 : decode cX10_duration 0 = .ok (.aload_n 0, 1) := by decide +kernel
theorem dX10_duration_1 : decode cX10_duration 1 = .ok (.iload_n 1, 1) := by decide +kernel
theorem dX10_duration_2 : decode cX10_duration 2 = .ok (.invokevirtual 172, 3) := by decide +kernel
theorem dX10_duration_5 : decode cX10_duration 5 = .ok (.pop, 1) := by decide +kernel
theorem dX10_duration_6 : decode cX10_duration 6 = .ok (.aload_n 0, 1) := by decide +kernel
theorem dX10_duration_7 : decode cX10_duration 7 = .ok (.iload_n 2, 1) := by decide +kernel
theorem dX10_duration_8 : decode cX10_duration 8 = .ok (.invokevirtual 146, 3) := by decide +kernel
theorem dX10_duration_11 : decode cX10_duration 11 = .ok (.aload_n 0, 1) := by decide +kernel
theorem dX10_duration_12 : decode cX10_duration 12 = .ok (.aload_n 0, 1) := by decide +kernel
theorem dX10_duration_13 : decode cX10_duration 13 = .ok (.iload_n 1, 1) := by decide +kernel
theorem dX10_duration_14 : decode cX10_duration 14 = .ok (.iload_n 2, 1) := by decide +kernel
theorem dX10_duration_15 : decode cX10_duration 15 = .ok (.invokevirtual 336, 3) := by decide +kernel
theorem dX10_duration_18 : decode cX10_duration 18 = .ok (.iconst 3, 1) := by decide +kernel
theorem dX10_duration_19 : decode cX10_duration 19 = .ok (.invokevirtual 324, 3) := by decide +kernel
theorem dX10_duration_22 : decode cX10_duration 22 = .ok (.ireturn, 1) := by decide +kernel
set_option maxRecDepth 100000 in
set_option maxHeartbeats 4000000 in
theorem t_X10_duration (l : Launch) (hfl : l.stackTraces = false) (D : va_G) (ct : Nat → ClassId) (S : ty_S) (ws : va_W) (ph : va_W → Prop) (xx : Nat → Nat → Nat → Prop) (x : Nat) (w : Nat) (sp : Nat) (sv : Nat) (bu : Nat) (ns : Nat) (bl : Int32) (le : Int32) (p1 : Int32) (p2 : Int32) (sz : Nat) (hT : ty_V ct S ph ws) (h_w : S w = some (.inl 9)) (h_sp : S sp = some (.inl 9)) (h_sv : S sv = some (.inr (4, ns))) (hph : ty_C ph xx) (hy1 : ty_y1 xx) (hy2 : ty_y0 xx 2) (hy5 : ty_y0 xx 5) (hy7 : ty_yc xx 7) (hy11 : ty_y0 xx 11) (hys : xx 9 0 sp ∧ xx 9 4 sp) : vx_Met l yX10_duration (ws_ yX10_duration cX10_duration 3 (some .int)) ({ frames := 8, cells := 3, slots := 18, locals := 212 } : Room) (va_Pc [.ref x, .int p1, .int p2] (cmP D ct sz ([(ty_XO x w sp sv bu bl le)] ++ ws))) (va_Qi (fun (r : Int32) (u9 : va_W) => ty_V ct S ph u9) (cmB D ([(ty_XO x w sp sv bu bl le)] ++ ws) sz (fun (u9 : va_W) => ([(ty_XO x w sp sv bu bl le)] ++ u9))) (va_A ([(ty_XO x w sp sv bu bl le)] ++ ws) sz)) (vx_X (fun (u9 : va_W) => ty_V ct S ph u9) (cmBY D ([(ty_XO x w sp sv bu bl le)] ++ ws) sz ["java/lang/IndexOutOfBoundsException"] (fun (u9 : va_W) => ([(ty_XO x w sp sv bu bl le)] ++ u9))) (va_A ([(ty_XO x w sp sv bu bl le)] ++ ws) sz)) 3 18 (va_A ([(ty_XO x w sp sv bu bl le)] ++ ws) sz) := by
  refine vx_ofW (cc := cX10_duration) (maxL := 3) (ret := (some .int)) (by decide) rfl ?_
  intro p e s m args below meth c s₁ B hml hex hv
  obtain ⟨rfl, hsz, hP, hK, hD0, hX⟩ := hv
  have hx := B.exec
  have hb := B.bytes
  have hr := B.returns
  have hts := ws_all (atoms_spec (ws := ws_ yX10_duration cX10_duration 3 (some .int)) B.pre)
  have hown : s.vm.findClass RX10 = some m.cls := findClass_of_methodNamed B.named
  have hlocks := B.notSynchronized
  subst hsz
  have hD := hD0.self (sz := s.heap.size)
  generalize hAe : va_A ([(ty_XO x w sp sv bu bl le)] ++ ws) s.heap.size = A at hD hX ⊢
  have hA : ∀ q : Nat, s.heap.size ≤ q → A q := fun q h => by rw [← hAe]; exact Or.inr h
  have hS : va_S A s.heap s.heap [] := va_S.rf
  have hl := lv_entry ([.ref x, .int p1, .int p2]) (n := 3) (Nat.le_of_ble_eq_true rfl)
  rw [lg_entry_eq]
  generalize (lg_sl ([.ref x, .int p1, .int p2]) ++ List.replicate (3 - (lg_sl ([.ref x, .int p1, .int p2])).length) Slot.unset).toArray = ls at hl ⊢
  have hl : lv_has ls 3 [(0, .ref x), (1, .int p1), (2, .int p2)] := hl
  refine lv_aload_n hx hb dX10_duration_0 rfl (lv_at hl 0 rfl) ?_
  refine lv_iload_n hx hb dX10_duration_1 rfl (lv_at hl 1 rfl) ?_
  refine ty_xq (wr := []) (wc := ([(ty_XO x w sp sv bu bl le)] ++ ws)) (vx_runV (As := [.int p1]) (rest := []) ⟨hx, hb, hml, hown, hts⟩ (t_X10_needChannel l hfl D ct S ws ph xx x w sp sv bu ns bl le p1 _ hT h_w h_sp h_sv hph hy1) (cm_V 1 hts kc_X10_needChannel ki_RX10 kl_RX10_172 kv_X10_needChannel kx_X10_needChannel kd_X10_needChannel ⟨Nat.le_of_ble_eq_true rfl, Nat.le_of_ble_eq_true rfl⟩) (ty_preE (wr := []) (wc := ([(ty_XO x w sp sv bu bl le)] ++ ws)) (ci := 10) (q0 := 0) hP hK hD hS hA hX rfl rfl) rfl rfl hl.1 rfl (lv_room (Nat.le_of_ble_eq_true rfl)) dX10_duration_2 ⟨Nat.le_of_ble_eq_true rfl, Nat.le_of_ble_eq_true rfl⟩) hP hD hS hA (fun E ce q9 u H locs hu hE hP hD hS hce hcv hcl => ?_) (fun r_1 u H locs hw_2 hP hD hS => ?_)
  · obtain ⟨ws_3, rfl⟩ : ∃ z, z = u := ⟨_, rfl⟩
    have hT := hu
    have hP : va_P D vwCl ([(ty_XO x w sp sv bu bl le)] ++ ws_3) H := hP
    have hD : va_D A ([(ty_XO x w sp sv bu bl le)] ++ ws_3) := hD
    exact vx_out (fun x hx => (hex x hx).elim) hlocks hce hcv hcl (fun t ht hW => ⟨ws_3, hT, ⟨hE, by rw [ht]; exact hP, by rw [hAe]; exact hD⟩, hS.F ht⟩) hS.2.2 (Nat.le_of_ble_eq_true rfl) (Nat.le_of_ble_eq_true rfl)
  · obtain ⟨ws_4, rfl⟩ : ∃ z, z = u := ⟨_, rfl⟩
    obtain ⟨hT, hq_5⟩ := hw_2
    have hP : va_P D vwCl ([(ty_XO x w sp sv bu bl le)] ++ ws_4) H := hP
    have hD : va_D A ([(ty_XO x w sp sv bu bl le)] ++ ws_4) := hD
    refine W.widen (k := 1) (n := 6) (Nat.le_of_ble_eq_true rfl) (Nat.le_of_ble_eq_true rfl) ?_
    obtain ⟨a_6, rfl, ha_7⟩ := hq_5
    refine W.eq (g2 := F0 m 5 ls (.ref a_6 :: [])) rfl ?_
    refine lv_pop hx hb dX10_duration_5 rfl ?_
    refine lv_aload_n hx hb dX10_duration_6 rfl (lv_at hl 0 rfl) ?_
    refine lv_iload_n hx hb dX10_duration_7 rfl (lv_at hl 2 rfl) ?_
    refine ty_xv (wr := []) (wc := ([(ty_XO x w sp sv bu bl le)] ++ ws_4)) (vx_runV (As := [.int p2]) (rest := []) ⟨hx, hb, hml, hown, hts⟩ (t_X10_needProgram l hfl D ct S ws_4 ph xx x w sp sv bu ns bl le p2 _ hT h_w h_sp h_sv hph hy1) (cm_V 1 hts kc_X10_needProgram ki_RX10 kl_RX10_146 kv_X10_needProgram kx_X10_needProgram kd_X10_needProgram ⟨Nat.le_of_ble_eq_true rfl, Nat.le_of_ble_eq_true rfl⟩) (ty_preE (wr := []) (wc := ([(ty_XO x w sp sv bu bl le)] ++ ws_4)) (ci := 10) (q0 := 0) hP hK hD hS hA hX rfl rfl) rfl rfl hl.1 rfl (lv_room (Nat.le_of_ble_eq_true rfl)) dX10_duration_8 ⟨Nat.le_of_ble_eq_true rfl, Nat.le_of_ble_eq_true rfl⟩) hP hD hS hA (fun E ce q9 u H locs hu hE hP hD hS hce hcv hcl => ?_) (fun u H locs hw_9 hP hD hS => ?_)
    · obtain ⟨ws_10, rfl⟩ : ∃ z, z = u := ⟨_, rfl⟩
      have hT := hu
      have hP : va_P D vwCl ([(ty_XO x w sp sv bu bl le)] ++ ws_10) H := hP
      have hD : va_D A ([(ty_XO x w sp sv bu bl le)] ++ ws_10) := hD
      exact vx_out (fun x hx => (hex x hx).elim) hlocks hce hcv hcl (fun t ht hW => ⟨ws_10, hT, ⟨hE, by rw [ht]; exact hP, by rw [hAe]; exact hD⟩, hS.F ht⟩) hS.2.2 (Nat.le_of_ble_eq_true rfl) (Nat.le_of_ble_eq_true rfl)
    · obtain ⟨ws_11, rfl⟩ : ∃ z, z = u := ⟨_, rfl⟩
      have hT := hw_9
      have hP : va_P D vwCl ([(ty_XO x w sp sv bu bl le)] ++ ws_11) H := hP
      have hD : va_D A ([(ty_XO x w sp sv bu bl le)] ++ ws_11) := hD
      refine W.widen (k := 2) (n := 12) (Nat.le_of_ble_eq_true rfl) (Nat.le_of_ble_eq_true rfl) ?_
      refine lv_aload_n hx hb dX10_duration_11 rfl (lv_at hl 0 rfl) ?_
      refine lv_aload_n hx hb dX10_duration_12 rfl (lv_at hl 0 rfl) ?_
      refine lv_iload_n hx hb dX10_duration_13 rfl (lv_at hl 1 rfl) ?_
      refine lv_iload_n hx hb dX10_duration_14 rfl (lv_at hl 2 rfl) ?_
      refine ty_xq (wr := []) (wc := ([(ty_XO x w sp sv bu bl le)] ++ ws_11)) (vx_runV (As := [.int p1, .int p2]) (rest := [.ref x]) ⟨hx, hb, hml, hown, hts⟩ (t_X10_needTrialOf l hfl D ct S ws_11 ph xx x w sp sv bu ns bl le p1 p2 _ hT h_w h_sp h_sv hph hy1 hy2 hy5 hy7 hy11 hys) (cm_V 2 hts kc_X10_needTrialOf ki_RX10 kl_RX10_336 kv_X10_needTrialOf kx_X10_needTrialOf kd_X10_needTrialOf ⟨Nat.le_of_ble_eq_true rfl, Nat.le_of_ble_eq_true rfl⟩) (ty_preE (wr := []) (wc := ([(ty_XO x w sp sv bu bl le)] ++ ws_11)) (ci := 10) (q0 := 0) hP hK hD hS hA hX rfl rfl) rfl rfl hl.1 rfl (lv_room (Nat.le_of_ble_eq_true rfl)) dX10_duration_15 ⟨Nat.le_of_ble_eq_true rfl, Nat.le_of_ble_eq_true rfl⟩) hP hD hS hA (fun E ce q9 u H locs hu hE hP hD hS hce hcv hcl => ?_) (fun r_12 u H locs hw_13 hP hD hS => ?_)
      · obtain ⟨ws_14, rfl⟩ : ∃ z, z = u := ⟨_, rfl⟩
        have hT := hu
        have hP : va_P D vwCl ([(ty_XO x w sp sv bu bl le)] ++ ws_14) H := hP
        have hD : va_D A ([(ty_XO x w sp sv bu bl le)] ++ ws_14) := hD
        exact vx_out (fun x hx => (hex x hx).elim) hlocks hce hcv hcl (fun t ht hW => ⟨ws_14, hT, ⟨hE, by rw [ht]; exact hP, by rw [hAe]; exact hD⟩, hS.F ht⟩) hS.2.2 (Nat.le_of_ble_eq_true rfl) (Nat.le_of_ble_eq_true rfl)
      · obtain ⟨ws_15, rfl⟩ : ∃ z, z = u := ⟨_, rfl⟩
        obtain ⟨hT, hq_16⟩ := hw_13
        have hP : va_P D vwCl ([(ty_XO x w sp sv bu bl le)] ++ ws_15) H := hP
        have hD : va_D A ([(ty_XO x w sp sv bu bl le)] ++ ws_15) := hD
        refine W.widen (k := 3) (n := 18) (Nat.le_of_ble_eq_true rfl) (Nat.le_of_ble_eq_true rfl) ?_
        obtain ⟨a_17, rfl, ha_18⟩ := hq_16
        refine W.eq (g2 := F0 m 18 ls (.ref a_17 :: [.ref x])) rfl ?_
        refine lv_iconst (v := 3) hx hb dX10_duration_18 (by decide) ?_
        refine ty_ki (wr := []) (wc := ([(ty_XO x w sp sv bu bl le)] ++ ws_15)) (va_runV (As := [.ref a_17, .int 3]) (rest := []) ⟨hx, hb, hml, hown, hts⟩ (t_X10_ticksUntil l D ct S ws_15 ph xx x w sp sv bu ns bl le a_17 (3 : Int32) _ hT h_w h_sp h_sv ha_18 hph hy1) (cm_V 2 hts kc_X10_ticksUntil ki_RX10 kl_RX10_324 kv_X10_ticksUntil kx_X10_ticksUntil kd_X10_ticksUntil ⟨Nat.le_of_ble_eq_true rfl, Nat.le_of_ble_eq_true rfl⟩) (ty_preE (wr := []) (wc := ([(ty_XO x w sp sv bu bl le)] ++ ws_15)) (ci := 10) (q0 := 0) hP hK hD hS hA hX rfl rfl) rfl rfl hl.1 rfl (lv_room (Nat.le_of_ble_eq_true rfl)) dX10_duration_19 ⟨Nat.le_of_ble_eq_true rfl, Nat.le_of_ble_eq_true rfl⟩) hP hD hS hA (fun r_19 u H locs hw_20 hP hD hS => ?_)
        obtain ⟨ws_21, rfl⟩ : ∃ z, z = u := ⟨_, rfl⟩
        have hT := hw_20
        have hP : va_P D vwCl ([(ty_XO x w sp sv bu bl le)] ++ ws_21) H := hP
        have hD : va_D A ([(ty_XO x w sp sv bu bl le)] ++ ws_21) := hD
        refine vx_ret ?_
        exact W.iret (v := r_19) hx hb hr (fun t ht hW => ⟨⟨r_19, ws_21, rfl, hT, by rw [ht]; exact hP, by rw [hAe]; exact hD⟩, hS.F ht⟩) hS.2.2 dX10_duration_22
theorem dX10_capacityIf_0 : decode cX10_capacityIf 0 = .ok (.aload_n 0, 1) := by decide +kernel
theorem dX10_capacityIf_1 : decode cX10_capacityIf 1 = .ok (.iload_n 1, 1) := by decide +kernel
theorem dX10_capacityIf_2 : decode cX10_capacityIf 2 = .ok (.invokevirtual 172, 3) := by decide +kernel
theorem dX10_capacityIf_5 : decode cX10_capacityIf 5 = .ok (.pop, 1) := by decide +kernel
theorem dX10_capacityIf_6 : decode cX10_capacityIf 6 = .ok (.aload_n 0, 1) := by decide +kernel
theorem dX10_capacityIf_7 : decode cX10_capacityIf 7 = .ok (.iload_n 2, 1) := by decide +kernel
theorem dX10_capacityIf_8 : decode cX10_capacityIf 8 = .ok (.invokevirtual 146, 3) := by decide +kernel
theorem dX10_capacityIf_11 : decode cX10_capacityIf 11 = .ok (.aload_n 0, 1) := by decide +kernel
theorem dX10_capacityIf_12 : decode cX10_capacityIf 12 = .ok (.iload_n 1, 1) := by decide +kernel
theorem dX10_capacityIf_13 : decode cX10_capacityIf 13 = .ok (.iload_n 2, 1) := by decide +kernel
theorem dX10_capacityIf_14 : decode cX10_capacityIf 14 = .ok (.invokevirtual 336, 3) := by decide +kernel
theorem dX10_capacityIf_17 : decode cX10_capacityIf 17 = .ok (.astore_n 3, 1) := by decide +kernel
theorem dX10_capacityIf_18 : decode cX10_capacityIf 18 = .ok (.aload_n 0, 1) := by decide +kernel
theorem dX10_capacityIf_19 : decode cX10_capacityIf 19 = .ok (.aload_n 3, 1) := by decide +kernel
theorem dX10_capacityIf_20 : decode cX10_capacityIf 20 = .ok (.iconst 3, 1) := by decide +kernel
theorem dX10_capacityIf_21 : decode cX10_capacityIf 21 = .ok (.invokevirtual 324, 3) := by decide +kernel
theorem dX10_capacityIf_24 : decode cX10_capacityIf 24 = .ok (.iconst (-1), 1) := by decide +kernel
theorem dX10_capacityIf_25 : decode cX10_capacityIf 25 = .ok (.if_icmp .ne 7, 3) := by decide +kernel
theorem dX10_capacityIf_28 : decode cX10_capacityIf 28 = .ok (.iconst (-1), 1) := by decide +kernel
theorem dX10_capacityIf_29 : decode cX10_capacityIf 29 = .ok (.goto 10, 3) := by decide +kernel
theorem dX10_capacityIf_32 : decode cX10_capacityIf 32 = .ok (.aload_n 3, 1) := by decide +kernel
theorem dX10_capacityIf_33 : decode cX10_capacityIf 33 = .ok (.getfield 267, 3) := by decide +kernel
theorem dX10_capacityIf_36 : decode cX10_capacityIf 36 = .ok (.getfield 276, 3) := by decide +kernel
theorem dX10_capacityIf_39 : decode cX10_capacityIf 39 = .ok (.ireturn, 1) := by decide +kernel
set_option maxRecDepth 100000 in
set_option maxHeartbeats 4000000 in
theorem t_X10_capacityIf (l : Launch) (hfl : l.stackTraces = false) (D : va_G) (ct : Nat → ClassId) (S : ty_S) (ws : va_W) (ph : va_W → Prop) (xx : Nat → Nat → Nat → Prop) (x : Nat) (w : Nat) (sp : Nat) (sv : Nat) (bu : Nat) (ns : Nat) (bl : Int32) (le : Int32) (p1 : Int32) (p2 : Int32) (sz : Nat) (hT : ty_V ct S ph ws) (h_w : S w = some (.inl 9)) (h_sp : S sp = some (.inl 9)) (h_sv : S sv = some (.inr (4, ns))) (hph : ty_C ph xx) (hy1 : ty_y1 xx) (hy2 : ty_y0 xx 2) (hy5 : ty_y0 xx 5) (hy7 : ty_yc xx 7) (hy11 : ty_y0 xx 11) (hys : xx 9 0 sp ∧ xx 9 4 sp) : vx_Met l yX10_capacityIf (ws_ yX10_capacityIf cX10_capacityIf 4 (some .int)) ({ frames := 8, cells := 3, slots := 18, locals := 212 } : Room) (va_Pc [.ref x, .int p1, .int p2] (cmP D ct sz ([(ty_XO x w sp sv bu bl le)] ++ ws))) (va_Qi (fun (r : Int32) (u9 : va_W) => ty_V ct S ph u9) (cmB D ([(ty_XO x w sp sv bu bl le)] ++ ws) sz (fun (u9 : va_W) => ([(ty_XO x w sp sv bu bl le)] ++ u9))) (va_A ([(ty_XO x w sp sv bu bl le)] ++ ws) sz)) (vx_X (fun (u9 : va_W) => ty_V ct S ph u9) (cmBY D ([(ty_XO x w sp sv bu bl le)] ++ ws) sz ["java/lang/IndexOutOfBoundsException"] (fun (u9 : va_W) => ([(ty_XO x w sp sv bu bl le)] ++ u9))) (va_A ([(ty_XO x w sp sv bu bl le)] ++ ws) sz)) 3 18 (va_A ([(ty_XO x w sp sv bu bl le)] ++ ws) sz) := by
  refine vx_ofW (cc := cX10_capacityIf) (maxL := 4) (ret := (some .int)) (by decide) rfl ?_
  intro p e s m args below meth c s₁ B hml hex hv
  obtain ⟨rfl, hsz, hP, hK, hD0, hX⟩ := hv
  have hx := B.exec
  have hb := B.bytes
  have hr := B.returns
  have hts := ws_all (atoms_spec (ws := ws_ yX10_capacityIf cX10_capacityIf 4 (some .int)) B.pre)
  have hown : s.vm.findClass RX10 = some m.cls := findClass_of_methodNamed B.named
  have hlocks := B.notSynchronized
  subst hsz
  have hD := hD0.self (sz := s.heap.size)
  generalize hAe : va_A ([(ty_XO x w sp sv bu bl le)] ++ ws) s.heap.size = A at hD hX ⊢
  have hA : ∀ q : Nat, s.heap.size ≤ q → A q := fun q h => by rw [← hAe]; exact Or.inr h
  have hS : va_S A s.heap s.heap [] := va_S.rf
  have hl := lv_entry ([.ref x, .int p1, .int p2]) (n := 4) (Nat.le_of_ble_eq_true rfl)
  rw [lg_entry_eq]
  generalize (lg_sl ([.ref x, .int p1, .int p2]) ++ List.replicate (4 - (lg_sl ([.ref x, .int p1, .int p2])).length) Slot.unset).toArray = ls at hl ⊢
  have hl : lv_has ls 4 [(0, .ref x), (1, .int p1), (2, .int p2)] := hl
  refine lv_aload_n hx hb dX10_capacityIf_0 rfl (lv_at hl 0 rfl) ?_
  refine lv_iload_n hx hb dX10_capacityIf_1 rfl (lv_at hl 1 rfl) ?_
  refine ty_xq (wr := []) (wc := ([(ty_XO x w sp sv bu bl le)] ++ ws)) (vx_runV (As := [.int p1]) (rest := []) ⟨hx, hb, hml, hown, hts⟩ (t_X10_needChannel l hfl D ct S ws ph xx x w sp sv bu ns bl le p1 _ hT h_w h_sp h_sv hph hy1) (cm_V 1 hts kc_X10_needChannel ki_RX10 kl_RX10_172 kv_X10_needChannel kx_X10_needChannel kd_X10_needChannel ⟨Nat.le_of_ble_eq_true rfl, Nat.le_of_ble_eq_true rfl⟩) (ty_preE (wr := []) (wc := ([(ty_XO x w sp sv bu bl le)] ++ ws)) (ci := 10) (q0 := 0) hP hK hD hS hA hX rfl rfl) rfl rfl hl.1 rfl (lv_room (Nat.le_of_ble_eq_true rfl)) dX10_capacityIf_2 ⟨Nat.le_of_ble_eq_true rfl, Nat.le_of_ble_eq_true rfl⟩) hP hD hS hA (fun E ce q9 u H locs hu hE hP hD hS hce hcv hcl => ?_) (fun r_1 u H locs hw_2 hP hD hS => ?_)
  · obtain ⟨ws_3, rfl⟩ : ∃ z, z = u := ⟨_, rfl⟩
    have hT := hu
    have hP : va_P D vwCl ([(ty_XO x w sp sv bu bl le)] ++ ws_3) H := hP
    have hD : va_D A ([(ty_XO x w sp sv bu bl le)] ++ ws_3) := hD
    exact vx_out (fun x hx => (hex x hx).elim) hlocks hce hcv hcl (fun t ht hW => ⟨ws_3, hT, ⟨hE, by rw [ht]; exact hP, by rw [hAe]; exact hD⟩, hS.F ht⟩) hS.2.2 (Nat.le_of_ble_eq_true rfl) (Nat.le_of_ble_eq_true rfl)
  · obtain ⟨ws_4, rfl⟩ : ∃ z, z = u := ⟨_, rfl⟩
    obtain ⟨hT, hq_5⟩ := hw_2
    have hP : va_P D vwCl ([(ty_XO x w sp sv bu bl le)] ++ ws_4) H := hP
    have hD : va_D A ([(ty_XO x w sp sv bu bl le)] ++ ws_4) := hD
    refine W.widen (k := 1) (n := 6) (Nat.le_of_ble_eq_true rfl) (Nat.le_of_ble_eq_true rfl) ?_
    obtain ⟨a_6, rfl, ha_7⟩ := hq_5
    refine W.eq (g2 := F0 m 5 ls (.ref a_6 :: [])) rfl ?_
    refine lv_pop hx hb dX10_capacityIf_5 rfl ?_
    refine lv_aload_n hx hb dX10_capacityIf_6 rfl (lv_at hl 0 rfl) ?_
    refine lv_iload_n hx hb dX10_capacityIf_7 rfl (lv_at hl 2 rfl) ?_
    refine ty_xv (wr := []) (wc := ([(ty_XO x w sp sv bu bl le)] ++ ws_4)) (vx_runV (As := [.int p2]) (rest := []) ⟨hx, hb, hml, hown, hts⟩ (t_X10_needProgram l hfl D ct S ws_4 ph xx x w sp sv bu ns bl le p2 _ hT h_w h_sp h_sv hph hy1) (cm_V 1 hts kc_X10_needProgram ki_RX10 kl_RX10_146 kv_X10_needProgram kx_X10_needProgram kd_X10_needProgram ⟨Nat.le_of_ble_eq_true rfl, Nat.le_of_ble_eq_true rfl⟩) (ty_preE (wr := []) (wc := ([(ty_XO x w sp sv bu bl le)] ++ ws_4)) (ci := 10) (q0 := 0) hP hK hD hS hA hX rfl rfl) rfl rfl hl.1 rfl (lv_room (Nat.le_of_ble_eq_true rfl)) dX10_capacityIf_8 ⟨Nat.le_of_ble_eq_true rfl, Nat.le_of_ble_eq_true rfl⟩) hP hD hS hA (fun E ce q9 u H locs hu hE hP hD hS hce hcv hcl => ?_) (fun u H locs hw_9 hP hD hS => ?_)
    · obtain ⟨ws_10, rfl⟩ : ∃ z, z = u := ⟨_, rfl⟩
      have hT := hu
      have hP : va_P D vwCl ([(ty_XO x w sp sv bu bl le)] ++ ws_10) H := hP
      have hD : va_D A ([(ty_XO x w sp sv bu bl le)] ++ ws_10) := hD
      exact vx_out (fun x hx => (hex x hx).elim) hlocks hce hcv hcl (fun t ht hW => ⟨ws_10, hT, ⟨hE, by rw [ht]; exact hP, by rw [hAe]; exact hD⟩, hS.F ht⟩) hS.2.2 (Nat.le_of_ble_eq_true rfl) (Nat.le_of_ble_eq_true rfl)
    · obtain ⟨ws_11, rfl⟩ : ∃ z, z = u := ⟨_, rfl⟩
      have hT := hw_9
      have hP : va_P D vwCl ([(ty_XO x w sp sv bu bl le)] ++ ws_11) H := hP
      have hD : va_D A ([(ty_XO x w sp sv bu bl le)] ++ ws_11) := hD
      refine W.widen (k := 2) (n := 12) (Nat.le_of_ble_eq_true rfl) (Nat.le_of_ble_eq_true rfl) ?_
      refine lv_aload_n hx hb dX10_capacityIf_11 rfl (lv_at hl 0 rfl) ?_
      refine lv_iload_n hx hb dX10_capacityIf_12 rfl (lv_at hl 1 rfl) ?_
      refine lv_iload_n hx hb dX10_capacityIf_13 rfl (lv_at hl 2 rfl) ?_
      refine ty_xq (wr := []) (wc := ([(ty_XO x w sp sv bu bl le)] ++ ws_11)) (vx_runV (As := [.int p1, .int p2]) (rest := []) ⟨hx, hb, hml, hown, hts⟩ (t_X10_needTrialOf l hfl D ct S ws_11 ph xx x w sp sv bu ns bl le p1 p2 _ hT h_w h_sp h_sv hph hy1 hy2 hy5 hy7 hy11 hys) (cm_V 2 hts kc_X10_needTrialOf ki_RX10 kl_RX10_336 kv_X10_needTrialOf kx_X10_needTrialOf kd_X10_needTrialOf ⟨Nat.le_of_ble_eq_true rfl, Nat.le_of_ble_eq_true rfl⟩) (ty_preE (wr := []) (wc := ([(ty_XO x w sp sv bu bl le)] ++ ws_11)) (ci := 10) (q0 := 0) hP hK hD hS hA hX rfl rfl) rfl rfl hl.1 rfl (lv_room (Nat.le_of_ble_eq_true rfl)) dX10_capacityIf_14 ⟨Nat.le_of_ble_eq_true rfl, Nat.le_of_ble_eq_true rfl⟩) hP hD hS hA (fun E ce q9 u H locs hu hE hP hD hS hce hcv hcl => ?_) (fun r_12 u H locs hw_13 hP hD hS => ?_)
      · obtain ⟨ws_14, rfl⟩ : ∃ z, z = u := ⟨_, rfl⟩
        have hT := hu
        have hP : va_P D vwCl ([(ty_XO x w sp sv bu bl le)] ++ ws_14) H := hP
        have hD : va_D A ([(ty_XO x w sp sv bu bl le)] ++ ws_14) := hD
        exact vx_out (fun x hx => (hex x hx).elim) hlocks hce hcv hcl (fun t ht hW => ⟨ws_14, hT, ⟨hE, by rw [ht]; exact hP, by rw [hAe]; exact hD⟩, hS.F ht⟩) hS.2.2 (Nat.le_of_ble_eq_true rfl) (Nat.le_of_ble_eq_true rfl)
      · obtain ⟨ws_15, rfl⟩ : ∃ z, z = u := ⟨_, rfl⟩
        obtain ⟨hT, hq_16⟩ := hw_13
        have hP : va_P D vwCl ([(ty_XO x w sp sv bu bl le)] ++ ws_15) H := hP
        have hD : va_D A ([(ty_XO x w sp sv bu bl le)] ++ ws_15) := hD
        refine W.widen (k := 3) (n := 18) (Nat.le_of_ble_eq_true rfl) (Nat.le_of_ble_eq_true rfl) ?_
        obtain ⟨a_17, rfl, ha_18⟩ := hq_16
        refine W.eq (g2 := F0 m 17 ls (.ref a_17 :: [])) rfl ?_
        refine lv_astore_n (lv' := [(3, .ref a_17), (0, .ref x), (1, .int p1), (2, .int p2)]) hx hb dX10_capacityIf_17 rfl hl (by decide) rfl (fun ls hl => ?_)
        refine lv_aload_n hx hb dX10_capacityIf_18 rfl (lv_at hl 1 rfl) ?_
        refine lv_aload_n hx hb dX10_capacityIf_19 rfl (lv_at hl 0 rfl) ?_
        refine lv_iconst (v := 3) hx hb dX10_capacityIf_20 (by decide) ?_
        refine ty_ki (wr := []) (wc := ([(ty_XO x w sp sv bu bl le)] ++ ws_15)) (va_runV (As := [.ref a_17, .int 3]) (rest := []) ⟨hx, hb, hml, hown, hts⟩ (t_X10_ticksUntil l D ct S ws_15 ph xx x w sp sv bu ns bl le a_17 (3 : Int32) _ hT h_w h_sp h_sv ha_18 hph hy1) (cm_V 2 hts kc_X10_ticksUntil ki_RX10 kl_RX10_324 kv_X10_ticksUntil kx_X10_ticksUntil kd_X10_ticksUntil ⟨Nat.le_of_ble_eq_true rfl, Nat.le_of_ble_eq_true rfl⟩) (ty_preE (wr := []) (wc := ([(ty_XO x w sp sv bu bl le)] ++ ws_15)) (ci := 10) (q0 := 0) hP hK hD hS hA hX rfl rfl) rfl rfl hl.1 rfl (lv_room (Nat.le_of_ble_eq_true rfl)) dX10_capacityIf_21 ⟨Nat.le_of_ble_eq_true rfl, Nat.le_of_ble_eq_true rfl⟩) hP hD hS hA (fun r_19 u H locs hw_20 hP hD hS => ?_)
        obtain ⟨ws_21, rfl⟩ : ∃ z, z = u := ⟨_, rfl⟩
        have hT := hw_20
        have hP : va_P D vwCl ([(ty_XO x w sp sv bu bl le)] ++ ws_21) H := hP
        have hD : va_D A ([(ty_XO x w sp sv bu bl le)] ++ ws_21) := hD
        refine lv_iconst (v := (-1)) hx hb dX10_capacityIf_24 (by decide) ?_
        refine lv_icmp_ne (tgt := 32) hx hb dX10_capacityIf_25 (by decide) (fun hc_22 => ?_) (fun hc_22 => ?_)
        · refine lv_aload_n hx hb dX10_capacityIf_32 rfl (lv_at hl 0 rfl) ?_
          refine ty_getN (E := [(ty_XO x w sp sv bu bl le)]) (ws := ws_21) (D := D) (ci := 1) (C := RX1) (T := TX1) (N := 14) hx hb hts in_X1 hown hK hP hT ha_18 rfl 2 (by decide) (hts _ kl_RX10_267) (fun _ h9 => h9) rfl dX10_capacityIf_33 (fun _ hv_23 hf_24 => ?_)
          obtain ⟨a_25, rfl, ha_26⟩ := hv_23
          refine ty_getN (E := [(ty_XO x w sp sv bu bl le)]) (ws := ws_21) (D := D) (ci := 4) (C := RX4) (T := TX4) (N := 7) hx hb hts in_X4 hown hK hP hT ha_26 rfl 1 (by decide) (hts _ kl_RX10_276) (fun _ h9 => h9) rfl dX10_capacityIf_36 (fun _ hv_27 hf_28 => ?_)
          obtain ⟨x_29, rfl⟩ := hv_27
          refine vx_ret ?_
          exact W.iret (v := x_29) hx hb hr (fun t ht hW => ⟨⟨x_29, ws_21, rfl, hT, by rw [ht]; exact hP, by rw [hAe]; exact hD⟩, hS.F ht⟩) hS.2.2 dX10_capacityIf_39
        · refine lv_iconst (v := (-1)) hx hb dX10_capacityIf_28 (by decide) ?_
          refine lv_goto (tgt := 39) hx hb dX10_capacityIf_29 (by decide) ?_
          refine vx_ret ?_
          exact W.iret (v := (-1)) hx hb hr (fun t ht hW => ⟨⟨(-1), ws_21, rfl, hT, by rw [ht]; exact hP, by rw [hAe]; exact hD⟩, hS.F ht⟩) hS.2.2 dX10_capacityIf_39
