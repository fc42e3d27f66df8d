theorem dL_start_0 : decode cL_start 0 = .ok (.aload_n 3, 1) := by decide +kernel
theorem dL_start_1 : decode cL_start 1 = .ok (.iconst 0, 1) := by decide +kernel
theorem dL_start_2 : decode cL_start 2 = .ok (.aload_n 0, 1) := by decide +kernel
theorem dL_start_3 : decode cL_start 3 = .ok (.iload_n 1, 1) := by decide +kernel
theorem dL_start_4 : decode cL_start 4 = .ok (.iload_n 2, 1) := by decide +kernel
theorem dL_start_5 : decode cL_start 5 = .ok (.invokevirtual 37, 3) := by decide +kernel
theorem dL_start_13 : decode cL_start 13 = .ok (.astore 4, 2) := by decide +kernel
theorem dL_start_15 : decode cL_start 15 = .ok (.iconst 1, 1) := by decide +kernel
theorem dL_start_16 : decode cL_start 16 = .ok (.ireturn, 1) := by decide +kernel
set_option maxRecDepth 100000 in
set_option maxHeartbeats 4000000 in
theorem l_start (l : Launch) (hfl : l.stackTraces = false) (D : va_G) (ct : Nat → ClassId) (x : Nat) (w : Nat) (sp : Nat) (sv : Nat) (bu : Nat) (w_se : Nat) (w_cu : Nat) (w_pr : Nat) (w_ch : Nat) (w_re : Nat) (w_lo : Nat) (ov : Nat) (f : Nat → Int64) (p1 : Int32) (p2 : Int32) (sz : Nat) : Met l yL_start (wsw_ yL_start cL_start 5 (some .int) [(0, 10, 13, 32)]) ({ frames := 8, cells := 1, slots := 6, locals := 135 } : Room) (va_Pc [.ref x, .int p1, .int p2, .ref ov] (cmP D ct sz [(x, .inr (10, [.ref w, .ref sp, .ref sv, .ref bu, .int 0, .int 0])), (w, .inr (9, [.int 0, .ref w_se, .ref w_cu, .ref w_pr, .int 0, .ref w_ch, .ref w_re, .ref w_lo])), (ov, .inl (ct 1, 1, .inr (.inl f)))])) (va_Qi (fun (r : Int32) (_ : Unit) => r = 1) (cmB D [(x, .inr (10, [.ref w, .ref sp, .ref sv, .ref bu, .int 0, .int 0])), (w, .inr (9, [.int 0, .ref w_se, .ref w_cu, .ref w_pr, .int 0, .ref w_ch, .ref w_re, .ref w_lo])), (ov, .inl (ct 1, 1, .inr (.inl f)))] sz (fun _ : Unit => [])) (va_A [(x, .inr (10, [.ref w, .ref sp, .ref sv, .ref bu, .int 0, .int 0])), (w, .inr (9, [.int 0, .ref w_se, .ref w_cu, .ref w_pr, .int 0, .ref w_ch, .ref w_re, .ref w_lo])), (ov, .inl (ct 1, 1, .inr (.inl f)))] sz)) 1 6 (va_A [(x, .inr (10, [.ref w, .ref sp, .ref sv, .ref bu, .int 0, .int 0])), (w, .inr (9, [.int 0, .ref w_se, .ref w_cu, .ref w_pr, .int 0, .ref w_ch, .ref w_re, .ref w_lo])), (ov, .inl (ct 1, 1, .inr (.inl f)))] sz) := by
  refine va_MetW (cc := cL_start) (maxL := 5) (ret := (some .int)) (hh := [(0, 10, 13, 32)]) (by decide) rfl ?_
  intro p e s m args below meth c s₁ B hml hv
  have hts0 := atoms_spec (ws := wsw_ yL_start cL_start 5 (some .int) [(0, 10, 13, 32)]) B.pre
  have hts : ∀ w ∈ cm_all, w.before args s = true := fun w h => hts0 w (List.mem_cons_of_mem _ h)
  obtain ⟨rfl, hsz, hP, hK, hD0, hX⟩ := hv
  have hx := B.exec
  have hb := B.bytes
  have hr := B.returns
  have htab := vx_table (x := yL_start) B (hts0 _ List.mem_cons_self)
  have hown : s.vm.findClass RL = some m.cls := findClass_of_methodNamed B.named
  have hlocks := B.notSynchronized
  subst hsz
  have hD := hD0.self (sz := s.heap.size)
  generalize hAe : va_A [(x, .inr (10, [.ref w, .ref sp, .ref sv, .ref bu, .int 0, .int 0])), (w, .inr (9, [.int 0, .ref w_se, .ref w_cu, .ref w_pr, .int 0, .ref w_ch, .ref w_re, .ref w_lo])), (ov, .inl (ct 1, 1, .inr (.inl f)))] s.heap.size = A at hD hX ⊢
  have hA : ∀ q : Nat, s.heap.size ≤ q → A q := fun q h => by rw [← hAe]; exact Or.inr h
  have hS : va_S A s.heap s.heap [] := va_S.rf
  have hl := lv_entry ([.ref x, .int p1, .int p2, .ref ov]) (n := 5) (Nat.le_of_ble_eq_true rfl)
  rw [lg_entry_eq]
  generalize (lg_sl ([.ref x, .int p1, .int p2, .ref ov]) ++ List.replicate (5 - (lg_sl ([.ref x, .int p1, .int p2, .ref ov])).length) Slot.unset).toArray = ls at hl ⊢
  have hl : lv_has ls 5 [(0, .ref x), (1, .int p1), (2, .int p2), (3, .ref ov)] := hl
  refine lv_aload_n hx hb dL_start_0 rfl (lv_at hl 3 rfl) ?_
  refine lv_iconst (v := 0) hx hb dL_start_1 (by decide) ?_
  refine lv_aload_n hx hb dL_start_2 rfl (lv_at hl 0 rfl) ?_
  refine lv_iload_n hx hb dL_start_3 rfl (lv_at hl 1 rfl) ?_
  refine lv_iload_n hx hb dL_start_4 rfl (lv_at hl 2 rfl) ?_
  refine cm_xi (wr := [(ov, .inl (ct 1, 1, .inr (.inl f)))]) (vx_runV (As := [.int p1, .int p2]) (rest := [.int 0, .ref ov]) ⟨hx, hb, hml, hown, hts⟩ (c_start_0 l hfl D ct x w sp sv bu w_se w_cu w_pr w_ch w_re w_lo p1 p2 _) (cm_V 2 hts kc_X10_start ki_RX10 kl_RL_37 kv_X10_start kx_X10_start kd_X10_start ⟨Nat.le_of_ble_eq_true rfl, Nat.le_of_ble_eq_true rfl⟩) (cm_preV hP hK hD hS hA hX [0, 1] rfl rfl rfl (q0 := 0) (ci := 10) rfl rfl) rfl rfl hl.1 rfl (lv_room (Nat.le_of_ble_eq_true rfl)) dL_start_5 ⟨Nat.le_of_ble_eq_true rfl, Nat.le_of_ble_eq_true rfl⟩) hP hD hS hA [0, 1] [2] rfl rfl rfl (by decide) (fun E ce q9 u H locs hu hE hP hD hS hce hcv hcl => ?_) (fun r_1 u H locs hw_2 hP hD hS => ?_)
  · subst hE
    have hP : va_P D vwCl [(ov, .inl (ct 1, 1, .inr (.inl f))), (x, .inr (10, [.ref w, .ref sp, .ref sv, .ref bu, .int 0, .int 0])), (w, .inr (9, [.int 0, .ref w_se, .ref w_cu, .ref w_pr, .int 0, .ref w_ch, .ref w_re, .ref w_lo]))] H := hP
    have hD : va_D A [(ov, .inl (ct 1, 1, .inr (.inl f))), (x, .inr (10, [.ref w, .ref sp, .ref sv, .ref bu, .int 0, .int 0])), (w, .inr (9, [.int 0, .ref w_se, .ref w_cu, .ref w_pr, .int 0, .ref w_ch, .ref w_re, .ref w_lo]))] := hD
    refine vx_catch (name := "java/lang/IndexOutOfBoundsException") hown [] _ _ htab (fun z hz => absurd hz List.not_mem_nil) (by decide) (by decide) (hts _ kl_RL_32) (hts _ kcast_IOE) hce hcv hcl ?_
    refine W.eq (g2 := F0 m 13 ls [.ref q9]) rfl ?_
    refine lv_astore (lv' := [(4, .ref q9), (0, .ref x), (1, .int p1), (2, .int p2), (3, .ref ov)]) hx hb dL_start_13 hl (by decide) rfl (fun ls hl => ?_)
    refine lv_iconst (v := 1) hx hb dL_start_15 (by decide) ?_
    have hP9 := hP.sub (ws' := []) [] rfl
    have hD9 := hD.sub (ws' := []) [] (by decide) rfl
    exact W.iret (v := 1) hx hb hr (fun t ht hW => ⟨⟨1, (), rfl, rfl, by rw [ht]; exact hP9, by rw [hAe]; exact hD9⟩, hS.F ht⟩) hS.2.2 dL_start_16
  · exact hw_2.elim
theorem dL_pause_0 : decode cL_pause 0 = .ok (.aload_n 2, 1) := by decide +kernel
theorem dL_pause_1 : decode cL_pause 1 = .ok (.iconst 0, 1) := by decide +kernel
theorem dL_pause_2 : decode cL_pause 2 = .ok (.aload_n 0, 1) := by decide +kernel
theorem dL_pause_3 : decode cL_pause 3 = .ok (.iload_n 1, 1) := by decide +kernel
theorem dL_pause_4 : decode cL_pause 4 = .ok (.invokevirtual 40, 3) := by decide +kernel
theorem dL_pause_12 : decode cL_pause 12 = .ok (.astore_n 3, 1) := by decide +kernel
theorem dL_pause_13 : decode cL_pause 13 = .ok (.iconst 1, 1) := by decide +kernel
theorem dL_pause_14 : decode cL_pause 14 = .ok (.ireturn, 1) := by decide +kernel
set_option maxRecDepth 100000 in
set_option maxHeartbeats 4000000 in
theorem l_pause (l : Launch) (hfl : l.stackTraces = false) (D : va_G) (ct : Nat → ClassId) (x : Nat) (w : Nat) (sp : Nat) (sv : Nat) (bu : Nat) (w_se : Nat) (w_cu : Nat) (w_pr : Nat) (w_ch : Nat) (w_re : Nat) (w_lo : Nat) (ov : Nat) (f : Nat → Int64) (p1 : Int32) (sz : Nat) : Met l yL_pause (wsw_ yL_pause cL_pause 4 (some .int) [(0, 9, 12, 32)]) ({ frames := 8, cells := 1, slots := 6, locals := 134 } : Room) (va_Pc [.ref x, .int p1, .ref ov] (cmP D ct sz [(x, .inr (10, [.ref w, .ref sp, .ref sv, .ref bu, .int 0, .int 0])), (w, .inr (9, [.int 0, .ref w_se, .ref w_cu, .ref w_pr, .int 0, .ref w_ch, .ref w_re, .ref w_lo])), (ov, .inl (ct 1, 1, .inr (.inl f)))])) (va_Qi (fun (r : Int32) (_ : Unit) => r = 1) (cmB D [(x, .inr (10, [.ref w, .ref sp, .ref sv, .ref bu, .int 0, .int 0])), (w, .inr (9, [.int 0, .ref w_se, .ref w_cu, .ref w_pr, .int 0, .ref w_ch, .ref w_re, .ref w_lo])), (ov, .inl (ct 1, 1, .inr (.inl f)))] sz (fun _ : Unit => [])) (va_A [(x, .inr (10, [.ref w, .ref sp, .ref sv, .ref bu, .int 0, .int 0])), (w, .inr (9, [.int 0, .ref w_se, .ref w_cu, .ref w_pr, .int 0, .ref w_ch, .ref w_re, .ref w_lo])), (ov, .inl (ct 1, 1, .inr (.inl f)))] sz)) 1 6 (va_A [(x, .inr (10, [.ref w, .ref sp, .ref sv, .ref bu, .int 0, .int 0])), (w, .inr (9, [.int 0, .ref w_se, .ref w_cu, .ref w_pr, .int 0, .ref w_ch, .ref w_re, .ref w_lo])), (ov, .inl (ct 1, 1, .inr (.inl f)))] sz) := by
  refine va_MetW (cc := cL_pause) (maxL := 4) (ret := (some .int)) (hh := [(0, 9, 12, 32)]) (by decide) rfl ?_
  intro p e s m args below meth c s₁ B hml hv
  have hts0 := atoms_spec (ws := wsw_ yL_pause cL_pause 4 (some .int) [(0, 9, 12, 32)]) B.pre
  have hts : ∀ w ∈ cm_all, w.before args s = true := fun w h => hts0 w (List.mem_cons_of_mem _ h)
  obtain ⟨rfl, hsz, hP, hK, hD0, hX⟩ := hv
  have hx := B.exec
  have hb := B.bytes
  have hr := B.returns
  have htab := vx_table (x := yL_pause) B (hts0 _ List.mem_cons_self)
  have hown : s.vm.findClass RL = some m.cls := findClass_of_methodNamed B.named
  have hlocks := B.notSynchronized
  subst hsz
  have hD := hD0.self (sz := s.heap.size)
  generalize hAe : va_A [(x, .inr (10, [.ref w, .ref sp, .ref sv, .ref bu, .int 0, .int 0])), (w, .inr (9, [.int 0, .ref w_se, .ref w_cu, .ref w_pr, .int 0, .ref w_ch, .ref w_re, .ref w_lo])), (ov, .inl (ct 1, 1, .inr (.inl f)))] s.heap.size = A at hD hX ⊢
  have hA : ∀ q : Nat, s.heap.size ≤ q → A q := fun q h => by rw [← hAe]; exact Or.inr h
  have hS : va_S A s.heap s.heap [] := va_S.rf
  have hl := lv_entry ([.ref x, .int p1, .ref ov]) (n := 4) (Nat.le_of_ble_eq_true rfl)
  rw [lg_entry_eq]
  generalize (lg_sl ([.ref x, .int p1, .ref ov]) ++ List.replicate (4 - (lg_sl ([.ref x, .int p1, .ref ov])).length) Slot.unset).toArray = ls at hl ⊢
  have hl : lv_has ls 4 [(0, .ref x), (1, .int p1), (2, .ref ov)] := hl
  refine lv_aload_n hx hb dL_pause_0 rfl (lv_at hl 2 rfl) ?_
  refine lv_iconst (v := 0) hx hb dL_pause_1 (by decide) ?_
  refine lv_aload_n hx hb dL_pause_2 rfl (lv_at hl 0 rfl) ?_
  refine lv_iload_n hx hb dL_pause_3 rfl (lv_at hl 1 rfl) ?_
  refine cm_xi (wr := [(ov, .inl (ct 1, 1, .inr (.inl f)))]) (vx_runV (As := [.int p1]) (rest := [.int 0, .ref ov]) ⟨hx, hb, hml, hown, hts⟩ (c_pause_0 l hfl D ct x w sp sv bu w_se w_cu w_pr w_ch w_re w_lo p1 _) (cm_V 1 hts kc_X10_pause ki_RX10 kl_RL_40 kv_X10_pause kx_X10_pause kd_X10_pause ⟨Nat.le_of_ble_eq_true rfl, Nat.le_of_ble_eq_true rfl⟩) (cm_preV hP hK hD hS hA hX [0, 1] rfl rfl rfl (q0 := 0) (ci := 10) rfl rfl) rfl rfl hl.1 rfl (lv_room (Nat.le_of_ble_eq_true rfl)) dL_pause_4 ⟨Nat.le_of_ble_eq_true rfl, Nat.le_of_ble_eq_true rfl⟩) hP hD hS hA [0, 1] [2] rfl rfl rfl (by decide) (fun E ce q9 u H locs hu hE hP hD hS hce hcv hcl => ?_) (fun r_1 u H locs hw_2 hP hD hS => ?_)
  · subst hE
    have hP : va_P D vwCl [(ov, .inl (ct 1, 1, .inr (.inl f))), (x, .inr (10, [.ref w, .ref sp, .ref sv, .ref bu, .int 0, .int 0])), (w, .inr (9, [.int 0, .ref w_se, .ref w_cu, .ref w_pr, .int 0, .ref w_ch, .ref w_re, .ref w_lo]))] H := hP
    have hD : va_D A [(ov, .inl (ct 1, 1, .inr (.inl f))), (x, .inr (10, [.ref w, .ref sp, .ref sv, .ref bu, .int 0, .int 0])), (w, .inr (9, [.int 0, .ref w_se, .ref w_cu, .ref w_pr, .int 0, .ref w_ch, .ref w_re, .ref w_lo]))] := hD
    refine vx_catch (name := "java/lang/IndexOutOfBoundsException") hown [] _ _ htab (fun z hz => absurd hz List.not_mem_nil) (by decide) (by decide) (hts _ kl_RL_32) (hts _ kcast_IOE) hce hcv hcl ?_
    refine W.eq (g2 := F0 m 12 ls [.ref q9]) rfl ?_
    refine lv_astore_n (lv' := [(3, .ref q9), (0, .ref x), (1, .int p1), (2, .ref ov)]) hx hb dL_pause_12 rfl hl (by decide) rfl (fun ls hl => ?_)
    refine lv_iconst (v := 1) hx hb dL_pause_13 (by decide) ?_
    have hP9 := hP.sub (ws' := []) [] rfl
    have hD9 := hD.sub (ws' := []) [] (by decide) rfl
    exact W.iret (v := 1) hx hb hr (fun t ht hW => ⟨⟨1, (), rfl, rfl, by rw [ht]; exact hP9, by rw [hAe]; exact hD9⟩, hS.F ht⟩) hS.2.2 dL_pause_14
  · exact hw_2.elim
theorem dL_resume_0 : decode cL_resume 0 = .ok (.aload_n 2, 1) := by decide +kernel
theorem dL_resume_1 : decode cL_resume 1 = .ok (.iconst 0, 1) := by decide +kernel
theorem dL_resume_2 : decode cL_resume 2 = .ok (.aload_n 0, 1) := by decide +kernel
theorem dL_resume_3 : decode cL_resume 3 = .ok (.iload_n 1, 1) := by decide +kernel
theorem dL_resume_4 : decode cL_resume 4 = .ok (.invokevirtual 43, 3) := by decide +kernel
theorem dL_resume_12 : decode cL_resume 12 = .ok (.astore_n 3, 1) := by decide +kernel
theorem dL_resume_13 : decode cL_resume 13 = .ok (.iconst 1, 1) := by decide +kernel
theorem dL_resume_14 : decode cL_resume 14 = .ok (.ireturn, 1) := by decide +kernel
set_option maxRecDepth 100000 in
set_option maxHeartbeats 4000000 in
theorem l_resume (l : Launch) (hfl : l.stackTraces = false) (D : va_G) (ct : Nat → ClassId) (x : Nat) (w : Nat) (sp : Nat) (sv : Nat) (bu : Nat) (w_se : Nat) (w_cu : Nat) (w_pr : Nat) (w_ch : Nat) (w_re : Nat) (w_lo : Nat) (ov : Nat) (f : Nat → Int64) (p1 : Int32) (sz : Nat) : Met l yL_resume (wsw_ yL_resume cL_resume 4 (some .int) [(0, 9, 12, 32)]) ({ frames := 8, cells := 1, slots := 6, locals := 134 } : Room) (va_Pc [.ref x, .int p1, .ref ov] (cmP D ct sz [(x, .inr (10, [.ref w, .ref sp, .ref sv, .ref bu, .int 0, .int 0])), (w, .inr (9, [.int 0, .ref w_se, .ref w_cu, .ref w_pr, .int 0, .ref w_ch, .ref w_re, .ref w_lo])), (ov, .inl (ct 1, 1, .inr (.inl f)))])) (va_Qi (fun (r : Int32) (_ : Unit) => r = 1) (cmB D [(x, .inr (10, [.ref w, .ref sp, .ref sv, .ref bu, .int 0, .int 0])), (w, .inr (9, [.int 0, .ref w_se, .ref w_cu, .ref w_pr, .int 0, .ref w_ch, .ref w_re, .ref w_lo])), (ov, .inl (ct 1, 1, .inr (.inl f)))] sz (fun _ : Unit => [])) (va_A [(x, .inr (10, [.ref w, .ref sp, .ref sv, .ref bu, .int 0, .int 0])), (w, .inr (9, [.int 0, .ref w_se, .ref w_cu, .ref w_pr, .int 0, .ref w_ch, .ref w_re, .ref w_lo])), (ov, .inl (ct 1, 1, .inr (.inl f)))] sz)) 1 6 (va_A [(x, .inr (10, [.ref w, .ref sp, .ref sv, .ref bu, .int 0, .int 0])), (w, .inr (9, [.int 0, .ref w_se, .ref w_cu, .ref w_pr, .int 0, .ref w_ch, .ref w_re, .ref w_lo])), (ov, .inl (ct 1, 1, .inr (.inl f)))] sz) := by
  refine va_MetW (cc := cL_resume) (maxL := 4) (ret := (some .int)) (hh := [(0, 9, 12, 32)]) (by decide) rfl ?_
  intro p e s m args below meth c s₁ B hml hv
  have hts0 := atoms_spec (ws := wsw_ yL_resume cL_resume 4 (some .int) [(0, 9, 12, 32)]) B.pre
  have hts : ∀ w ∈ cm_all, w.before args s = true := fun w h => hts0 w (List.mem_cons_of_mem _ h)
  obtain ⟨rfl, hsz, hP, hK, hD0, hX⟩ := hv
  have hx := B.exec
  have hb := B.bytes
  have hr := B.returns
  have htab := vx_table (x := yL_resume) B (hts0 _ List.mem_cons_self)
  have hown : s.vm.findClass RL = some m.cls := findClass_of_methodNamed B.named
  have hlocks := B.notSynchronized
  subst hsz
  have hD := hD0.self (sz := s.heap.size)
  generalize hAe : va_A [(x, .inr (10, [.ref w, .ref sp, .ref sv, .ref bu, .int 0, .int 0])), (w, .inr (9, [.int 0, .ref w_se, .ref w_cu, .ref w_pr, .int 0, .ref w_ch, .ref w_re, .ref w_lo])), (ov, .inl (ct 1, 1, .inr (.inl f)))] s.heap.size = A at hD hX ⊢
  have hA : ∀ q : Nat, s.heap.size ≤ q → A q := fun q h => by rw [← hAe]; exact Or.inr h
  have hS : va_S A s.heap s.heap [] := va_S.rf
  have hl := lv_entry ([.ref x, .int p1, .ref ov]) (n := 4) (Nat.le_of_ble_eq_true rfl)
  rw [lg_entry_eq]
  generalize (lg_sl ([.ref x, .int p1, .ref ov]) ++ List.replicate (4 - (lg_sl ([.ref x, .int p1, .ref ov])).length) Slot.unset).toArray = ls at hl ⊢
  have hl : lv_has ls 4 [(0, .ref x), (1, .int p1), (2, .ref ov)] := hl
  refine lv_aload_n hx hb dL_resume_0 rfl (lv_at hl 2 rfl) ?_
  refine lv_iconst (v := 0) hx hb dL_resume_1 (by decide) ?_
  refine lv_aload_n hx hb dL_resume_2 rfl (lv_at hl 0 rfl) ?_
  refine lv_iload_n hx hb dL_resume_3 rfl (lv_at hl 1 rfl) ?_
  refine cm_xi (wr := [(ov, .inl (ct 1, 1, .inr (.inl f)))]) (vx_runV (As := [.int p1]) (rest := [.int 0, .ref ov]) ⟨hx, hb, hml, hown, hts⟩ (c_resume_0 l hfl D ct x w sp sv bu w_se w_cu w_pr w_ch w_re w_lo p1 _) (cm_V 1 hts kc_X10_resume ki_RX10 kl_RL_43 kv_X10_resume kx_X10_resume kd_X10_resume ⟨Nat.le_of_ble_eq_true rfl, Nat.le_of_ble_eq_true rfl⟩) (cm_preV hP hK hD hS hA hX [0, 1] rfl rfl rfl (q0 := 0) (ci := 10) rfl rfl) rfl rfl hl.1 rfl (lv_room (Nat.le_of_ble_eq_true rfl)) dL_resume_4 ⟨Nat.le_of_ble_eq_true rfl, Nat.le_of_ble_eq_true rfl⟩) hP hD hS hA [0, 1] [2] rfl rfl rfl (by decide) (fun E ce q9 u H locs hu hE hP hD hS hce hcv hcl => ?_) (fun r_1 u H locs hw_2 hP hD hS => ?_)
  · subst hE
    have hP : va_P D vwCl [(ov, .inl (ct 1, 1, .inr (.inl f))), (x, .inr (10, [.ref w, .ref sp, .ref sv, .ref bu, .int 0, .int 0])), (w, .inr (9, [.int 0, .ref w_se, .ref w_cu, .ref w_pr, .int 0, .ref w_ch, .ref w_re, .ref w_lo]))] H := hP
    have hD : va_D A [(ov, .inl (ct 1, 1, .inr (.inl f))), (x, .inr (10, [.ref w, .ref sp, .ref sv, .ref bu, .int 0, .int 0])), (w, .inr (9, [.int 0, .ref w_se, .ref w_cu, .ref w_pr, .int 0, .ref w_ch, .ref w_re, .ref w_lo]))] := hD
    refine vx_catch (name := "java/lang/IndexOutOfBoundsException") hown [] _ _ htab (fun z hz => absurd hz List.not_mem_nil) (by decide) (by decide) (hts _ kl_RL_32) (hts _ kcast_IOE) hce hcv hcl ?_
    refine W.eq (g2 := F0 m 12 ls [.ref q9]) rfl ?_
    refine lv_astore_n (lv' := [(3, .ref q9), (0, .ref x), (1, .int p1), (2, .ref ov)]) hx hb dL_resume_12 rfl hl (by decide) rfl (fun ls hl => ?_)
    refine lv_iconst (v := 1) hx hb dL_resume_13 (by decide) ?_
    have hP9 := hP.sub (ws' := []) [] rfl
    have hD9 := hD.sub (ws' := []) [] (by decide) rfl
    exact W.iret (v := 1) hx hb hr (fun t ht hW => ⟨⟨1, (), rfl, rfl, by rw [ht]; exact hP9, by rw [hAe]; exact hD9⟩, hS.F ht⟩) hS.2.2 dL_resume_14
  · exact hw_2.elim
theorem dL_stop_0 : decode cL_stop 0 = .ok (.aload_n 2, 1) := by decide +kernel
theorem dL_stop_1 : decode cL_stop 1 = .ok (.iconst 0, 1) := by decide +kernel
theorem dL_stop_2 : decode cL_stop 2 = .ok (.aload_n 0, 1) := by decide +kernel
theorem dL_stop_3 : decode cL_stop 3 = .ok (.iload_n 1, 1) := by decide +kernel
theorem dL_stop_4 : decode cL_stop 4 = .ok (.invokevirtual 46, 3) := by decide +kernel
theorem dL_stop_12 : decode cL_stop 12 = .ok (.astore_n 3, 1) := by decide +kernel
theorem dL_stop_13 : decode cL_stop 13 = .ok (.iconst 1, 1) := by decide +kernel
theorem dL_stop_14 : decode cL_stop 14 = .ok (.ireturn, 1) := by decide +kernel
set_option maxRecDepth 100000 in
set_option maxHeartbeats 4000000 in
theorem l_stop (l : Launch) (hfl : l.stackTraces = false) (D : va_G) (ct : Nat → ClassId) (x : Nat) (w : Nat) (sp : Nat) (sv : Nat) (bu : Nat) (w_se : Nat) (w_cu : Nat) (w_pr : Nat) (w_ch : Nat) (w_re : Nat) (w_lo : Nat) (ov : Nat) (f : Nat → Int64) (p1 : Int32) (sz : Nat) : Met l yL_stop (wsw_ yL_stop cL_stop 4 (some .int) [(0, 9, 12, 32)]) ({ frames := 8, cells := 1, slots := 6, locals := 135 } : Room) (va_Pc [.ref x, .int p1, .ref ov] (cmP D ct sz [(x, .inr (10, [.ref w, .ref sp, .ref sv, .ref bu, .int 0, .int 0])), (w, .inr (9, [.int 0, .ref w_se, .ref w_cu, .ref w_pr, .int 0, .ref w_ch, .ref w_re, .ref w_lo])), (ov, .inl (ct 1, 1, .inr (.inl f)))])) (va_Qi (fun (r : Int32) (_ : Unit) => r = 1) (cmB D [(x, .inr (10, [.ref w, .ref sp, .ref sv, .ref bu, .int 0, .int 0])), (w, .inr (9, [.int 0, .ref w_se, .ref w_cu, .ref w_pr, .int 0, .ref w_ch, .ref w_re, .ref w_lo])), (ov, .inl (ct 1, 1, .inr (.inl f)))] sz (fun _ : Unit => [])) (va_A [(x, .inr (10, [.ref w, .ref sp, .ref sv, .ref bu, .int 0, .int 0])), (w, .inr (9, [.int 0, .ref w_se, .ref w_cu, .ref w_pr, .int 0, .ref w_ch, .ref w_re, .ref w_lo])), (ov, .inl (ct 1, 1, .inr (.inl f)))] sz)) 1 6 (va_A [(x, .inr (10, [.ref w, .ref sp, .ref sv, .ref bu, .int 0, .int 0])), (w, .inr (9, [.int 0, .ref w_se, .ref w_cu, .ref w_pr, .int 0, .ref w_ch, .ref w_re, .ref w_lo])), (ov, .inl (ct 1, 1, .inr (.inl f)))] sz) := by
  refine va_MetW (cc := cL_stop) (maxL := 4) (ret := (some .int)) (hh := [(0, 9, 12, 32)]) (by decide) rfl ?_
  intro p e s m args below meth c s₁ B hml hv
  have hts0 := atoms_spec (ws := wsw_ yL_stop cL_stop 4 (some .int) [(0, 9, 12, 32)]) B.pre
  have hts : ∀ w ∈ cm_all, w.before args s = true := fun w h => hts0 w (List.mem_cons_of_mem _ h)
  obtain ⟨rfl, hsz, hP, hK, hD0, hX⟩ := hv
  have hx := B.exec
  have hb := B.bytes
  have hr := B.returns
  have htab := vx_table (x := yL_stop) B (hts0 _ List.mem_cons_self)
  have hown : s.vm.findClass RL = some m.cls := findClass_of_methodNamed B.named
  have hlocks := B.notSynchronized
  subst hsz
  have hD := hD0.self (sz := s.heap.size)
  generalize hAe : va_A [(x, .inr (10, [.ref w, .ref sp, .ref sv, .ref bu, .int 0, .int 0])), (w, .inr (9, [.int 0, .ref w_se, .ref w_cu, .ref w_pr, .int 0, .ref w_ch, .ref w_re, .ref w_lo])), (ov, .inl (ct 1, 1, .inr (.inl f)))] s.heap.size = A at hD hX ⊢
  have hA : ∀ q : Nat, s.heap.size ≤ q → A q := fun q h => by rw [← hAe]; exact Or.inr h
  have hS : va_S A s.heap s.heap [] := va_S.rf
  have hl := lv_entry ([.ref x, .int p1, .ref ov]) (n := 4) (Nat.le_of_ble_eq_true rfl)
  rw [lg_entry_eq]
  generalize (lg_sl ([.ref x, .int p1, .ref ov]) ++ List.replicate (4 - (lg_sl ([.ref x, .int p1, .ref ov])).length) Slot.unset).toArray = ls at hl ⊢
  have hl : lv_has ls 4 [(0, .ref x), (1, .int p1), (2, .ref ov)] := hl
  refine lv_aload_n hx hb dL_stop_0 rfl (lv_at hl 2 rfl) ?_
  refine lv_iconst (v := 0) hx hb dL_stop_1 (by decide) ?_
  refine lv_aload_n hx hb dL_stop_2 rfl (lv_at hl 0 rfl) ?_
  refine lv_iload_n hx hb dL_stop_3 rfl (lv_at hl 1 rfl) ?_
  refine cm_xi (wr := [(ov, .inl (ct 1, 1, .inr (.inl f)))]) (vx_runV (As := [.int p1]) (rest := [.int 0, .ref ov]) ⟨hx, hb, hml, hown, hts⟩ (c_stop_0 l hfl D ct x w sp sv bu w_se w_cu w_pr w_ch w_re w_lo p1 _) (cm_V 1 hts kc_X10_stop ki_RX10 kl_RL_46 kv_X10_stop kx_X10_stop kd_X10_stop ⟨Nat.le_of_ble_eq_true rfl, Nat.le_of_ble_eq_true rfl⟩) (cm_preV hP hK hD hS hA hX [0, 1] rfl rfl rfl (q0 := 0) (ci := 10) rfl rfl) rfl rfl hl.1 rfl (lv_room (Nat.le_of_ble_eq_true rfl)) dL_stop_4 ⟨Nat.le_of_ble_eq_true rfl, Nat.le_of_ble_eq_true rfl⟩) hP hD hS hA [0, 1] [2] rfl rfl rfl (by decide) (fun E ce q9 u H locs hu hE hP hD hS hce hcv hcl => ?_) (fun r_1 u H locs hw_2 hP hD hS => ?_)
  · subst hE
    have hP : va_P D vwCl [(ov, .inl (ct 1, 1, .inr (.inl f))), (x, .inr (10, [.ref w, .ref sp, .ref sv, .ref bu, .int 0, .int 0])), (w, .inr (9, [.int 0, .ref w_se, .ref w_cu, .ref w_pr, .int 0, .ref w_ch, .ref w_re, .ref w_lo]))] H := hP
    have hD : va_D A [(ov, .inl (ct 1, 1, .inr (.inl f))), (x, .inr (10, [.ref w, .ref sp, .ref sv, .ref bu, .int 0, .int 0])), (w, .inr (9, [.int 0, .ref w_se, .ref w_cu, .ref w_pr, .int 0, .ref w_ch, .ref w_re, .ref w_lo]))] := hD
    refine vx_catch (name := "java/lang/IndexOutOfBoundsException") hown [] _ _ htab (fun z hz => absurd hz List.not_mem_nil) (by decide) (by decide) (hts _ kl_RL_32) (hts _ kcast_IOE) hce hcv hcl ?_
    refine W.eq (g2 := F0 m 12 ls [.ref q9]) rfl ?_
    refine lv_astore_n (lv' := [(3, .ref q9), (0, .ref x), (1, .int p1), (2, .ref ov)]) hx hb dL_stop_12 rfl hl (by decide) rfl (fun ls hl => ?_)
    refine lv_iconst (v := 1) hx hb dL_stop_13 (by decide) ?_
    have hP9 := hP.sub (ws' := []) [] rfl
    have hD9 := hD.sub (ws' := []) [] (by decide) rfl
    exact W.iret (v := 1) hx hb hr (fun t ht hW => ⟨⟨1, (), rfl, rfl, by rw [ht]; exact hP9, by rw [hAe]; exact hD9⟩, hS.F ht⟩) hS.2.2 dL_stop_14
  · exact hw_2.elim
theorem dL_skip_0 : decode cL_skip 0 = .ok (.aload_n 2, 1) := by decide +kernel
theorem dL_skip_1 : decode cL_skip 1 = .ok (.iconst 0, 1) := by decide +kernel
theorem dL_skip_2 : decode cL_skip 2 = .ok (.aload_n 0, 1) := by decide +kernel
theorem dL_skip_3 : decode cL_skip 3 = .ok (.iload_n 1, 1) := by decide +kernel
theorem dL_skip_4 : decode cL_skip 4 = .ok (.invokevirtual 49, 3) := by decide +kernel
theorem dL_skip_12 : decode cL_skip 12 = .ok (.astore_n 3, 1) := by decide +kernel
theorem dL_skip_13 : decode cL_skip 13 = .ok (.iconst 1, 1) := by decide +kernel
theorem dL_skip_14 : decode cL_skip 14 = .ok (.ireturn, 1) := by decide +kernel
set_option maxRecDepth 100000 in
set_option maxHeartbeats 4000000 in
theorem l_skip (l : Launch) (hfl : l.stackTraces = false) (D : va_G) (ct : Nat → ClassId) (x : Nat) (w : Nat) (sp : Nat) (sv : Nat) (bu : Nat) (w_se : Nat) (w_cu : Nat) (w_pr : Nat) (w_ch : Nat) (w_re : Nat) (w_lo : Nat) (ov : Nat) (f : Nat → Int64) (p1 : Int32) (sz : Nat) : Met l yL_skip (wsw_ yL_skip cL_skip 4 (some .int) [(0, 9, 12, 32)]) ({ frames := 8, cells := 1, slots := 6, locals := 134 } : Room) (va_Pc [.ref x, .int p1, .ref ov] (cmP D ct sz [(x, .inr (10, [.ref w, .ref sp, .ref sv, .ref bu, .int 0, .int 0])), (w, .inr (9, [.int 0, .ref w_se, .ref w_cu, .ref w_pr, .int 0, .ref w_ch, .ref w_re, .ref w_lo])), (ov, .inl (ct 1, 1, .inr (.inl f)))])) (va_Qi (fun (r : Int32) (_ : Unit) => r = 1) (cmB D [(x, .inr (10, [.ref w, .ref sp, .ref sv, .ref bu, .int 0, .int 0])), (w, .inr (9, [.int 0, .ref w_se, .ref w_cu, .ref w_pr, .int 0, .ref w_ch, .ref w_re, .ref w_lo])), (ov, .inl (ct 1, 1, .inr (.inl f)))] sz (fun _ : Unit => [])) (va_A [(x, .inr (10, [.ref w, .ref sp, .ref sv, .ref bu, .int 0, .int 0])), (w, .inr (9, [.int 0, .ref w_se, .ref w_cu, .ref w_pr, .int 0, .ref w_ch, .ref w_re, .ref w_lo])), (ov, .inl (ct 1, 1, .inr (.inl f)))] sz)) 1 6 (va_A [(x, .inr (10, [.ref w, .ref sp, .ref sv, .ref bu, .int 0, .int 0])), (w, .inr (9, [.int 0, .ref w_se, .ref w_cu, .ref w_pr, .int 0, .ref w_ch, .ref w_re, .ref w_lo])), (ov, .inl (ct 1, 1, .inr (.inl f)))] sz) := by
  refine va_MetW (cc := cL_skip) (maxL := 4) (ret := (some .int)) (hh := [(0, 9, 12, 32)]) (by decide) rfl ?_
  intro p e s m args below meth c s₁ B hml hv
  have hts0 := atoms_spec (ws := wsw_ yL_skip cL_skip 4 (some .int) [(0, 9, 12, 32)]) B.pre
  have hts : ∀ w ∈ cm_all, w.before args s = true := fun w h => hts0 w (List.mem_cons_of_mem _ h)
  obtain ⟨rfl, hsz, hP, hK, hD0, hX⟩ := hv
  have hx := B.exec
  have hb := B.bytes
  have hr := B.returns
  have htab := vx_table (x := yL_skip) B (hts0 _ List.mem_cons_self)
  have hown : s.vm.findClass RL = some m.cls := findClass_of_methodNamed B.named
  have hlocks := B.notSynchronized
  subst hsz
  have hD := hD0.self (sz := s.heap.size)
  generalize hAe : va_A [(x, .inr (10, [.ref w, .ref sp, .ref sv, .ref bu, .int 0, .int 0])), (w, .inr (9, [.int 0, .ref w_se, .ref w_cu, .ref w_pr, .int 0, .ref w_ch, .ref w_re, .ref w_lo])), (ov, .inl (ct 1, 1, .inr (.inl f)))] s.heap.size = A at hD hX ⊢
  have hA : ∀ q : Nat, s.heap.size ≤ q → A q := fun q h => by rw [← hAe]; exact Or.inr h
  have hS : va_S A s.heap s.heap [] := va_S.rf
  have hl := lv_entry ([.ref x, .int p1, .ref ov]) (n := 4) (Nat.le_of_ble_eq_true rfl)
  rw [lg_entry_eq]
  generalize (lg_sl ([.ref x, .int p1, .ref ov]) ++ List.replicate (4 - (lg_sl ([.ref x, .int p1, .ref ov])).length) Slot.unset).toArray = ls at hl ⊢
  have hl : lv_has ls 4 [(0, .ref x), (1, .int p1), (2, .ref ov)] := hl
  refine lv_aload_n hx hb dL_skip_0 rfl (lv_at hl 2 rfl) ?_
  refine lv_iconst (v := 0) hx hb dL_skip_1 (by decide) ?_
  refine lv_aload_n hx hb dL_skip_2 rfl (lv_at hl 0 rfl) ?_
  refine lv_iload_n hx hb dL_skip_3 rfl (lv_at hl 1 rfl) ?_
  refine cm_xi (wr := [(ov, .inl (ct 1, 1, .inr (.inl f)))]) (vx_runV (As := [.int p1]) (rest := [.int 0, .ref ov]) ⟨hx, hb, hml, hown, hts⟩ (c_skip_0 l hfl D ct x w sp sv bu w_se w_cu w_pr w_ch w_re w_lo p1 _) (cm_V 1 hts kc_X10_skip ki_RX10 kl_RL_49 kv_X10_skip kx_X10_skip kd_X10_skip ⟨Nat.le_of_ble_eq_true rfl, Nat.le_of_ble_eq_true rfl⟩) (cm_preV hP hK hD hS hA hX [0, 1] rfl rfl rfl (q0 := 0) (ci := 10) rfl rfl) rfl rfl hl.1 rfl (lv_room (Nat.le_of_ble_eq_true rfl)) dL_skip_4 ⟨Nat.le_of_ble_eq_true rfl, Nat.le_of_ble_eq_true rfl⟩) hP hD hS hA [0, 1] [2] rfl rfl rfl (by decide) (fun E ce q9 u H locs hu hE hP hD hS hce hcv hcl => ?_) (fun r_1 u H locs hw_2 hP hD hS => ?_)
  · subst hE
    have hP : va_P D vwCl [(ov, .inl (ct 1, 1, .inr (.inl f))), (x, .inr (10, [.ref w, .ref sp, .ref sv, .ref bu, .int 0, .int 0])), (w, .inr (9, [.int 0, .ref w_se, .ref w_cu, .ref w_pr, .int 0, .ref w_ch, .ref w_re, .ref w_lo]))] H := hP
    have hD : va_D A [(ov, .inl (ct 1, 1, .inr (.inl f))), (x, .inr (10, [.ref w, .ref sp, .ref sv, .ref bu, .int 0, .int 0])), (w, .inr (9, [.int 0, .ref w_se, .ref w_cu, .ref w_pr, .int 0, .ref w_ch, .ref w_re, .ref w_lo]))] := hD
    refine vx_catch (name := "java/lang/IndexOutOfBoundsException") hown [] _ _ htab (fun z hz => absurd hz List.not_mem_nil) (by decide) (by decide) (hts _ kl_RL_32) (hts _ kcast_IOE) hce hcv hcl ?_
    refine W.eq (g2 := F0 m 12 ls [.ref q9]) rfl ?_
    refine lv_astore_n (lv' := [(3, .ref q9), (0, .ref x), (1, .int p1), (2, .ref ov)]) hx hb dL_skip_12 rfl hl (by decide) rfl (fun ls hl => ?_)
    refine lv_iconst (v := 1) hx hb dL_skip_13 (by decide) ?_
    have hP9 := hP.sub (ws' := []) [] rfl
    have hD9 := hD.sub (ws' := []) [] (by decide) rfl
    exact W.iret (v := 1) hx hb hr (fun t ht hW => ⟨⟨1, (), rfl, rfl, by rw [ht]; exact hP9, by rw [hAe]; exact hD9⟩, hS.F ht⟩) hS.2.2 dL_skip_14
  · exact hw_2.elim
theorem dL_replace_0 : decode cL_replace 0 = .ok (.aload_n 3, 1) := by decide +kernel
theorem dL_replace_1 : decode cL_replace 1 = .ok (.iconst 0, 1) := by decide +kernel
theorem dL_replace_2 : decode cL_replace 2 = .ok (.aload_n 0, 1) := by decide +kernel
theorem dL_replace_3 : decode cL_replace 3 = .ok (.iload_n 1, 1) := by decide +kernel
theorem dL_replace_4 : decode cL_replace 4 = .ok (.iload_n 2, 1) := by decide +kernel
theorem dL_replace_5 : decode cL_replace 5 = .ok (.invokevirtual 52, 3) := by decide +kernel
theorem dL_replace_13 : decode cL_replace 13 = .ok (.astore 4, 2) := by decide +kernel
theorem dL_replace_15 : decode cL_replace 15 = .ok (.iconst 1, 1) := by decide +kernel
theorem dL_replace_16 : decode cL_replace 16 = .ok (.ireturn, 1) := by decide +kernel
set_option maxRecDepth 100000 in
set_option maxHeartbeats 4000000 in
theorem l_replace (l : Launch) (hfl : l.stackTraces = false) (D : va_G) (ct : Nat → ClassId) (x : Nat) (w : Nat) (sp : Nat) (sv : Nat) (bu : Nat) (w_se : Nat) (w_cu : Nat) (w_pr : Nat) (w_ch : Nat) (w_re : Nat) (w_lo : Nat) (ov : Nat) (f : Nat → Int64) (p1 : Int32) (p2 : Int32) (sz : Nat) : Met l yL_replace (wsw_ yL_replace cL_replace 5 (some .int) [(0, 10, 13, 32), (0, 10, 17, 13)]) ({ frames := 8, cells := 1, slots := 6, locals := 136 } : Room) (va_Pc [.ref x, .int p1, .int p2, .ref ov] (cmP D ct sz [(x, .inr (10, [.ref w, .ref sp, .ref sv, .ref bu, .int 0, .int 0])), (w, .inr (9, [.int 0, .ref w_se, .ref w_cu, .ref w_pr, .int 0, .ref w_ch, .ref w_re, .ref w_lo])), (ov, .inl (ct 1, 1, .inr (.inl f)))])) (va_Qi (fun (r : Int32) (_ : Unit) => r = 1) (cmB D [(x, .inr (10, [.ref w, .ref sp, .ref sv, .ref bu, .int 0, .int 0])), (w, .inr (9, [.int 0, .ref w_se, .ref w_cu, .ref w_pr, .int 0, .ref w_ch, .ref w_re, .ref w_lo])), (ov, .inl (ct 1, 1, .inr (.inl f)))] sz (fun _ : Unit => [])) (va_A [(x, .inr (10, [.ref w, .ref sp, .ref sv, .ref bu, .int 0, .int 0])), (w, .inr (9, [.int 0, .ref w_se, .ref w_cu, .ref w_pr, .int 0, .ref w_ch, .ref w_re, .ref w_lo])), (ov, .inl (ct 1, 1, .inr (.inl f)))] sz)) 1 6 (va_A [(x, .inr (10, [.ref w, .ref sp, .ref sv, .ref bu, .int 0, .int 0])), (w, .inr (9, [.int 0, .ref w_se, .ref w_cu, .ref w_pr, .int 0, .ref w_ch, .ref w_re, .ref w_lo])), (ov, .inl (ct 1, 1, .inr (.inl f)))] sz) := by
  refine va_MetW (cc := cL_replace) (maxL := 5) (ret := (some .int)) (hh := [(0, 10, 13, 32), (0, 10, 17, 13)]) (by decide) rfl ?_
  intro p e s m args below meth c s₁ B hml hv
  have hts0 := atoms_spec (ws := wsw_ yL_replace cL_replace 5 (some .int) [(0, 10, 13, 32), (0, 10, 17, 13)]) B.pre
  have hts : ∀ w ∈ cm_all, w.before args s = true := fun w h => hts0 w (List.mem_cons_of_mem _ h)
  obtain ⟨rfl, hsz, hP, hK, hD0, hX⟩ := hv
  have hx := B.exec
  have hb := B.bytes
  have hr := B.returns
  have htab := vx_table (x := yL_replace) B (hts0 _ List.mem_cons_self)
  have hown : s.vm.findClass RL = some m.cls := findClass_of_methodNamed B.named
  have hlocks := B.notSynchronized
  subst hsz
  have hD := hD0.self (sz := s.heap.size)
  generalize hAe : va_A [(x, .inr (10, [.ref w, .ref sp, .ref sv, .ref bu, .int 0, .int 0])), (w, .inr (9, [.int 0, .ref w_se, .ref w_cu, .ref w_pr, .int 0, .ref w_ch, .ref w_re, .ref w_lo])), (ov, .inl (ct 1, 1, .inr (.inl f)))] s.heap.size = A at hD hX ⊢
  have hA : ∀ q : Nat, s.heap.size ≤ q → A q := fun q h => by rw [← hAe]; exact Or.inr h
  have hS : va_S A s.heap s.heap [] := va_S.rf
  have hl := lv_entry ([.ref x, .int p1, .int p2, .ref ov]) (n := 5) (Nat.le_of_ble_eq_true rfl)
  rw [lg_entry_eq]
  generalize (lg_sl ([.ref x, .int p1, .int p2, .ref ov]) ++ List.replicate (5 - (lg_sl ([.ref x, .int p1, .int p2, .ref ov])).length) Slot.unset).toArray = ls at hl ⊢
  have hl : lv_has ls 5 [(0, .ref x), (1, .int p1), (2, .int p2), (3, .ref ov)] := hl
  refine lv_aload_n hx hb dL_replace_0 rfl (lv_at hl 3 rfl) ?_
  refine lv_iconst (v := 0) hx hb dL_replace_1 (by decide) ?_
  refine lv_aload_n hx hb dL_replace_2 rfl (lv_at hl 0 rfl) ?_
  refine lv_iload_n hx hb dL_replace_3 rfl (lv_at hl 1 rfl) ?_
  refine lv_iload_n hx hb dL_replace_4 rfl (lv_at hl 2 rfl) ?_
  refine cm_xi (wr := [(ov, .inl (ct 1, 1, .inr (.inl f)))]) (vx_runV (As := [.int p1, .int p2]) (rest := [.int 0, .ref ov]) ⟨hx, hb, hml, hown, hts⟩ (c_replace_0 l hfl D ct x w sp sv bu w_se w_cu w_pr w_ch w_re w_lo p1 p2 _) (cm_V 2 hts kc_X10_replace ki_RX10 kl_RL_52 kv_X10_replace kx_X10_replace kd_X10_replace ⟨Nat.le_of_ble_eq_true rfl, Nat.le_of_ble_eq_true rfl⟩) (cm_preV hP hK hD hS hA hX [0, 1] rfl rfl rfl (q0 := 0) (ci := 10) rfl rfl) rfl rfl hl.1 rfl (lv_room (Nat.le_of_ble_eq_true rfl)) dL_replace_5 ⟨Nat.le_of_ble_eq_true rfl, Nat.le_of_ble_eq_true rfl⟩) hP hD hS hA [0, 1] [2] rfl rfl rfl (by decide) (fun E ce q9 u H locs hu hE hP hD hS hce hcv hcl => ?_) (fun r_1 u H locs hw_2 hP hD hS => ?_)
  · subst hE
    have hP : va_P D vwCl [(ov, .inl (ct 1, 1, .inr (.inl f))), (x, .inr (10, [.ref w, .ref sp, .ref sv, .ref bu, .int 0, .int 0])), (w, .inr (9, [.int 0, .ref w_se, .ref w_cu, .ref w_pr, .int 0, .ref w_ch, .ref w_re, .ref w_lo]))] H := hP
    have hD : va_D A [(ov, .inl (ct 1, 1, .inr (.inl f))), (x, .inr (10, [.ref w, .ref sp, .ref sv, .ref bu, .int 0, .int 0])), (w, .inr (9, [.int 0, .ref w_se, .ref w_cu, .ref w_pr, .int 0, .ref w_ch, .ref w_re, .ref w_lo]))] := hD
    refine vx_catch (name := "java/lang/IndexOutOfBoundsException") hown [] _ _ htab (fun z hz => absurd hz List.not_mem_nil) (by decide) (by decide) (hts _ kl_RL_32) (hts _ kcast_IOE) hce hcv hcl ?_
    refine W.eq (g2 := F0 m 13 ls [.ref q9]) rfl ?_
    refine lv_astore (lv' := [(4, .ref q9), (0, .ref x), (1, .int p1), (2, .int p2), (3, .ref ov)]) hx hb dL_replace_13 hl (by decide) rfl (fun ls hl => ?_)
    refine lv_iconst (v := 1) hx hb dL_replace_15 (by decide) ?_
    have hP9 := hP.sub (ws' := []) [] rfl
    have hD9 := hD.sub (ws' := []) [] (by decide) rfl
    exact W.iret (v := 1) hx hb hr (fun t ht hW => ⟨⟨1, (), rfl, rfl, by rw [ht]; exact hP9, by rw [hAe]; exact hD9⟩, hS.F ht⟩) hS.2.2 dL_replace_16
  · exact hw_2.elim
theorem dL_enqueue_0 : decode cL_enqueue 0 = .ok (.aload_n 3, 1) := by decide +kernel
theorem dL_enqueue_1 : decode cL_enqueue 1 = .ok (.iconst 0, 1) := by decide +kernel
theorem dL_enqueue_2 : decode cL_enqueue 2 = .ok (.aload_n 0, 1) := by decide +kernel
theorem dL_enqueue_3 : decode cL_enqueue 3 = .ok (.iload_n 1, 1) := by decide +kernel
theorem dL_enqueue_4 : decode cL_enqueue 4 = .ok (.iload_n 2, 1) := by decide +kernel
theorem dL_enqueue_5 : decode cL_enqueue 5 = .ok (.invokevirtual 55, 3) := by decide +kernel
theorem dL_enqueue_13 : decode cL_enqueue 13 = .ok (.astore 4, 2) := by decide +kernel
theorem dL_enqueue_15 : decode cL_enqueue 15 = .ok (.iconst 1, 1) := by decide +kernel
theorem dL_enqueue_16 : decode cL_enqueue 16 = .ok (.ireturn, 1) := by decide +kernel
set_option maxRecDepth 100000 in
set_option maxHeartbeats 4000000 in
theorem l_enqueue (l : Launch) (hfl : l.stackTraces = false) (D : va_G) (ct : Nat → ClassId) (x : Nat) (w : Nat) (sp : Nat) (sv : Nat) (bu : Nat) (w_se : Nat) (w_cu : Nat) (w_pr : Nat) (w_ch : Nat) (w_re : Nat) (w_lo : Nat) (ov : Nat) (f : Nat → Int64) (p1 : Int32) (p2 : Int32) (sz : Nat) : Met l yL_enqueue (wsw_ yL_enqueue cL_enqueue 5 (some .int) [(0, 10, 13, 32)]) ({ frames := 8, cells := 1, slots := 6, locals := 135 } : Room) (va_Pc [.ref x, .int p1, .int p2, .ref ov] (cmP D ct sz [(x, .inr (10, [.ref w, .ref sp, .ref sv, .ref bu, .int 0, .int 0])), (w, .inr (9, [.int 0, .ref w_se, .ref w_cu, .ref w_pr, .int 0, .ref w_ch, .ref w_re, .ref w_lo])), (ov, .inl (ct 1, 1, .inr (.inl f)))])) (va_Qi (fun (r : Int32) (_ : Unit) => r = 1) (cmB D [(x, .inr (10, [.ref w, .ref sp, .ref sv, .ref bu, .int 0, .int 0])), (w, .inr (9, [.int 0, .ref w_se, .ref w_cu, .ref w_pr, .int 0, .ref w_ch, .ref w_re, .ref w_lo])), (ov, .inl (ct 1, 1, .inr (.inl f)))] sz (fun _ : Unit => [])) (va_A [(x, .inr (10, [.ref w, .ref sp, .ref sv, .ref bu, .int 0, .int 0])), (w, .inr (9, [.int 0, .ref w_se, .ref w_cu, .ref w_pr, .int 0, .ref w_ch, .ref w_re, .ref w_lo])), (ov, .inl (ct 1, 1, .inr (.inl f)))] sz)) 1 6 (va_A [(x, .inr (10, [.ref w, .ref sp, .ref sv, .ref bu, .int 0, .int 0])), (w, .inr (9, [.int 0, .ref w_se, .ref w_cu, .ref w_pr, .int 0, .ref w_ch, .ref w_re, .ref w_lo])), (ov, .inl (ct 1, 1, .inr (.inl f)))] sz) := by
  refine va_MetW (cc := cL_enqueue) (maxL := 5) (ret := (some .int)) (hh := [(0, 10, 13, 32)]) (by decide) rfl ?_
  intro p e s m args below meth c s₁ B hml hv
  have hts0 := atoms_spec (ws := wsw_ yL_enqueue cL_enqueue 5 (some .int) [(0, 10, 13, 32)]) B.pre
  have hts : ∀ w ∈ cm_all, w.before args s = true := fun w h => hts0 w (List.mem_cons_of_mem _ h)
  obtain ⟨rfl, hsz, hP, hK, hD0, hX⟩ := hv
  have hx := B.exec
  have hb := B.bytes
  have hr := B.returns
  have htab := vx_table (x := yL_enqueue) B (hts0 _ List.mem_cons_self)
  have hown : s.vm.findClass RL = some m.cls := findClass_of_methodNamed B.named
  have hlocks := B.notSynchronized
  subst hsz
  have hD := hD0.self (sz := s.heap.size)
  generalize hAe : va_A [(x, .inr (10, [.ref w, .ref sp, .ref sv, .ref bu, .int 0, .int 0])), (w, .inr (9, [.int 0, .ref w_se, .ref w_cu, .ref w_pr, .int 0, .ref w_ch, .ref w_re, .ref w_lo])), (ov, .inl (ct 1, 1, .inr (.inl f)))] s.heap.size = A at hD hX ⊢
  have hA : ∀ q : Nat, s.heap.size ≤ q → A q := fun q h => by rw [← hAe]; exact Or.inr h
  have hS : va_S A s.heap s.heap [] := va_S.rf
  have hl := lv_entry ([.ref x, .int p1, .int p2, .ref ov]) (n := 5) (Nat.le_of_ble_eq_true rfl)
  rw [lg_entry_eq]
  generalize (lg_sl ([.ref x, .int p1, .int p2, .ref ov]) ++ List.replicate (5 - (lg_sl ([.ref x, .int p1, .int p2, .ref ov])).length) Slot.unset).toArray = ls at hl ⊢
  have hl : lv_has ls 5 [(0, .ref x), (1, .int p1), (2, .int p2), (3, .ref ov)] := hl
  refine lv_aload_n hx hb dL_enqueue_0 rfl (lv_at hl 3 rfl) ?_
  refine lv_iconst (v := 0) hx hb dL_enqueue_1 (by decide) ?_
  refine lv_aload_n hx hb dL_enqueue_2 rfl (lv_at hl 0 rfl) ?_
  refine lv_iload_n hx hb dL_enqueue_3 rfl (lv_at hl 1 rfl) ?_
  refine lv_iload_n hx hb dL_enqueue_4 rfl (lv_at hl 2 rfl) ?_
  refine cm_xi (wr := [(ov, .inl (ct 1, 1, .inr (.inl f)))]) (vx_runV (As := [.int p1, .int p2]) (rest := [.int 0, .ref ov]) ⟨hx, hb, hml, hown, hts⟩ (c_enqueue_0 l hfl D ct x w sp sv bu w_se w_cu w_pr w_ch w_re w_lo p1 p2 _) (cm_V 2 hts kc_X10_enqueue ki_RX10 kl_RL_55 kv_X10_enqueue kx_X10_enqueue kd_X10_enqueue ⟨Nat.le_of_ble_eq_true rfl, Nat.le_of_ble_eq_true rfl⟩) (cm_preV hP hK hD hS hA hX [0, 1] rfl rfl rfl (q0 := 0) (ci := 10) rfl rfl) rfl rfl hl.1 rfl (lv_room (Nat.le_of_ble_eq_true rfl)) dL_enqueue_5 ⟨Nat.le_of_ble_eq_true rfl, Nat.le_of_ble_eq_true rfl⟩) hP hD hS hA [0, 1] [2] rfl rfl rfl (by decide) (fun E ce q9 u H locs hu hE hP hD hS hce hcv hcl => ?_) (fun r_1 u H locs hw_2 hP hD hS => ?_)
  · subst hE
    have hP : va_P D vwCl [(ov, .inl (ct 1, 1, .inr (.inl f))), (x, .inr (10, [.ref w, .ref sp, .ref sv, .ref bu, .int 0, .int 0])), (w, .inr (9, [.int 0, .ref w_se, .ref w_cu, .ref w_pr, .int 0, .ref w_ch, .ref w_re, .ref w_lo]))] H := hP
    have hD : va_D A [(ov, .inl (ct 1, 1, .inr (.inl f))), (x, .inr (10, [.ref w, .ref sp, .ref sv, .ref bu, .int 0, .int 0])), (w, .inr (9, [.int 0, .ref w_se, .ref w_cu, .ref w_pr, .int 0, .ref w_ch, .ref w_re, .ref w_lo]))] := hD
    refine vx_catch (name := "java/lang/IndexOutOfBoundsException") hown [] _ _ htab (fun z hz => absurd hz List.not_mem_nil) (by decide) (by decide) (hts _ kl_RL_32) (hts _ kcast_IOE) hce hcv hcl ?_
    refine W.eq (g2 := F0 m 13 ls [.ref q9]) rfl ?_
    refine lv_astore (lv' := [(4, .ref q9), (0, .ref x), (1, .int p1), (2, .int p2), (3, .ref ov)]) hx hb dL_enqueue_13 hl (by decide) rfl (fun ls hl => ?_)
    refine lv_iconst (v := 1) hx hb dL_enqueue_15 (by decide) ?_
    have hP9 := hP.sub (ws' := []) [] rfl
    have hD9 := hD.sub (ws' := []) [] (by decide) rfl
    exact W.iret (v := 1) hx hb hr (fun t ht hW => ⟨⟨1, (), rfl, rfl, by rw [ht]; exact hP9, by rw [hAe]; exact hD9⟩, hS.F ht⟩) hS.2.2 dL_enqueue_16
  · exact hw_2.elim
theorem dL_dequeue_0 : decode cL_dequeue 0 = .ok (.aload_n 2, 1) := by decide +kernel
theorem dL_dequeue_1 : decode cL_dequeue 1 = .ok (.iconst 0, 1) := by decide +kernel
theorem dL_dequeue_2 : decode cL_dequeue 2 = .ok (.aload_n 0, 1) := by decide +kernel
theorem dL_dequeue_3 : decode cL_dequeue 3 = .ok (.iload_n 1, 1) := by decide +kernel
theorem dL_dequeue_4 : decode cL_dequeue 4 = .ok (.invokevirtual 58, 3) := by decide +kernel
theorem dL_dequeue_12 : decode cL_dequeue 12 = .ok (.astore_n 3, 1) := by decide +kernel
theorem dL_dequeue_13 : decode cL_dequeue 13 = .ok (.iconst 1, 1) := by decide +kernel
theorem dL_dequeue_14 : decode cL_dequeue 14 = .ok (.ireturn, 1) := by decide +kernel
set_option maxRecDepth 100000 in
set_option maxHeartbeats 4000000 in
theorem l_dequeue (l : Launch) (hfl : l.stackTraces = false) (D : va_G) (ct : Nat → ClassId) (x : Nat) (w : Nat) (sp : Nat) (sv : Nat) (bu : Nat) (w_se : Nat) (w_cu : Nat) (w_pr : Nat) (w_ch : Nat) (w_re : Nat) (w_lo : Nat) (ov : Nat) (f : Nat → Int64) (p1 : Int32) (sz : Nat) : Met l yL_dequeue (wsw_ yL_dequeue cL_dequeue 4 (some .int) [(0, 9, 12, 32)]) ({ frames := 8, cells := 1, slots := 6, locals := 134 } : Room) (va_Pc [.ref x, .int p1, .ref ov] (cmP D ct sz [(x, .inr (10, [.ref w, .ref sp, .ref sv, .ref bu, .int 0, .int 0])), (w, .inr (9, [.int 0, .ref w_se, .ref w_cu, .ref w_pr, .int 0, .ref w_ch, .ref w_re, .ref w_lo])), (ov, .inl (ct 1, 1, .inr (.inl f)))])) (va_Qi (fun (r : Int32) (_ : Unit) => r = 1) (cmB D [(x, .inr (10, [.ref w, .ref sp, .ref sv, .ref bu, .int 0, .int 0])), (w, .inr (9, [.int 0, .ref w_se, .ref w_cu, .ref w_pr, .int 0, .ref w_ch, .ref w_re, .ref w_lo])), (ov, .inl (ct 1, 1, .inr (.inl f)))] sz (fun _ : Unit => [])) (va_A [(x, .inr (10, [.ref w, .ref sp, .ref sv, .ref bu, .int 0, .int 0])), (w, .inr (9, [.int 0, .ref w_se, .ref w_cu, .ref w_pr, .int 0, .ref w_ch, .ref w_re, .ref w_lo])), (ov, .inl (ct 1, 1, .inr (.inl f)))] sz)) 1 6 (va_A [(x, .inr (10, [.ref w, .ref sp, .ref sv, .ref bu, .int 0, .int 0])), (w, .inr (9, [.int 0, .ref w_se, .ref w_cu, .ref w_pr, .int 0, .ref w_ch, .ref w_re, .ref w_lo])), (ov, .inl (ct 1, 1, .inr (.inl f)))] sz) := by
  refine va_MetW (cc := cL_dequeue) (maxL := 4) (ret := (some .int)) (hh := [(0, 9, 12, 32)]) (by decide) rfl ?_
  intro p e s m args below meth c s₁ B hml hv
  have hts0 := atoms_spec (ws := wsw_ yL_dequeue cL_dequeue 4 (some .int) [(0, 9, 12, 32)]) B.pre
  have hts : ∀ w ∈ cm_all, w.before args s = true := fun w h => hts0 w (List.mem_cons_of_mem _ h)
  obtain ⟨rfl, hsz, hP, hK, hD0, hX⟩ := hv
  have hx := B.exec
  have hb := B.bytes
  have hr := B.returns
  have htab := vx_table (x := yL_dequeue) B (hts0 _ List.mem_cons_self)
  have hown : s.vm.findClass RL = some m.cls := findClass_of_methodNamed B.named
  have hlocks := B.notSynchronized
  subst hsz
  have hD := hD0.self (sz := s.heap.size)
  generalize hAe : va_A [(x, .inr (10, [.ref w, .ref sp, .ref sv, .ref bu, .int 0, .int 0])), (w, .inr (9, [.int 0, .ref w_se, .ref w_cu, .ref w_pr, .int 0, .ref w_ch, .ref w_re, .ref w_lo])), (ov, .inl (ct 1, 1, .inr (.inl f)))] s.heap.size = A at hD hX ⊢
  have hA : ∀ q : Nat, s.heap.size ≤ q → A q := fun q h => by rw [← hAe]; exact Or.inr h
  have hS : va_S A s.heap s.heap [] := va_S.rf
  have hl := lv_entry ([.ref x, .int p1, .ref ov]) (n := 4) (Nat.le_of_ble_eq_true rfl)
  rw [lg_entry_eq]
  generalize (lg_sl ([.ref x, .int p1, .ref ov]) ++ List.replicate (4 - (lg_sl ([.ref x, .int p1, .ref ov])).length) Slot.unset).toArray = ls at hl ⊢
  have hl : lv_has ls 4 [(0, .ref x), (1, .int p1), (2, .ref ov)] := hl
  refine lv_aload_n hx hb dL_dequeue_0 rfl (lv_at hl 2 rfl) ?_
  refine lv_iconst (v := 0) hx hb dL_dequeue_1 (by decide) ?_
  refine lv_aload_n hx hb dL_dequeue_2 rfl (lv_at hl 0 rfl) ?_
  refine lv_iload_n hx hb dL_dequeue_3 rfl (lv_at hl 1 rfl) ?_
  refine cm_xi (wr := [(ov, .inl (ct 1, 1, .inr (.inl f)))]) (vx_runV (As := [.int p1]) (rest := [.int 0, .ref ov]) ⟨hx, hb, hml, hown, hts⟩ (c_dequeue_0 l hfl D ct x w sp sv bu w_se w_cu w_pr w_ch w_re w_lo p1 _) (cm_V 1 hts kc_X10_dequeue ki_RX10 kl_RL_58 kv_X10_dequeue kx_X10_dequeue kd_X10_dequeue ⟨Nat.le_of_ble_eq_true rfl, Nat.le_of_ble_eq_true rfl⟩) (cm_preV hP hK hD hS hA hX [0, 1] rfl rfl rfl (q0 := 0) (ci := 10) rfl rfl) rfl rfl hl.1 rfl (lv_room (Nat.le_of_ble_eq_true rfl)) dL_dequeue_4 ⟨Nat.le_of_ble_eq_true rfl, Nat.le_of_ble_eq_true rfl⟩) hP hD hS hA [0, 1] [2] rfl rfl rfl (by decide) (fun E ce q9 u H locs hu hE hP hD hS hce hcv hcl => ?_) (fun r_1 u H locs hw_2 hP hD hS => ?_)
  · subst hE
    have hP : va_P D vwCl [(ov, .inl (ct 1, 1, .inr (.inl f))), (x, .inr (10, [.ref w, .ref sp, .ref sv, .ref bu, .int 0, .int 0])), (w, .inr (9, [.int 0, .ref w_se, .ref w_cu, .ref w_pr, .int 0, .ref w_ch, .ref w_re, .ref w_lo]))] H := hP
    have hD : va_D A [(ov, .inl (ct 1, 1, .inr (.inl f))), (x, .inr (10, [.ref w, .ref sp, .ref sv, .ref bu, .int 0, .int 0])), (w, .inr (9, [.int 0, .ref w_se, .ref w_cu, .ref w_pr, .int 0, .ref w_ch, .ref w_re, .ref w_lo]))] := hD
    refine vx_catch (name := "java/lang/IndexOutOfBoundsException") hown [] _ _ htab (fun z hz => absurd hz List.not_mem_nil) (by decide) (by decide) (hts _ kl_RL_32) (hts _ kcast_IOE) hce hcv hcl ?_
    refine W.eq (g2 := F0 m 12 ls [.ref q9]) rfl ?_
    refine lv_astore_n (lv' := [(3, .ref q9), (0, .ref x), (1, .int p1), (2, .ref ov)]) hx hb dL_dequeue_12 rfl hl (by decide) rfl (fun ls hl => ?_)
    refine lv_iconst (v := 1) hx hb dL_dequeue_13 (by decide) ?_
    have hP9 := hP.sub (ws' := []) [] rfl
    have hD9 := hD.sub (ws' := []) [] (by decide) rfl
    exact W.iret (v := 1) hx hb hr (fun t ht hW => ⟨⟨1, (), rfl, rfl, by rw [ht]; exact hP9, by rw [hAe]; exact hD9⟩, hS.F ht⟩) hS.2.2 dL_dequeue_14
  · exact hw_2.elim
theorem dL_startNext_0 : decode cL_startNext 0 = .ok (.aload_n 2, 1) := by decide +kernel
theorem dL_startNext_1 : decode cL_startNext 1 = .ok (.iconst 0, 1) := by decide +kernel
theorem dL_startNext_2 : decode cL_startNext 2 = .ok (.aload_n 0, 1) := by decide +kernel
theorem dL_startNext_3 : decode cL_startNext 3 = .ok (.iload_n 1, 1) := by decide +kernel
theorem dL_startNext_4 : decode cL_startNext 4 = .ok (.invokevirtual 61, 3) := by decide +kernel
theorem dL_startNext_12 : decode cL_startNext 12 = .ok (.astore_n 3, 1) := by decide +kernel
theorem dL_startNext_13 : decode cL_startNext 13 = .ok (.iconst 1, 1) := by decide +kernel
theorem dL_startNext_14 : decode cL_startNext 14 = .ok (.ireturn, 1) := by decide +kernel
set_option maxRecDepth 100000 in
set_option maxHeartbeats 4000000 in
theorem l_startNext (l : Launch) (hfl : l.stackTraces = false) (D : va_G) (ct : Nat → ClassId) (x : Nat) (w : Nat) (sp : Nat) (sv : Nat) (bu : Nat) (w_se : Nat) (w_cu : Nat) (w_pr : Nat) (w_ch : Nat) (w_re : Nat) (w_lo : Nat) (ov : Nat) (f : Nat → Int64) (p1 : Int32) (sz : Nat) : Met l yL_startNext (wsw_ yL_startNext cL_startNext 4 (some .int) [(0, 9, 12, 32)]) ({ frames := 8, cells := 1, slots := 6, locals := 134 } : Room) (va_Pc [.ref x, .int p1, .ref ov] (cmP D ct sz [(x, .inr (10, [.ref w, .ref sp, .ref sv, .ref bu, .int 0, .int 0])), (w, .inr (9, [.int 0, .ref w_se, .ref w_cu, .ref w_pr, .int 0, .ref w_ch, .ref w_re, .ref w_lo])), (ov, .inl (ct 1, 1, .inr (.inl f)))])) (va_Qi (fun (r : Int32) (_ : Unit) => r = 1) (cmB D [(x, .inr (10, [.ref w, .ref sp, .ref sv, .ref bu, .int 0, .int 0])), (w, .inr (9, [.int 0, .ref w_se, .ref w_cu, .ref w_pr, .int 0, .ref w_ch, .ref w_re, .ref w_lo])), (ov, .inl (ct 1, 1, .inr (.inl f)))] sz (fun _ : Unit => [])) (va_A [(x, .inr (10, [.ref w, .ref sp, .ref sv, .ref bu, .int 0, .int 0])), (w, .inr (9, [.int 0, .ref w_se, .ref w_cu, .ref w_pr, .int 0, .ref w_ch, .ref w_re, .ref w_lo])), (ov, .inl (ct 1, 1, .inr (.inl f)))] sz)) 1 6 (va_A [(x, .inr (10, [.ref w, .ref sp, .ref sv, .ref bu, .int 0, .int 0])), (w, .inr (9, [.int 0, .ref w_se, .ref w_cu, .ref w_pr, .int 0, .ref w_ch, .ref w_re, .ref w_lo])), (ov, .inl (ct 1, 1, .inr (.inl f)))] sz) := by
  refine va_MetW (cc := cL_startNext) (maxL := 4) (ret := (some .int)) (hh := [(0, 9, 12, 32)]) (by decide) rfl ?_
  intro p e s m args below meth c s₁ B hml hv
  have hts0 := atoms_spec (ws := wsw_ yL_startNext cL_startNext 4 (some .int) [(0, 9, 12, 32)]) B.pre
  have hts : ∀ w ∈ cm_all, w.before args s = true := fun w h => hts0 w (List.mem_cons_of_mem _ h)
  obtain ⟨rfl, hsz, hP, hK, hD0, hX⟩ := hv
  have hx := B.exec
  have hb := B.bytes
  have hr := B.returns
  have htab := vx_table (x := yL_startNext) B (hts0 _ List.mem_cons_self)
  have hown : s.vm.findClass RL = some m.cls := findClass_of_methodNamed B.named
  have hlocks := B.notSynchronized
  subst hsz
  have hD := hD0.self (sz := s.heap.size)
  generalize hAe : va_A [(x, .inr (10, [.ref w, .ref sp, .ref sv, .ref bu, .int 0, .int 0])), (w, .inr (9, [.int 0, .ref w_se, .ref w_cu, .ref w_pr, .int 0, .ref w_ch, .ref w_re, .ref w_lo])), (ov, .inl (ct 1, 1, .inr (.inl f)))] s.heap.size = A at hD hX ⊢
  have hA : ∀ q : Nat, s.heap.size ≤ q → A q := fun q h => by rw [← hAe]; exact Or.inr h
  have hS : va_S A s.heap s.heap [] := va_S.rf
  have hl := lv_entry ([.ref x, .int p1, .ref ov]) (n := 4) (Nat.le_of_ble_eq_true rfl)
  rw [lg_entry_eq]
  generalize (lg_sl ([.ref x, .int p1, .ref ov]) ++ List.replicate (4 - (lg_sl ([.ref x, .int p1, .ref ov])).length) Slot.unset).toArray = ls at hl ⊢
  have hl : lv_has ls 4 [(0, .ref x), (1, .int p1), (2, .ref ov)] := hl
  refine lv_aload_n hx hb dL_startNext_0 rfl (lv_at hl 2 rfl) ?_
  refine lv_iconst (v := 0) hx hb dL_startNext_1 (by decide) ?_
  refine lv_aload_n hx hb dL_startNext_2 rfl (lv_at hl 0 rfl) ?_
  refine lv_iload_n hx hb dL_startNext_3 rfl (lv_at hl 1 rfl) ?_
  refine cm_xi (wr := [(ov, .inl (ct 1, 1, .inr (.inl f)))]) (vx_runV (As := [.int p1]) (rest := [.int 0, .ref ov]) ⟨hx, hb, hml, hown, hts⟩ (c_startNext_0 l hfl D ct x w sp sv bu w_se w_cu w_pr w_ch w_re w_lo p1 _) (cm_V 1 hts kc_X10_startNext ki_RX10 kl_RL_61 kv_X10_startNext kx_X10_startNext kd_X10_startNext ⟨Nat.le_of_ble_eq_true rfl, Nat.le_of_ble_eq_true rfl⟩) (cm_preV hP hK hD hS hA hX [0, 1] rfl rfl rfl (q0 := 0) (ci := 10) rfl rfl) rfl rfl hl.1 rfl (lv_room (Nat.le_of_ble_eq_true rfl)) dL_startNext_4 ⟨Nat.le_of_ble_eq_true rfl, Nat.le_of_ble_eq_true rfl⟩) hP hD hS hA [0, 1] [2] rfl rfl rfl (by decide) (fun E ce q9 u H locs hu hE hP hD hS hce hcv hcl => ?_) (fun r_1 u H locs hw_2 hP hD hS => ?_)
  · subst hE
    have hP : va_P D vwCl [(ov, .inl (ct 1, 1, .inr (.inl f))), (x, .inr (10, [.ref w, .ref sp, .ref sv, .ref bu, .int 0, .int 0])), (w, .inr (9, [.int 0, .ref w_se, .ref w_cu, .ref w_pr, .int 0, .ref w_ch, .ref w_re, .ref w_lo]))] H := hP
    have hD : va_D A [(ov, .inl (ct 1, 1, .inr (.inl f))), (x, .inr (10, [.ref w, .ref sp, .ref sv, .ref bu, .int 0, .int 0])), (w, .inr (9, [.int 0, .ref w_se, .ref w_cu, .ref w_pr, .int 0, .ref w_ch, .ref w_re, .ref w_lo]))] := hD
    refine vx_catch (name := "java/lang/IndexOutOfBoundsException") hown [] _ _ htab (fun z hz => absurd hz List.not_mem_nil) (by decide) (by decide) (hts _ kl_RL_32) (hts _ kcast_IOE) hce hcv hcl ?_
    refine W.eq (g2 := F0 m 12 ls [.ref q9]) rfl ?_
    refine lv_astore_n (lv' := [(3, .ref q9), (0, .ref x), (1, .int p1), (2, .ref ov)]) hx hb dL_startNext_12 rfl hl (by decide) rfl (fun ls hl => ?_)
    refine lv_iconst (v := 1) hx hb dL_startNext_13 (by decide) ?_
    have hP9 := hP.sub (ws' := []) [] rfl
    have hD9 := hD.sub (ws' := []) [] (by decide) rfl
    exact W.iret (v := 1) hx hb hr (fun t ht hW => ⟨⟨1, (), rfl, rfl, by rw [ht]; exact hP9, by rw [hAe]; exact hD9⟩, hS.F ht⟩) hS.2.2 dL_startNext_14
  · exact hw_2.elim
theorem dL_queueAt_0 : decode cL_queueAt 0 = .ok (.aload_n 3, 1) := by decide +kernel
theorem dL_queueAt_1 : decode cL_queueAt 1 = .ok (.iconst 0, 1) := by decide +kernel
theorem dL_queueAt_2 : decode cL_queueAt 2 = .ok (.aload_n 0, 1) := by decide +kernel
theorem dL_queueAt_3 : decode cL_queueAt 3 = .ok (.iload_n 1, 1) := by decide +kernel
theorem dL_queueAt_4 : decode cL_queueAt 4 = .ok (.iload_n 2, 1) := by decide +kernel
theorem dL_queueAt_5 : decode cL_queueAt 5 = .ok (.invokevirtual 64, 3) := by decide +kernel
theorem dL_queueAt_13 : decode cL_queueAt 13 = .ok (.astore 4, 2) := by decide +kernel
theorem dL_queueAt_15 : decode cL_queueAt 15 = .ok (.iconst 1, 1) := by decide +kernel
theorem dL_queueAt_16 : decode cL_queueAt 16 = .ok (.ireturn, 1) := by decide +kernel
set_option maxRecDepth 100000 in
set_option maxHeartbeats 4000000 in
theorem l_queueAt (l : Launch) (hfl : l.stackTraces = false) (D : va_G) (ct : Nat → ClassId) (x : Nat) (w : Nat) (sp : Nat) (sv : Nat) (bu : Nat) (w_se : Nat) (w_cu : Nat) (w_pr : Nat) (w_ch : Nat) (w_re : Nat) (w_lo : Nat) (ov : Nat) (f : Nat → Int64) (p1 : Int32) (p2 : Int32) (sz : Nat) : Met l yL_queueAt (wsw_ yL_queueAt cL_queueAt 5 (some .int) [(0, 10, 13, 32)]) ({ frames := 8, cells := 1, slots := 6, locals := 135 } : Room) (va_Pc [.ref x, .int p1, .int p2, .ref ov] (cmP D ct sz [(x, .inr (10, [.ref w, .ref sp, .ref sv, .ref bu, .int 0, .int 0])), (w, .inr (9, [.int 0, .ref w_se, .ref w_cu, .ref w_pr, .int 0, .ref w_ch, .ref w_re, .ref w_lo])), (ov, .inl (ct 1, 1, .inr (.inl f)))])) (va_Qi (fun (r : Int32) (_ : Unit) => r = 1) (cmB D [(x, .inr (10, [.ref w, .ref sp, .ref sv, .ref bu, .int 0, .int 0])), (w, .inr (9, [.int 0, .ref w_se, .ref w_cu, .ref w_pr, .int 0, .ref w_ch, .ref w_re, .ref w_lo])), (ov, .inl (ct 1, 1, .inr (.inl f)))] sz (fun _ : Unit => [])) (va_A [(x, .inr (10, [.ref w, .ref sp, .ref sv, .ref bu, .int 0, .int 0])), (w, .inr (9, [.int 0, .ref w_se, .ref w_cu, .ref w_pr, .int 0, .ref w_ch, .ref w_re, .ref w_lo])), (ov, .inl (ct 1, 1, .inr (.inl f)))] sz)) 1 6 (va_A [(x, .inr (10, [.ref w, .ref sp, .ref sv, .ref bu, .int 0, .int 0])), (w, .inr (9, [.int 0, .ref w_se, .ref w_cu, .ref w_pr, .int 0, .ref w_ch, .ref w_re, .ref w_lo])), (ov, .inl (ct 1, 1, .inr (.inl f)))] sz) := by
  refine va_MetW (cc := cL_queueAt) (maxL := 5) (ret := (some .int)) (hh := [(0, 10, 13, 32)]) (by decide) rfl ?_
  intro p e s m args below meth c s₁ B hml hv
  have hts0 := atoms_spec (ws := wsw_ yL_queueAt cL_queueAt 5 (some .int) [(0, 10, 13, 32)]) B.pre
  have hts : ∀ w ∈ cm_all, w.before args s = true := fun w h => hts0 w (List.mem_cons_of_mem _ h)
  obtain ⟨rfl, hsz, hP, hK, hD0, hX⟩ := hv
  have hx := B.exec
  have hb := B.bytes
  have hr := B.returns
  have htab := vx_table (x := yL_queueAt) B (hts0 _ List.mem_cons_self)
  have hown : s.vm.findClass RL = some m.cls := findClass_of_methodNamed B.named
  have hlocks := B.notSynchronized
  subst hsz
  have hD := hD0.self (sz := s.heap.size)
  generalize hAe : va_A [(x, .inr (10, [.ref w, .ref sp, .ref sv, .ref bu, .int 0, .int 0])), (w, .inr (9, [.int 0, .ref w_se, .ref w_cu, .ref w_pr, .int 0, .ref w_ch, .ref w_re, .ref w_lo])), (ov, .inl (ct 1, 1, .inr (.inl f)))] s.heap.size = A at hD hX ⊢
  have hA : ∀ q : Nat, s.heap.size ≤ q → A q := fun q h => by rw [← hAe]; exact Or.inr h
  have hS : va_S A s.heap s.heap [] := va_S.rf
  have hl := lv_entry ([.ref x, .int p1, .int p2, .ref ov]) (n := 5) (Nat.le_of_ble_eq_true rfl)
  rw [lg_entry_eq]
  generalize (lg_sl ([.ref x, .int p1, .int p2, .ref ov]) ++ List.replicate (5 - (lg_sl ([.ref x, .int p1, .int p2, .ref ov])).length) Slot.unset).toArray = ls at hl ⊢
  have hl : lv_has ls 5 [(0, .ref x), (1, .int p1), (2, .int p2), (3, .ref ov)] := hl
  refine lv_aload_n hx hb dL_queueAt_0 rfl (lv_at hl 3 rfl) ?_
  refine lv_iconst (v := 0) hx hb dL_queueAt_1 (by decide) ?_
  refine lv_aload_n hx hb dL_queueAt_2 rfl (lv_at hl 0 rfl) ?_
  refine lv_iload_n hx hb dL_queueAt_3 rfl (lv_at hl 1 rfl) ?_
  refine lv_iload_n hx hb dL_queueAt_4 rfl (lv_at hl 2 rfl) ?_
  refine cm_xi (wr := [(ov, .inl (ct 1, 1, .inr (.inl f)))]) (vx_runV (As := [.int p1, .int p2]) (rest := [.int 0, .ref ov]) ⟨hx, hb, hml, hown, hts⟩ (c_queueAt_0 l hfl D ct x w sp sv bu w_se w_cu w_pr w_ch w_re w_lo p1 p2 _) (cm_V 2 hts kc_X10_queueAt ki_RX10 kl_RL_64 kv_X10_queueAt kx_X10_queueAt kd_X10_queueAt ⟨Nat.le_of_ble_eq_true rfl, Nat.le_of_ble_eq_true rfl⟩) (cm_preV hP hK hD hS hA hX [0, 1] rfl rfl rfl (q0 := 0) (ci := 10) rfl rfl) rfl rfl hl.1 rfl (lv_room (Nat.le_of_ble_eq_true rfl)) dL_queueAt_5 ⟨Nat.le_of_ble_eq_true rfl, Nat.le_of_ble_eq_true rfl⟩) hP hD hS hA [0, 1] [2] rfl rfl rfl (by decide) (fun E ce q9 u H locs hu hE hP hD hS hce hcv hcl => ?_) (fun r_1 u H locs hw_2 hP hD hS => ?_)
  · subst hE
    have hP : va_P D vwCl [(ov, .inl (ct 1, 1, .inr (.inl f))), (x, .inr (10, [.ref w, .ref sp, .ref sv, .ref bu, .int 0, .int 0])), (w, .inr (9, [.int 0, .ref w_se, .ref w_cu, .ref w_pr, .int 0, .ref w_ch, .ref w_re, .ref w_lo]))] H := hP
    have hD : va_D A [(ov, .inl (ct 1, 1, .inr (.inl f))), (x, .inr (10, [.ref w, .ref sp, .ref sv, .ref bu, .int 0, .int 0])), (w, .inr (9, [.int 0, .ref w_se, .ref w_cu, .ref w_pr, .int 0, .ref w_ch, .ref w_re, .ref w_lo]))] := hD
    refine vx_catch (name := "java/lang/IndexOutOfBoundsException") hown [] _ _ htab (fun z hz => absurd hz List.not_mem_nil) (by decide) (by decide) (hts _ kl_RL_32) (hts _ kcast_IOE) hce hcv hcl ?_
    refine W.eq (g2 := F0 m 13 ls [.ref q9]) rfl ?_
    refine lv_astore (lv' := [(4, .ref q9), (0, .ref x), (1, .int p1), (2, .int p2), (3, .ref ov)]) hx hb dL_queueAt_13 hl (by decide) rfl (fun ls hl => ?_)
    refine lv_iconst (v := 1) hx hb dL_queueAt_15 (by decide) ?_
    have hP9 := hP.sub (ws' := []) [] rfl
    have hD9 := hD.sub (ws' := []) [] (by decide) rfl
    exact W.iret (v := 1) hx hb hr (fun t ht hW => ⟨⟨1, (), rfl, rfl, by rw [ht]; exact hP9, by rw [hAe]; exact hD9⟩, hS.F ht⟩) hS.2.2 dL_queueAt_16
  · exact hw_2.elim
theorem dL_queueSize_0 : decode cL_queueSize 0 = .ok (.aload_n 2, 1) := by decide +kernel
theorem dL_queueSize_1 : decode cL_queueSize 1 = .ok (.iconst 0, 1) := by decide +kernel
theorem dL_queueSize_2 : decode cL_queueSize 2 = .ok (.aload_n 0, 1) := by decide +kernel
theorem dL_queueSize_3 : decode cL_queueSize 3 = .ok (.iload_n 1, 1) := by decide +kernel
theorem dL_queueSize_4 : decode cL_queueSize 4 = .ok (.invokevirtual 67, 3) := by decide +kernel
theorem dL_queueSize_12 : decode cL_queueSize 12 = .ok (.astore_n 3, 1) := by decide +kernel
theorem dL_queueSize_13 : decode cL_queueSize 13 = .ok (.iconst 1, 1) := by decide +kernel
theorem dL_queueSize_14 : decode cL_queueSize 14 = .ok (.ireturn, 1) := by decide +kernel
set_option maxRecDepth 100000 in
set_option maxHeartbeats 4000000 in
theorem l_queueSize (l : Launch) (hfl : l.stackTraces = false) (D : va_G) (ct : Nat → ClassId) (x : Nat) (w : Nat) (sp : Nat) (sv : Nat) (bu : Nat) (w_se : Nat) (w_cu : Nat) (w_pr : Nat) (w_ch : Nat) (w_re : Nat) (w_lo : Nat) (ov : Nat) (f : Nat → Int64) (p1 : Int32) (sz : Nat) : Met l yL_queueSize (wsw_ yL_queueSize cL_queueSize 4 (some .int) [(0, 9, 12, 32)]) ({ frames := 8, cells := 1, slots := 6, locals := 133 } : Room) (va_Pc [.ref x, .int p1, .ref ov] (cmP D ct sz [(x, .inr (10, [.ref w, .ref sp, .ref sv, .ref bu, .int 0, .int 0])), (w, .inr (9, [.int 0, .ref w_se, .ref w_cu, .ref w_pr, .int 0, .ref w_ch, .ref w_re, .ref w_lo])), (ov, .inl (ct 1, 1, .inr (.inl f)))])) (va_Qi (fun (r : Int32) (_ : Unit) => r = 1) (cmB D [(x, .inr (10, [.ref w, .ref sp, .ref sv, .ref bu, .int 0, .int 0])), (w, .inr (9, [.int 0, .ref w_se, .ref w_cu, .ref w_pr, .int 0, .ref w_ch, .ref w_re, .ref w_lo])), (ov, .inl (ct 1, 1, .inr (.inl f)))] sz (fun _ : Unit => [])) (va_A [(x, .inr (10, [.ref w, .ref sp, .ref sv, .ref bu, .int 0, .int 0])), (w, .inr (9, [.int 0, .ref w_se, .ref w_cu, .ref w_pr, .int 0, .ref w_ch, .ref w_re, .ref w_lo])), (ov, .inl (ct 1, 1, .inr (.inl f)))] sz)) 1 6 (va_A [(x, .inr (10, [.ref w, .ref sp, .ref sv, .ref bu, .int 0, .int 0])), (w, .inr (9, [.int 0, .ref w_se, .ref w_cu, .ref w_pr, .int 0, .ref w_ch, .ref w_re, .ref w_lo])), (ov, .inl (ct 1, 1, .inr (.inl f)))] sz) := by
  refine va_MetW (cc := cL_queueSize) (maxL := 4) (ret := (some .int)) (hh := [(0, 9, 12, 32)]) (by decide) rfl ?_
  intro p e s m args below meth c s₁ B hml hv
  have hts0 := atoms_spec (ws := wsw_ yL_queueSize cL_queueSize 4 (some .int) [(0, 9, 12, 32)]) B.pre
  have hts : ∀ w ∈ cm_all, w.before args s = true := fun w h => hts0 w (List.mem_cons_of_mem _ h)
  obtain ⟨rfl, hsz, hP, hK, hD0, hX⟩ := hv
  have hx := B.exec
  have hb := B.bytes
  have hr := B.returns
  have htab := vx_table (x := yL_queueSize) B (hts0 _ List.mem_cons_self)
  have hown : s.vm.findClass RL = some m.cls := findClass_of_methodNamed B.named
  have hlocks := B.notSynchronized
  subst hsz
  have hD := hD0.self (sz := s.heap.size)
  generalize hAe : va_A [(x, .inr (10, [.ref w, .ref sp, .ref sv, .ref bu, .int 0, .int 0])), (w, .inr (9, [.int 0, .ref w_se, .ref w_cu, .ref w_pr, .int 0, .ref w_ch, .ref w_re, .ref w_lo])), (ov, .inl (ct 1, 1, .inr (.inl f)))] s.heap.size = A at hD hX ⊢
  have hA : ∀ q : Nat, s.heap.size ≤ q → A q := fun q h => by rw [← hAe]; exact Or.inr h
  have hS : va_S A s.heap s.heap [] := va_S.rf
  have hl := lv_entry ([.ref x, .int p1, .ref ov]) (n := 4) (Nat.le_of_ble_eq_true rfl)
  rw [lg_entry_eq]
  generalize (lg_sl ([.ref x, .int p1, .ref ov]) ++ List.replicate (4 - (lg_sl ([.ref x, .int p1, .ref ov])).length) Slot.unset).toArray = ls at hl ⊢
  have hl : lv_has ls 4 [(0, .ref x), (1, .int p1), (2, .ref ov)] := hl
  refine lv_aload_n hx hb dL_queueSize_0 rfl (lv_at hl 2 rfl) ?_
  refine lv_iconst (v := 0) hx hb dL_queueSize_1 (by decide) ?_
  refine lv_aload_n hx hb dL_queueSize_2 rfl (lv_at hl 0 rfl) ?_
  refine lv_iload_n hx hb dL_queueSize_3 rfl (lv_at hl 1 rfl) ?_
  refine cm_xi (wr := [(ov, .inl (ct 1, 1, .inr (.inl f)))]) (vx_runV (As := [.int p1]) (rest := [.int 0, .ref ov]) ⟨hx, hb, hml, hown, hts⟩ (c_queueSize_0 l hfl D ct x w sp sv bu w_se w_cu w_pr w_ch w_re w_lo p1 _) (cm_V 1 hts kc_X10_queueSize ki_RX10 kl_RL_67 kv_X10_queueSize kx_X10_queueSize kd_X10_queueSize ⟨Nat.le_of_ble_eq_true rfl, Nat.le_of_ble_eq_true rfl⟩) (cm_preV hP hK hD hS hA hX [0, 1] rfl rfl rfl (q0 := 0) (ci := 10) rfl rfl) rfl rfl hl.1 rfl (lv_room (Nat.le_of_ble_eq_true rfl)) dL_queueSize_4 ⟨Nat.le_of_ble_eq_true rfl, Nat.le_of_ble_eq_true rfl⟩) hP hD hS hA [0, 1] [2] rfl rfl rfl (by decide) (fun E ce q9 u H locs hu hE hP hD hS hce hcv hcl => ?_) (fun r_1 u H locs hw_2 hP hD hS => ?_)
  · subst hE
    have hP : va_P D vwCl [(ov, .inl (ct 1, 1, .inr (.inl f))), (x, .inr (10, [.ref w, .ref sp, .ref sv, .ref bu, .int 0, .int 0])), (w, .inr (9, [.int 0, .ref w_se, .ref w_cu, .ref w_pr, .int 0, .ref w_ch, .ref w_re, .ref w_lo]))] H := hP
    have hD : va_D A [(ov, .inl (ct 1, 1, .inr (.inl f))), (x, .inr (10, [.ref w, .ref sp, .ref sv, .ref bu, .int 0, .int 0])), (w, .inr (9, [.int 0, .ref w_se, .ref w_cu, .ref w_pr, .int 0, .ref w_ch, .ref w_re, .ref w_lo]))] := hD
    refine vx_catch (name := "java/lang/IndexOutOfBoundsException") hown [] _ _ htab (fun z hz => absurd hz List.not_mem_nil) (by decide) (by decide) (hts _ kl_RL_32) (hts _ kcast_IOE) hce hcv hcl ?_
    refine W.eq (g2 := F0 m 12 ls [.ref q9]) rfl ?_
    refine lv_astore_n (lv' := [(3, .ref q9), (0, .ref x), (1, .int p1), (2, .ref ov)]) hx hb dL_queueSize_12 rfl hl (by decide) rfl (fun ls hl => ?_)
    refine lv_iconst (v := 1) hx hb dL_queueSize_13 (by decide) ?_
    have hP9 := hP.sub (ws' := []) [] rfl
    have hD9 := hD.sub (ws' := []) [] (by decide) rfl
    exact W.iret (v := 1) hx hb hr (fun t ht hW => ⟨⟨1, (), rfl, rfl, by rw [ht]; exact hP9, by rw [hAe]; exact hD9⟩, hS.F ht⟩) hS.2.2 dL_queueSize_14
  · exact hw_2.elim
theorem dL_value_0 : decode cL_value 0 = .ok (.aload_n 3, 1) := by decide +kernel
theorem dL_value_1 : decode cL_value 1 = .ok (.iconst 0, 1) := by decide +kernel
theorem dL_value_2 : decode cL_value 2 = .ok (.aload_n 0, 1) := by decide +kernel
theorem dL_value_3 : decode cL_value 3 = .ok (.iload_n 1, 1) := by decide +kernel
theorem dL_value_4 : decode cL_value 4 = .ok (.iload_n 2, 1) := by decide +kernel
theorem dL_value_5 : decode cL_value 5 = .ok (.invokevirtual 70, 3) := by decide +kernel
theorem dL_value_13 : decode cL_value 13 = .ok (.astore 4, 2) := by decide +kernel
theorem dL_value_15 : decode cL_value 15 = .ok (.iconst 1, 1) := by decide +kernel
theorem dL_value_16 : decode cL_value 16 = .ok (.ireturn, 1) := by decide +kernel
set_option maxRecDepth 100000 in
set_option maxHeartbeats 4000000 in
theorem l_value (l : Launch) (hfl : l.stackTraces = false) (D : va_G) (ct : Nat → ClassId) (x : Nat) (w : Nat) (sp : Nat) (sv : Nat) (bu : Nat) (w_se : Nat) (w_cu : Nat) (w_pr : Nat) (w_ch : Nat) (w_re : Nat) (w_lo : Nat) (ov : Nat) (f : Nat → Int64) (p1 : Int32) (p2 : Int32) (sz : Nat) : Met l yL_value (wsw_ yL_value cL_value 5 (some .int) [(0, 10, 13, 32), (0, 10, 17, 13)]) ({ frames := 8, cells := 1, slots := 6, locals := 135 } : Room) (va_Pc [.ref x, .int p1, .int p2, .ref ov] (cmP D ct sz [(x, .inr (10, [.ref w, .ref sp, .ref sv, .ref bu, .int 0, .int 0])), (w, .inr (9, [.int 0, .ref w_se, .ref w_cu, .ref w_pr, .int 0, .ref w_ch, .ref w_re, .ref w_lo])), (ov, .inl (ct 1, 1, .inr (.inl f)))])) (va_Qi (fun (r : Int32) (_ : Unit) => r = 1) (cmB D [(x, .inr (10, [.ref w, .ref sp, .ref sv, .ref bu, .int 0, .int 0])), (w, .inr (9, [.int 0, .ref w_se, .ref w_cu, .ref w_pr, .int 0, .ref w_ch, .ref w_re, .ref w_lo])), (ov, .inl (ct 1, 1, .inr (.inl f)))] sz (fun _ : Unit => [])) (va_A [(x, .inr (10, [.ref w, .ref sp, .ref sv, .ref bu, .int 0, .int 0])), (w, .inr (9, [.int 0, .ref w_se, .ref w_cu, .ref w_pr, .int 0, .ref w_ch, .ref w_re, .ref w_lo])), (ov, .inl (ct 1, 1, .inr (.inl f)))] sz)) 1 6 (va_A [(x, .inr (10, [.ref w, .ref sp, .ref sv, .ref bu, .int 0, .int 0])), (w, .inr (9, [.int 0, .ref w_se, .ref w_cu, .ref w_pr, .int 0, .ref w_ch, .ref w_re, .ref w_lo])), (ov, .inl (ct 1, 1, .inr (.inl f)))] sz) := by
  refine va_MetW (cc := cL_value) (maxL := 5) (ret := (some .int)) (hh := [(0, 10, 13, 32), (0, 10, 17, 13)]) (by decide) rfl ?_
  intro p e s m args below meth c s₁ B hml hv
  have hts0 := atoms_spec (ws := wsw_ yL_value cL_value 5 (some .int) [(0, 10, 13, 32), (0, 10, 17, 13)]) B.pre
  have hts : ∀ w ∈ cm_all, w.before args s = true := fun w h => hts0 w (List.mem_cons_of_mem _ h)
  obtain ⟨rfl, hsz, hP, hK, hD0, hX⟩ := hv
  have hx := B.exec
  have hb := B.bytes
  have hr := B.returns
  have htab := vx_table (x := yL_value) B (hts0 _ List.mem_cons_self)
  have hown : s.vm.findClass RL = some m.cls := findClass_of_methodNamed B.named
  have hlocks := B.notSynchronized
  subst hsz
  have hD := hD0.self (sz := s.heap.size)
  generalize hAe : va_A [(x, .inr (10, [.ref w, .ref sp, .ref sv, .ref bu, .int 0, .int 0])), (w, .inr (9, [.int 0, .ref w_se, .ref w_cu, .ref w_pr, .int 0, .ref w_ch, .ref w_re, .ref w_lo])), (ov, .inl (ct 1, 1, .inr (.inl f)))] s.heap.size = A at hD hX ⊢
  have hA : ∀ q : Nat, s.heap.size ≤ q → A q := fun q h => by rw [← hAe]; exact Or.inr h
  have hS : va_S A s.heap s.heap [] := va_S.rf
  have hl := lv_entry ([.ref x, .int p1, .int p2, .ref ov]) (n := 5) (Nat.le_of_ble_eq_true rfl)
  rw [lg_entry_eq]
  generalize (lg_sl ([.ref x, .int p1, .int p2, .ref ov]) ++ List.replicate (5 - (lg_sl ([.ref x, .int p1, .int p2, .ref ov])).length) Slot.unset).toArray = ls at hl ⊢
  have hl : lv_has ls 5 [(0, .ref x), (1, .int p1), (2, .int p2), (3, .ref ov)] := hl
  refine lv_aload_n hx hb dL_value_0 rfl (lv_at hl 3 rfl) ?_
  refine lv_iconst (v := 0) hx hb dL_value_1 (by decide) ?_
  refine lv_aload_n hx hb dL_value_2 rfl (lv_at hl 0 rfl) ?_
  refine lv_iload_n hx hb dL_value_3 rfl (lv_at hl 1 rfl) ?_
  refine lv_iload_n hx hb dL_value_4 rfl (lv_at hl 2 rfl) ?_
  refine cm_xi (wr := [(ov, .inl (ct 1, 1, .inr (.inl f)))]) (vx_runV (As := [.int p1, .int p2]) (rest := [.int 0, .ref ov]) ⟨hx, hb, hml, hown, hts⟩ (c_value_0 l hfl D ct x w sp sv bu w_se w_cu w_pr w_ch w_re w_lo p1 p2 _) (cm_V 2 hts kc_X10_value ki_RX10 kl_RL_70 kv_X10_value kx_X10_value kd_X10_value ⟨Nat.le_of_ble_eq_true rfl, Nat.le_of_ble_eq_true rfl⟩) (cm_preV hP hK hD hS hA hX [0, 1] rfl rfl rfl (q0 := 0) (ci := 10) rfl rfl) rfl rfl hl.1 rfl (lv_room (Nat.le_of_ble_eq_true rfl)) dL_value_5 ⟨Nat.le_of_ble_eq_true rfl, Nat.le_of_ble_eq_true rfl⟩) hP hD hS hA [0, 1] [2] rfl rfl rfl (by decide) (fun E ce q9 u H locs hu hE hP hD hS hce hcv hcl => ?_) (fun r_1 u H locs hw_2 hP hD hS => ?_)
  · subst hE
    have hP : va_P D vwCl [(ov, .inl (ct 1, 1, .inr (.inl f))), (x, .inr (10, [.ref w, .ref sp, .ref sv, .ref bu, .int 0, .int 0])), (w, .inr (9, [.int 0, .ref w_se, .ref w_cu, .ref w_pr, .int 0, .ref w_ch, .ref w_re, .ref w_lo]))] H := hP
    have hD : va_D A [(ov, .inl (ct 1, 1, .inr (.inl f))), (x, .inr (10, [.ref w, .ref sp, .ref sv, .ref bu, .int 0, .int 0])), (w, .inr (9, [.int 0, .ref w_se, .ref w_cu, .ref w_pr, .int 0, .ref w_ch, .ref w_re, .ref w_lo]))] := hD
    refine vx_catch (name := "java/lang/IndexOutOfBoundsException") hown [] _ _ htab (fun z hz => absurd hz List.not_mem_nil) (by decide) (by decide) (hts _ kl_RL_32) (hts _ kcast_IOE) hce hcv hcl ?_
    refine W.eq (g2 := F0 m 13 ls [.ref q9]) rfl ?_
    refine lv_astore (lv' := [(4, .ref q9), (0, .ref x), (1, .int p1), (2, .int p2), (3, .ref ov)]) hx hb dL_value_13 hl (by decide) rfl (fun ls hl => ?_)
    refine lv_iconst (v := 1) hx hb dL_value_15 (by decide) ?_
    have hP9 := hP.sub (ws' := []) [] rfl
    have hD9 := hD.sub (ws' := []) [] (by decide) rfl
    exact W.iret (v := 1) hx hb hr (fun t ht hW => ⟨⟨1, (), rfl, rfl, by rw [ht]; exact hP9, by rw [hAe]; exact hD9⟩, hS.F ht⟩) hS.2.2 dL_value_16
  · exact hw_2.elim
theorem dL_restVoltage_0 : decode cL_restVoltage 0 = .ok (.aload_n 3, 1) := by decide +kernel
theorem dL_restVoltage_1 : decode cL_restVoltage 1 = .ok (.iconst 0, 1) := by decide +kernel
theorem dL_restVoltage_2 : decode cL_restVoltage 2 = .ok (.aload_n 0, 1) := by decide +kernel
theorem dL_restVoltage_3 : decode cL_restVoltage 3 = .ok (.iload_n 1, 1) := by decide +kernel
theorem dL_restVoltage_4 : decode cL_restVoltage 4 = .ok (.iload_n 2, 1) := by decide +kernel
theorem dL_restVoltage_5 : decode cL_restVoltage 5 = .ok (.invokevirtual 73, 3) := by decide +kernel
theorem dL_restVoltage_13 : decode cL_restVoltage 13 = .ok (.astore 4, 2) := by decide +kernel
theorem dL_restVoltage_15 : decode cL_restVoltage 15 = .ok (.iconst 1, 1) := by decide +kernel
theorem dL_restVoltage_16 : decode cL_restVoltage 16 = .ok (.ireturn, 1) := by decide +kernel
set_option maxRecDepth 100000 in
set_option maxHeartbeats 4000000 in
theorem l_restVoltage (l : Launch) (hfl : l.stackTraces = false) (D : va_G) (ct : Nat → ClassId) (x : Nat) (w : Nat) (sp : Nat) (sv : Nat) (bu : Nat) (w_se : Nat) (w_cu : Nat) (w_pr : Nat) (w_ch : Nat) (w_re : Nat) (w_lo : Nat) (ov : Nat) (f : Nat → Int64) (p1 : Int32) (p2 : Int32) (sz : Nat) : Met l yL_restVoltage (wsw_ yL_restVoltage cL_restVoltage 5 (some .int) [(0, 10, 13, 32), (0, 10, 17, 13)]) ({ frames := 8, cells := 1, slots := 6, locals := 135 } : Room) (va_Pc [.ref x, .int p1, .int p2, .ref ov] (cmP D ct sz [(x, .inr (10, [.ref w, .ref sp, .ref sv, .ref bu, .int 0, .int 0])), (w, .inr (9, [.int 0, .ref w_se, .ref w_cu, .ref w_pr, .int 0, .ref w_ch, .ref w_re, .ref w_lo])), (ov, .inl (ct 1, 1, .inr (.inl f)))])) (va_Qi (fun (r : Int32) (_ : Unit) => r = 1) (cmB D [(x, .inr (10, [.ref w, .ref sp, .ref sv, .ref bu, .int 0, .int 0])), (w, .inr (9, [.int 0, .ref w_se, .ref w_cu, .ref w_pr, .int 0, .ref w_ch, .ref w_re, .ref w_lo])), (ov, .inl (ct 1, 1, .inr (.inl f)))] sz (fun _ : Unit => [])) (va_A [(x, .inr (10, [.ref w, .ref sp, .ref sv, .ref bu, .int 0, .int 0])), (w, .inr (9, [.int 0, .ref w_se, .ref w_cu, .ref w_pr, .int 0, .ref w_ch, .ref w_re, .ref w_lo])), (ov, .inl (ct 1, 1, .inr (.inl f)))] sz)) 1 6 (va_A [(x, .inr (10, [.ref w, .ref sp, .ref sv, .ref bu, .int 0, .int 0])), (w, .inr (9, [.int 0, .ref w_se, .ref w_cu, .ref w_pr, .int 0, .ref w_ch, .ref w_re, .ref w_lo])), (ov, .inl (ct 1, 1, .inr (.inl f)))] sz) := by
  refine va_MetW (cc := cL_restVoltage) (maxL := 5) (ret := (some .int)) (hh := [(0, 10, 13, 32), (0, 10, 17, 13)]) (by decide) rfl ?_
  intro p e s m args below meth c s₁ B hml hv
  have hts0 := atoms_spec (ws := wsw_ yL_restVoltage cL_restVoltage 5 (some .int) [(0, 10, 13, 32), (0, 10, 17, 13)]) B.pre
  have hts : ∀ w ∈ cm_all, w.before args s = true := fun w h => hts0 w (List.mem_cons_of_mem _ h)
  obtain ⟨rfl, hsz, hP, hK, hD0, hX⟩ := hv
  have hx := B.exec
  have hb := B.bytes
  have hr := B.returns
  have htab := vx_table (x := yL_restVoltage) B (hts0 _ List.mem_cons_self)
  have hown : s.vm.findClass RL = some m.cls := findClass_of_methodNamed B.named
  have hlocks := B.notSynchronized
  subst hsz
  have hD := hD0.self (sz := s.heap.size)
  generalize hAe : va_A [(x, .inr (10, [.ref w, .ref sp, .ref sv, .ref bu, .int 0, .int 0])), (w, .inr (9, [.int 0, .ref w_se, .ref w_cu, .ref w_pr, .int 0, .ref w_ch, .ref w_re, .ref w_lo])), (ov, .inl (ct 1, 1, .inr (.inl f)))] s.heap.size = A at hD hX ⊢
  have hA : ∀ q : Nat, s.heap.size ≤ q → A q := fun q h => by rw [← hAe]; exact Or.inr h
  have hS : va_S A s.heap s.heap [] := va_S.rf
  have hl := lv_entry ([.ref x, .int p1, .int p2, .ref ov]) (n := 5) (Nat.le_of_ble_eq_true rfl)
  rw [lg_entry_eq]
  generalize (lg_sl ([.ref x, .int p1, .int p2, .ref ov]) ++ List.replicate (5 - (lg_sl ([.ref x, .int p1, .int p2, .ref ov])).length) Slot.unset).toArray = ls at hl ⊢
  have hl : lv_has ls 5 [(0, .ref x), (1, .int p1), (2, .int p2), (3, .ref ov)] := hl
  refine lv_aload_n hx hb dL_restVoltage_0 rfl (lv_at hl 3 rfl) ?_
  refine lv_iconst (v := 0) hx hb dL_restVoltage_1 (by decide) ?_
  refine lv_aload_n hx hb dL_restVoltage_2 rfl (lv_at hl 0 rfl) ?_
  refine lv_iload_n hx hb dL_restVoltage_3 rfl (lv_at hl 1 rfl) ?_
  refine lv_iload_n hx hb dL_restVoltage_4 rfl (lv_at hl 2 rfl) ?_
  refine cm_xi (wr := [(ov, .inl (ct 1, 1, .inr (.inl f)))]) (vx_runV (As := [.int p1, .int p2]) (rest := [.int 0, .ref ov]) ⟨hx, hb, hml, hown, hts⟩ (c_restVoltage_0 l hfl D ct x w sp sv bu w_se w_cu w_pr w_ch w_re w_lo p1 p2 _) (cm_V 2 hts kc_X10_restVoltage ki_RX10 kl_RL_73 kv_X10_restVoltage kx_X10_restVoltage kd_X10_restVoltage ⟨Nat.le_of_ble_eq_true rfl, Nat.le_of_ble_eq_true rfl⟩) (cm_preV hP hK hD hS hA hX [0, 1] rfl rfl rfl (q0 := 0) (ci := 10) rfl rfl) rfl rfl hl.1 rfl (lv_room (Nat.le_of_ble_eq_true rfl)) dL_restVoltage_5 ⟨Nat.le_of_ble_eq_true rfl, Nat.le_of_ble_eq_true rfl⟩) hP hD hS hA [0, 1] [2] rfl rfl rfl (by decide) (fun E ce q9 u H locs hu hE hP hD hS hce hcv hcl => ?_) (fun r_1 u H locs hw_2 hP hD hS => ?_)
  · subst hE
    have hP : va_P D vwCl [(ov, .inl (ct 1, 1, .inr (.inl f))), (x, .inr (10, [.ref w, .ref sp, .ref sv, .ref bu, .int 0, .int 0])), (w, .inr (9, [.int 0, .ref w_se, .ref w_cu, .ref w_pr, .int 0, .ref w_ch, .ref w_re, .ref w_lo]))] H := hP
    have hD : va_D A [(ov, .inl (ct 1, 1, .inr (.inl f))), (x, .inr (10, [.ref w, .ref sp, .ref sv, .ref bu, .int 0, .int 0])), (w, .inr (9, [.int 0, .ref w_se, .ref w_cu, .ref w_pr, .int 0, .ref w_ch, .ref w_re, .ref w_lo]))] := hD
    refine vx_catch (name := "java/lang/IndexOutOfBoundsException") hown [] _ _ htab (fun z hz => absurd hz List.not_mem_nil) (by decide) (by decide) (hts _ kl_RL_32) (hts _ kcast_IOE) hce hcv hcl ?_
    refine W.eq (g2 := F0 m 13 ls [.ref q9]) rfl ?_
    refine lv_astore (lv' := [(4, .ref q9), (0, .ref x), (1, .int p1), (2, .int p2), (3, .ref ov)]) hx hb dL_restVoltage_13 hl (by decide) rfl (fun ls hl => ?_)
    refine lv_iconst (v := 1) hx hb dL_restVoltage_15 (by decide) ?_
    have hP9 := hP.sub (ws' := []) [] rfl
    have hD9 := hD.sub (ws' := []) [] (by decide) rfl
    exact W.iret (v := 1) hx hb hr (fun t ht hW => ⟨⟨1, (), rfl, rfl, by rw [ht]; exact hP9, by rw [hAe]; exact hD9⟩, hS.F ht⟩) hS.2.2 dL_restVoltage_16
  · exact hw_2.elim
theorem dL_chargeFor_0 : decode cL_chargeFor 0 = .ok (.aload_n 3, 1) := by decide +kernel
theorem dL_chargeFor_1 : decode cL_chargeFor 1 = .ok (.iconst 0, 1) := by decide +kernel
theorem dL_chargeFor_2 : decode cL_chargeFor 2 = .ok (.aload_n 0, 1) := by decide +kernel
theorem dL_chargeFor_3 : decode cL_chargeFor 3 = .ok (.iload_n 1, 1) := by decide +kernel
theorem dL_chargeFor_4 : decode cL_chargeFor 4 = .ok (.iload_n 2, 1) := by decide +kernel
theorem dL_chargeFor_5 : decode cL_chargeFor 5 = .ok (.invokevirtual 76, 3) := by decide +kernel
theorem dL_chargeFor_13 : decode cL_chargeFor 13 = .ok (.astore 4, 2) := by decide +kernel
theorem dL_chargeFor_15 : decode cL_chargeFor 15 = .ok (.iconst 1, 1) := by decide +kernel
theorem dL_chargeFor_16 : decode cL_chargeFor 16 = .ok (.ireturn, 1) := by decide +kernel
set_option maxRecDepth 100000 in
set_option maxHeartbeats 4000000 in
theorem l_chargeFor (l : Launch) (hfl : l.stackTraces = false) (D : va_G) (ct : Nat → ClassId) (x : Nat) (w : Nat) (sp : Nat) (sv : Nat) (bu : Nat) (w_se : Nat) (w_cu : Nat) (w_pr : Nat) (w_ch : Nat) (w_re : Nat) (w_lo : Nat) (ov : Nat) (f : Nat → Int64) (p1 : Int32) (p2 : Int32) (sz : Nat) : Met l yL_chargeFor (wsw_ yL_chargeFor cL_chargeFor 5 (some .int) [(0, 10, 13, 32), (0, 10, 17, 13)]) ({ frames := 8, cells := 1, slots := 6, locals := 135 } : Room) (va_Pc [.ref x, .int p1, .int p2, .ref ov] (cmP D ct sz [(x, .inr (10, [.ref w, .ref sp, .ref sv, .ref bu, .int 0, .int 0])), (w, .inr (9, [.int 0, .ref w_se, .ref w_cu, .ref w_pr, .int 0, .ref w_ch, .ref w_re, .ref w_lo])), (ov, .inl (ct 1, 1, .inr (.inl f)))])) (va_Qi (fun (r : Int32) (_ : Unit) => r = 1) (cmB D [(x, .inr (10, [.ref w, .ref sp, .ref sv, .ref bu, .int 0, .int 0])), (w, .inr (9, [.int 0, .ref w_se, .ref w_cu, .ref w_pr, .int 0, .ref w_ch, .ref w_re, .ref w_lo])), (ov, .inl (ct 1, 1, .inr (.inl f)))] sz (fun _ : Unit => [])) (va_A [(x, .inr (10, [.ref w, .ref sp, .ref sv, .ref bu, .int 0, .int 0])), (w, .inr (9, [.int 0, .ref w_se, .ref w_cu, .ref w_pr, .int 0, .ref w_ch, .ref w_re, .ref w_lo])), (ov, .inl (ct 1, 1, .inr (.inl f)))] sz)) 1 6 (va_A [(x, .inr (10, [.ref w, .ref sp, .ref sv, .ref bu, .int 0, .int 0])), (w, .inr (9, [.int 0, .ref w_se, .ref w_cu, .ref w_pr, .int 0, .ref w_ch, .ref w_re, .ref w_lo])), (ov, .inl (ct 1, 1, .inr (.inl f)))] sz) := by
  refine va_MetW (cc := cL_chargeFor) (maxL := 5) (ret := (some .int)) (hh := [(0, 10, 13, 32), (0, 10, 17, 13)]) (by decide) rfl ?_
  intro p e s m args below meth c s₁ B hml hv
  have hts0 := atoms_spec (ws := wsw_ yL_chargeFor cL_chargeFor 5 (some .int) [(0, 10, 13, 32), (0, 10, 17, 13)]) B.pre
  have hts : ∀ w ∈ cm_all, w.before args s = true := fun w h => hts0 w (List.mem_cons_of_mem _ h)
  obtain ⟨rfl, hsz, hP, hK, hD0, hX⟩ := hv
  have hx := B.exec
  have hb := B.bytes
  have hr := B.returns
  have htab := vx_table (x := yL_chargeFor) B (hts0 _ List.mem_cons_self)
  have hown : s.vm.findClass RL = some m.cls := findClass_of_methodNamed B.named
  have hlocks := B.notSynchronized
  subst hsz
  have hD := hD0.self (sz := s.heap.size)
  generalize hAe : va_A [(x, .inr (10, [.ref w, .ref sp, .ref sv, .ref bu, .int 0, .int 0])), (w, .inr (9, [.int 0, .ref w_se, .ref w_cu, .ref w_pr, .int 0, .ref w_ch, .ref w_re, .ref w_lo])), (ov, .inl (ct 1, 1, .inr (.inl f)))] s.heap.size = A at hD hX ⊢
  have hA : ∀ q : Nat, s.heap.size ≤ q → A q := fun q h => by rw [← hAe]; exact Or.inr h
  have hS : va_S A s.heap s.heap [] := va_S.rf
  have hl := lv_entry ([.ref x, .int p1, .int p2, .ref ov]) (n := 5) (Nat.le_of_ble_eq_true rfl)
  rw [lg_entry_eq]
  generalize (lg_sl ([.ref x, .int p1, .int p2, .ref ov]) ++ List.replicate (5 - (lg_sl ([.ref x, .int p1, .int p2, .ref ov])).length) Slot.unset).toArray = ls at hl ⊢
  have hl : lv_has ls 5 [(0, .ref x), (1, .int p1), (2, .int p2), (3, .ref ov)] := hl
  refine lv_aload_n hx hb dL_chargeFor_0 rfl (lv_at hl 3 rfl) ?_
  refine lv_iconst (v := 0) hx hb dL_chargeFor_1 (by decide) ?_
  refine lv_aload_n hx hb dL_chargeFor_2 rfl (lv_at hl 0 rfl) ?_
  refine lv_iload_n hx hb dL_chargeFor_3 rfl (lv_at hl 1 rfl) ?_
  refine lv_iload_n hx hb dL_chargeFor_4 rfl (lv_at hl 2 rfl) ?_
  refine cm_xi (wr := [(ov, .inl (ct 1, 1, .inr (.inl f)))]) (vx_runV (As := [.int p1, .int p2]) (rest := [.int 0, .ref ov]) ⟨hx, hb, hml, hown, hts⟩ (c_chargeFor_0 l hfl D ct x w sp sv bu w_se w_cu w_pr w_ch w_re w_lo p1 p2 _) (cm_V 2 hts kc_X10_chargeFor ki_RX10 kl_RL_76 kv_X10_chargeFor kx_X10_chargeFor kd_X10_chargeFor ⟨Nat.le_of_ble_eq_true rfl, Nat.le_of_ble_eq_true rfl⟩) (cm_preV hP hK hD hS hA hX [0, 1] rfl rfl rfl (q0 := 0) (ci := 10) rfl rfl) rfl rfl hl.1 rfl (lv_room (Nat.le_of_ble_eq_true rfl)) dL_chargeFor_5 ⟨Nat.le_of_ble_eq_true rfl, Nat.le_of_ble_eq_true rfl⟩) hP hD hS hA [0, 1] [2] rfl rfl rfl (by decide) (fun E ce q9 u H locs hu hE hP hD hS hce hcv hcl => ?_) (fun r_1 u H locs hw_2 hP hD hS => ?_)
  · subst hE
    have hP : va_P D vwCl [(ov, .inl (ct 1, 1, .inr (.inl f))), (x, .inr (10, [.ref w, .ref sp, .ref sv, .ref bu, .int 0, .int 0])), (w, .inr (9, [.int 0, .ref w_se, .ref w_cu, .ref w_pr, .int 0, .ref w_ch, .ref w_re, .ref w_lo]))] H := hP
    have hD : va_D A [(ov, .inl (ct 1, 1, .inr (.inl f))), (x, .inr (10, [.ref w, .ref sp, .ref sv, .ref bu, .int 0, .int 0])), (w, .inr (9, [.int 0, .ref w_se, .ref w_cu, .ref w_pr, .int 0, .ref w_ch, .ref w_re, .ref w_lo]))] := hD
    refine vx_catch (name := "java/lang/IndexOutOfBoundsException") hown [] _ _ htab (fun z hz => absurd hz List.not_mem_nil) (by decide) (by decide) (hts _ kl_RL_32) (hts _ kcast_IOE) hce hcv hcl ?_
    refine W.eq (g2 := F0 m 13 ls [.ref q9]) rfl ?_
    refine lv_astore (lv' := [(4, .ref q9), (0, .ref x), (1, .int p1), (2, .int p2), (3, .ref ov)]) hx hb dL_chargeFor_13 hl (by decide) rfl (fun ls hl => ?_)
    refine lv_iconst (v := 1) hx hb dL_chargeFor_15 (by decide) ?_
    have hP9 := hP.sub (ws' := []) [] rfl
    have hD9 := hD.sub (ws' := []) [] (by decide) rfl
    exact W.iret (v := 1) hx hb hr (fun t ht hW => ⟨⟨1, (), rfl, rfl, by rw [ht]; exact hP9, by rw [hAe]; exact hD9⟩, hS.F ht⟩) hS.2.2 dL_chargeFor_16
  · exact hw_2.elim
theorem dL_filling_0 : decode cL_filling 0 = .ok (.aload_n 2, 1) := by decide +kernel
theorem dL_filling_1 : decode cL_filling 1 = .ok (.iconst 0, 1) := by decide +kernel
theorem dL_filling_2 : decode cL_filling 2 = .ok (.aload_n 0, 1) := by decide +kernel
theorem dL_filling_3 : decode cL_filling 3 = .ok (.iload_n 1, 1) := by decide +kernel
theorem dL_filling_4 : decode cL_filling 4 = .ok (.invokevirtual 79, 3) := by decide +kernel
theorem dL_filling_12 : decode cL_filling 12 = .ok (.astore_n 3, 1) := by decide +kernel
theorem dL_filling_13 : decode cL_filling 13 = .ok (.iconst 1, 1) := by decide +kernel
theorem dL_filling_14 : decode cL_filling 14 = .ok (.ireturn, 1) := by decide +kernel
set_option maxRecDepth 100000 in
set_option maxHeartbeats 4000000 in
theorem l_filling (l : Launch) (hfl : l.stackTraces = false) (D : va_G) (ct : Nat → ClassId) (x : Nat) (w : Nat) (sp : Nat) (sv : Nat) (bu : Nat) (w_se : Nat) (w_cu : Nat) (w_pr : Nat) (w_ch : Nat) (w_re : Nat) (w_lo : Nat) (ov : Nat) (f : Nat → Int64) (p1 : Int32) (sz : Nat) : Met l yL_filling (wsw_ yL_filling cL_filling 4 (some .int) [(0, 9, 12, 32)]) ({ frames := 8, cells := 1, slots := 6, locals := 133 } : Room) (va_Pc [.ref x, .int p1, .ref ov] (cmP D ct sz [(x, .inr (10, [.ref w, .ref sp, .ref sv, .ref bu, .int 0, .int 0])), (w, .inr (9, [.int 0, .ref w_se, .ref w_cu, .ref w_pr, .int 0, .ref w_ch, .ref w_re, .ref w_lo])), (ov, .inl (ct 1, 1, .inr (.inl f)))])) (va_Qi (fun (r : Int32) (_ : Unit) => r = 1) (cmB D [(x, .inr (10, [.ref w, .ref sp, .ref sv, .ref bu, .int 0, .int 0])), (w, .inr (9, [.int 0, .ref w_se, .ref w_cu, .ref w_pr, .int 0, .ref w_ch, .ref w_re, .ref w_lo])), (ov, .inl (ct 1, 1, .inr (.inl f)))] sz (fun _ : Unit => [])) (va_A [(x, .inr (10, [.ref w, .ref sp, .ref sv, .ref bu, .int 0, .int 0])), (w, .inr (9, [.int 0, .ref w_se, .ref w_cu, .ref w_pr, .int 0, .ref w_ch, .ref w_re, .ref w_lo])), (ov, .inl (ct 1, 1, .inr (.inl f)))] sz)) 1 6 (va_A [(x, .inr (10, [.ref w, .ref sp, .ref sv, .ref bu, .int 0, .int 0])), (w, .inr (9, [.int 0, .ref w_se, .ref w_cu, .ref w_pr, .int 0, .ref w_ch, .ref w_re, .ref w_lo])), (ov, .inl (ct 1, 1, .inr (.inl f)))] sz) := by
  refine va_MetW (cc := cL_filling) (maxL := 4) (ret := (some .int)) (hh := [(0, 9, 12, 32)]) (by decide) rfl ?_
  intro p e s m args below meth c s₁ B hml hv
  have hts0 := atoms_spec (ws := wsw_ yL_filling cL_filling 4 (some .int) [(0, 9, 12, 32)]) B.pre
  have hts : ∀ w ∈ cm_all, w.before args s = true := fun w h => hts0 w (List.mem_cons_of_mem _ h)
  obtain ⟨rfl, hsz, hP, hK, hD0, hX⟩ := hv
  have hx := B.exec
  have hb := B.bytes
  have hr := B.returns
  have htab := vx_table (x := yL_filling) B (hts0 _ List.mem_cons_self)
  have hown : s.vm.findClass RL = some m.cls := findClass_of_methodNamed B.named
  have hlocks := B.notSynchronized
  subst hsz
  have hD := hD0.self (sz := s.heap.size)
  generalize hAe : va_A [(x, .inr (10, [.ref w, .ref sp, .ref sv, .ref bu, .int 0, .int 0])), (w, .inr (9, [.int 0, .ref w_se, .ref w_cu, .ref w_pr, .int 0, .ref w_ch, .ref w_re, .ref w_lo])), (ov, .inl (ct 1, 1, .inr (.inl f)))] s.heap.size = A at hD hX ⊢
  have hA : ∀ q : Nat, s.heap.size ≤ q → A q := fun q h => by rw [← hAe]; exact Or.inr h
  have hS : va_S A s.heap s.heap [] := va_S.rf
  have hl := lv_entry ([.ref x, .int p1, .ref ov]) (n := 4) (Nat.le_of_ble_eq_true rfl)
  rw [lg_entry_eq]
  generalize (lg_sl ([.ref x, .int p1, .ref ov]) ++ List.replicate (4 - (lg_sl ([.ref x, .int p1, .ref ov])).length) Slot.unset).toArray = ls at hl ⊢
  have hl : lv_has ls 4 [(0, .ref x), (1, .int p1), (2, .ref ov)] := hl
  refine lv_aload_n hx hb dL_filling_0 rfl (lv_at hl 2 rfl) ?_
  refine lv_iconst (v := 0) hx hb dL_filling_1 (by decide) ?_
  refine lv_aload_n hx hb dL_filling_2 rfl (lv_at hl 0 rfl) ?_
  refine lv_iload_n hx hb dL_filling_3 rfl (lv_at hl 1 rfl) ?_
  refine cm_xi (wr := [(ov, .inl (ct 1, 1, .inr (.inl f)))]) (vx_runV (As := [.int p1]) (rest := [.int 0, .ref ov]) ⟨hx, hb, hml, hown, hts⟩ (c_filling_0 l hfl D ct x w sp sv bu w_se w_cu w_pr w_ch w_re w_lo p1 _) (cm_V 1 hts kc_X10_filling ki_RX10 kl_RL_79 kv_X10_filling kx_X10_filling kd_X10_filling ⟨Nat.le_of_ble_eq_true rfl, Nat.le_of_ble_eq_true rfl⟩) (cm_preV hP hK hD hS hA hX [0, 1] rfl rfl rfl (q0 := 0) (ci := 10) rfl rfl) rfl rfl hl.1 rfl (lv_room (Nat.le_of_ble_eq_true rfl)) dL_filling_4 ⟨Nat.le_of_ble_eq_true rfl, Nat.le_of_ble_eq_true rfl⟩) hP hD hS hA [0, 1] [2] rfl rfl rfl (by decide) (fun E ce q9 u H locs hu hE hP hD hS hce hcv hcl => ?_) (fun r_1 u H locs hw_2 hP hD hS => ?_)
  · subst hE
    have hP : va_P D vwCl [(ov, .inl (ct 1, 1, .inr (.inl f))), (x, .inr (10, [.ref w, .ref sp, .ref sv, .ref bu, .int 0, .int 0])), (w, .inr (9, [.int 0, .ref w_se, .ref w_cu, .ref w_pr, .int 0, .ref w_ch, .ref w_re, .ref w_lo]))] H := hP
    have hD : va_D A [(ov, .inl (ct 1, 1, .inr (.inl f))), (x, .inr (10, [.ref w, .ref sp, .ref sv, .ref bu, .int 0, .int 0])), (w, .inr (9, [.int 0, .ref w_se, .ref w_cu, .ref w_pr, .int 0, .ref w_ch, .ref w_re, .ref w_lo]))] := hD
    refine vx_catch (name := "java/lang/IndexOutOfBoundsException") hown [] _ _ htab (fun z hz => absurd hz List.not_mem_nil) (by decide) (by decide) (hts _ kl_RL_32) (hts _ kcast_IOE) hce hcv hcl ?_
    refine W.eq (g2 := F0 m 12 ls [.ref q9]) rfl ?_
    refine lv_astore_n (lv' := [(3, .ref q9), (0, .ref x), (1, .int p1), (2, .ref ov)]) hx hb dL_filling_12 rfl hl (by decide) rfl (fun ls hl => ?_)
    refine lv_iconst (v := 1) hx hb dL_filling_13 (by decide) ?_
    have hP9 := hP.sub (ws' := []) [] rfl
    have hD9 := hD.sub (ws' := []) [] (by decide) rfl
    exact W.iret (v := 1) hx hb hr (fun t ht hW => ⟨⟨1, (), rfl, rfl, by rw [ht]; exact hP9, by rw [hAe]; exact hD9⟩, hS.F ht⟩) hS.2.2 dL_filling_14
  · exact hw_2.elim
theorem dL_ledger_0 : decode cL_ledger 0 = .ok (.aload_n 3, 1) := by decide +kernel
theorem dL_ledger_1 : decode cL_ledger 1 = .ok (.iconst 0, 1) := by decide +kernel
theorem dL_ledger_2 : decode cL_ledger 2 = .ok (.aload_n 0, 1) := by decide +kernel
theorem dL_ledger_3 : decode cL_ledger 3 = .ok (.iload_n 1, 1) := by decide +kernel
theorem dL_ledger_4 : decode cL_ledger 4 = .ok (.iload_n 2, 1) := by decide +kernel
theorem dL_ledger_5 : decode cL_ledger 5 = .ok (.invokevirtual 82, 3) := by decide +kernel
theorem dL_ledger_12 : decode cL_ledger 12 = .ok (.astore 4, 2) := by decide +kernel
theorem dL_ledger_14 : decode cL_ledger 14 = .ok (.iconst 1, 1) := by decide +kernel
theorem dL_ledger_15 : decode cL_ledger 15 = .ok (.ireturn, 1) := by decide +kernel
set_option maxRecDepth 100000 in
set_option maxHeartbeats 4000000 in
theorem l_ledger (l : Launch) (hfl : l.stackTraces = false) (D : va_G) (ct : Nat → ClassId) (x : Nat) (w : Nat) (sp : Nat) (sv : Nat) (bu : Nat) (w_se : Nat) (w_cu : Nat) (w_pr : Nat) (w_ch : Nat) (w_re : Nat) (w_lo : Nat) (ov : Nat) (f : Nat → Int64) (p1 : Int32) (p2 : Int32) (sz : Nat) : Met l yL_ledger (wsw_ yL_ledger cL_ledger 5 (some .int) [(0, 9, 12, 32), (0, 9, 16, 13)]) ({ frames := 8, cells := 1, slots := 6, locals := 135 } : Room) (va_Pc [.ref x, .int p1, .int p2, .ref ov] (cmP D ct sz [(x, .inr (10, [.ref w, .ref sp, .ref sv, .ref bu, .int 0, .int 0])), (w, .inr (9, [.int 0, .ref w_se, .ref w_cu, .ref w_pr, .int 0, .ref w_ch, .ref w_re, .ref w_lo])), (ov, .inl (ct 1, 1, .inr (.inl f)))])) (va_Qi (fun (r : Int32) (_ : Unit) => r = 1) (cmB D [(x, .inr (10, [.ref w, .ref sp, .ref sv, .ref bu, .int 0, .int 0])), (w, .inr (9, [.int 0, .ref w_se, .ref w_cu, .ref w_pr, .int 0, .ref w_ch, .ref w_re, .ref w_lo])), (ov, .inl (ct 1, 1, .inr (.inl f)))] sz (fun _ : Unit => [])) (va_A [(x, .inr (10, [.ref w, .ref sp, .ref sv, .ref bu, .int 0, .int 0])), (w, .inr (9, [.int 0, .ref w_se, .ref w_cu, .ref w_pr, .int 0, .ref w_ch, .ref w_re, .ref w_lo])), (ov, .inl (ct 1, 1, .inr (.inl f)))] sz)) 1 6 (va_A [(x, .inr (10, [.ref w, .ref sp, .ref sv, .ref bu, .int 0, .int 0])), (w, .inr (9, [.int 0, .ref w_se, .ref w_cu, .ref w_pr, .int 0, .ref w_ch, .ref w_re, .ref w_lo])), (ov, .inl (ct 1, 1, .inr (.inl f)))] sz) := by
  refine va_MetW (cc := cL_ledger) (maxL := 5) (ret := (some .int)) (hh := [(0, 9, 12, 32), (0, 9, 16, 13)]) (by decide) rfl ?_
  intro p e s m args below meth c s₁ B hml hv
  have hts0 := atoms_spec (ws := wsw_ yL_ledger cL_ledger 5 (some .int) [(0, 9, 12, 32), (0, 9, 16, 13)]) B.pre
  have hts : ∀ w ∈ cm_all, w.before args s = true := fun w h => hts0 w (List.mem_cons_of_mem _ h)
  obtain ⟨rfl, hsz, hP, hK, hD0, hX⟩ := hv
  have hx := B.exec
  have hb := B.bytes
  have hr := B.returns
  have htab := vx_table (x := yL_ledger) B (hts0 _ List.mem_cons_self)
  have hown : s.vm.findClass RL = some m.cls := findClass_of_methodNamed B.named
  have hlocks := B.notSynchronized
  subst hsz
  have hD := hD0.self (sz := s.heap.size)
  generalize hAe : va_A [(x, .inr (10, [.ref w, .ref sp, .ref sv, .ref bu, .int 0, .int 0])), (w, .inr (9, [.int 0, .ref w_se, .ref w_cu, .ref w_pr, .int 0, .ref w_ch, .ref w_re, .ref w_lo])), (ov, .inl (ct 1, 1, .inr (.inl f)))] s.heap.size = A at hD hX ⊢
  have hA : ∀ q : Nat, s.heap.size ≤ q → A q := fun q h => by rw [← hAe]; exact Or.inr h
  have hS : va_S A s.heap s.heap [] := va_S.rf
  have hl := lv_entry ([.ref x, .int p1, .int p2, .ref ov]) (n := 5) (Nat.le_of_ble_eq_true rfl)
  rw [lg_entry_eq]
  generalize (lg_sl ([.ref x, .int p1, .int p2, .ref ov]) ++ List.replicate (5 - (lg_sl ([.ref x, .int p1, .int p2, .ref ov])).length) Slot.unset).toArray = ls at hl ⊢
  have hl : lv_has ls 5 [(0, .ref x), (1, .int p1), (2, .int p2), (3, .ref ov)] := hl
  refine lv_aload_n hx hb dL_ledger_0 rfl (lv_at hl 3 rfl) ?_
  refine lv_iconst (v := 0) hx hb dL_ledger_1 (by decide) ?_
  refine lv_aload_n hx hb dL_ledger_2 rfl (lv_at hl 0 rfl) ?_
  refine lv_iload_n hx hb dL_ledger_3 rfl (lv_at hl 1 rfl) ?_
  refine lv_iload_n hx hb dL_ledger_4 rfl (lv_at hl 2 rfl) ?_
  refine cm_xl (wr := [(ov, .inl (ct 1, 1, .inr (.inl f)))]) (vx_runV (As := [.int p1, .int p2]) (rest := [.int 0, .ref ov]) ⟨hx, hb, hml, hown, hts⟩ (c_ledger_0 l hfl D ct x w sp sv bu w_se w_cu w_pr w_ch w_re w_lo p1 p2 _) (cm_V 2 hts kc_X10_ledger ki_RX10 kl_RL_82 kv_X10_ledger kx_X10_ledger kd_X10_ledger ⟨Nat.le_of_ble_eq_true rfl, Nat.le_of_ble_eq_true rfl⟩) (cm_preV hP hK hD hS hA hX [0, 1] rfl rfl rfl (q0 := 0) (ci := 10) rfl rfl) rfl rfl hl.1 rfl (lv_room (Nat.le_of_ble_eq_true rfl)) dL_ledger_5 ⟨Nat.le_of_ble_eq_true rfl, Nat.le_of_ble_eq_true rfl⟩) hP hD hS hA [0, 1] [2] rfl rfl rfl (by decide) (fun E ce q9 u H locs hu hE hP hD hS hce hcv hcl => ?_) (fun r_1 u H locs hw_2 hP hD hS => ?_)
  · subst hE
    have hP : va_P D vwCl [(ov, .inl (ct 1, 1, .inr (.inl f))), (x, .inr (10, [.ref w, .ref sp, .ref sv, .ref bu, .int 0, .int 0])), (w, .inr (9, [.int 0, .ref w_se, .ref w_cu, .ref w_pr, .int 0, .ref w_ch, .ref w_re, .ref w_lo]))] H := hP
    have hD : va_D A [(ov, .inl (ct 1, 1, .inr (.inl f))), (x, .inr (10, [.ref w, .ref sp, .ref sv, .ref bu, .int 0, .int 0])), (w, .inr (9, [.int 0, .ref w_se, .ref w_cu, .ref w_pr, .int 0, .ref w_ch, .ref w_re, .ref w_lo]))] := hD
    refine vx_catch (name := "java/lang/IndexOutOfBoundsException") hown [] _ _ htab (fun z hz => absurd hz List.not_mem_nil) (by decide) (by decide) (hts _ kl_RL_32) (hts _ kcast_IOE) hce hcv hcl ?_
    refine W.eq (g2 := F0 m 12 ls [.ref q9]) rfl ?_
    refine lv_astore (lv' := [(4, .ref q9), (0, .ref x), (1, .int p1), (2, .int p2), (3, .ref ov)]) hx hb dL_ledger_12 hl (by decide) rfl (fun ls hl => ?_)
    refine lv_iconst (v := 1) hx hb dL_ledger_14 (by decide) ?_
    have hP9 := hP.sub (ws' := []) [] rfl
    have hD9 := hD.sub (ws' := []) [] (by decide) rfl
    exact W.iret (v := 1) hx hb hr (fun t ht hW => ⟨⟨1, (), rfl, rfl, by rw [ht]; exact hP9, by rw [hAe]; exact hD9⟩, hS.F ht⟩) hS.2.2 dL_ledger_15
  · exact hw_2.elim
theorem dL_chargeEfficiency_0 : decode cL_chargeEfficiency 0 = .ok (.aload_n 2, 1) := by decide +kernel
theorem dL_chargeEfficiency_1 : decode cL_chargeEfficiency 1 = .ok (.iconst 0, 1) := by decide +kernel
theorem dL_chargeEfficiency_2 : decode cL_chargeEfficiency 2 = .ok (.aload_n 0, 1) := by decide +kernel
theorem dL_chargeEfficiency_3 : decode cL_chargeEfficiency 3 = .ok (.iload_n 1, 1) := by decide +kernel
theorem dL_chargeEfficiency_4 : decode cL_chargeEfficiency 4 = .ok (.invokevirtual 86, 3) := by decide +kernel
theorem dL_chargeEfficiency_12 : decode cL_chargeEfficiency 12 = .ok (.astore_n 3, 1) := by decide +kernel
theorem dL_chargeEfficiency_13 : decode cL_chargeEfficiency 13 = .ok (.iconst 1, 1) := by decide +kernel
theorem dL_chargeEfficiency_14 : decode cL_chargeEfficiency 14 = .ok (.ireturn, 1) := by decide +kernel
set_option maxRecDepth 100000 in
set_option maxHeartbeats 4000000 in
theorem l_chargeEfficiency (l : Launch) (hfl : l.stackTraces = false) (D : va_G) (ct : Nat → ClassId) (x : Nat) (w : Nat) (sp : Nat) (sv : Nat) (bu : Nat) (w_se : Nat) (w_cu : Nat) (w_pr : Nat) (w_ch : Nat) (w_re : Nat) (w_lo : Nat) (od : Nat) (f : Nat → UInt64) (p1 : Int32) (sz : Nat) : Met l yL_chargeEfficiency (wsw_ yL_chargeEfficiency cL_chargeEfficiency 4 (some .int) [(0, 9, 12, 32)]) ({ frames := 8, cells := 1, slots := 6, locals := 134 } : Room) (va_Pc [.ref x, .int p1, .ref od] (cmP D ct sz [(x, .inr (10, [.ref w, .ref sp, .ref sv, .ref bu, .int 0, .int 0])), (w, .inr (9, [.int 0, .ref w_se, .ref w_cu, .ref w_pr, .int 0, .ref w_ch, .ref w_re, .ref w_lo])), (od, .inl (ct 5, 1, .inr (.inr (.inr (.inl f)))))])) (va_Qi (fun (r : Int32) (_ : Unit) => r = 1) (cmB D [(x, .inr (10, [.ref w, .ref sp, .ref sv, .ref bu, .int 0, .int 0])), (w, .inr (9, [.int 0, .ref w_se, .ref w_cu, .ref w_pr, .int 0, .ref w_ch, .ref w_re, .ref w_lo])), (od, .inl (ct 5, 1, .inr (.inr (.inr (.inl f)))))] sz (fun _ : Unit => [])) (va_A [(x, .inr (10, [.ref w, .ref sp, .ref sv, .ref bu, .int 0, .int 0])), (w, .inr (9, [.int 0, .ref w_se, .ref w_cu, .ref w_pr, .int 0, .ref w_ch, .ref w_re, .ref w_lo])), (od, .inl (ct 5, 1, .inr (.inr (.inr (.inl f)))))] sz)) 1 6 (va_A [(x, .inr (10, [.ref w, .ref sp, .ref sv, .ref bu, .int 0, .int 0])), (w, .inr (9, [.int 0, .ref w_se, .ref w_cu, .ref w_pr, .int 0, .ref w_ch, .ref w_re, .ref w_lo])), (od, .inl (ct 5, 1, .inr (.inr (.inr (.inl f)))))] sz) := by
  refine va_MetW (cc := cL_chargeEfficiency) (maxL := 4) (ret := (some .int)) (hh := [(0, 9, 12, 32)]) (by decide) rfl ?_
  intro p e s m args below meth c s₁ B hml hv
  have hts0 := atoms_spec (ws := wsw_ yL_chargeEfficiency cL_chargeEfficiency 4 (some .int) [(0, 9, 12, 32)]) B.pre
  have hts : ∀ w ∈ cm_all, w.before args s = true := fun w h => hts0 w (List.mem_cons_of_mem _ h)
  obtain ⟨rfl, hsz, hP, hK, hD0, hX⟩ := hv
  have hx := B.exec
  have hb := B.bytes
  have hr := B.returns
  have htab := vx_table (x := yL_chargeEfficiency) B (hts0 _ List.mem_cons_self)
  have hown : s.vm.findClass RL = some m.cls := findClass_of_methodNamed B.named
  have hlocks := B.notSynchronized
  subst hsz
  have hD := hD0.self (sz := s.heap.size)
  generalize hAe : va_A [(x, .inr (10, [.ref w, .ref sp, .ref sv, .ref bu, .int 0, .int 0])), (w, .inr (9, [.int 0, .ref w_se, .ref w_cu, .ref w_pr, .int 0, .ref w_ch, .ref w_re, .ref w_lo])), (od, .inl (ct 5, 1, .inr (.inr (.inr (.inl f)))))] s.heap.size = A at hD hX ⊢
  have hA : ∀ q : Nat, s.heap.size ≤ q → A q := fun q h => by rw [← hAe]; exact Or.inr h
  have hS : va_S A s.heap s.heap [] := va_S.rf
  have hl := lv_entry ([.ref x, .int p1, .ref od]) (n := 4) (Nat.le_of_ble_eq_true rfl)
  rw [lg_entry_eq]
  generalize (lg_sl ([.ref x, .int p1, .ref od]) ++ List.replicate (4 - (lg_sl ([.ref x, .int p1, .ref od])).length) Slot.unset).toArray = ls at hl ⊢
  have hl : lv_has ls 4 [(0, .ref x), (1, .int p1), (2, .ref od)] := hl
  refine lv_aload_n hx hb dL_chargeEfficiency_0 rfl (lv_at hl 2 rfl) ?_
  refine lv_iconst (v := 0) hx hb dL_chargeEfficiency_1 (by decide) ?_
  refine lv_aload_n hx hb dL_chargeEfficiency_2 rfl (lv_at hl 0 rfl) ?_
  refine lv_iload_n hx hb dL_chargeEfficiency_3 rfl (lv_at hl 1 rfl) ?_
  refine cm_xf (wr := [(od, .inl (ct 5, 1, .inr (.inr (.inr (.inl f)))))]) (vx_runV (As := [.int p1]) (rest := [.int 0, .ref od]) ⟨hx, hb, hml, hown, hts⟩ (c_chargeEfficiency_0 l hfl D ct x w sp sv bu w_se w_cu w_pr w_ch w_re w_lo p1 _) (cm_V 1 hts kc_X10_chargeEfficiency ki_RX10 kl_RL_86 kv_X10_chargeEfficiency kx_X10_chargeEfficiency kd_X10_chargeEfficiency ⟨Nat.le_of_ble_eq_true rfl, Nat.le_of_ble_eq_true rfl⟩) (cm_preV hP hK hD hS hA hX [0, 1] rfl rfl rfl (q0 := 0) (ci := 10) rfl rfl) rfl rfl hl.1 rfl (lv_room (Nat.le_of_ble_eq_true rfl)) dL_chargeEfficiency_4 ⟨Nat.le_of_ble_eq_true rfl, Nat.le_of_ble_eq_true rfl⟩) hP hD hS hA [0, 1] [2] rfl rfl rfl (by decide) (fun E ce q9 u H locs hu hE hP hD hS hce hcv hcl => ?_) (fun r_1 u H locs hw_2 hP hD hS => ?_)
  · subst hE
    have hP : va_P D vwCl [(od, .inl (ct 5, 1, .inr (.inr (.inr (.inl f))))), (x, .inr (10, [.ref w, .ref sp, .ref sv, .ref bu, .int 0, .int 0])), (w, .inr (9, [.int 0, .ref w_se, .ref w_cu, .ref w_pr, .int 0, .ref w_ch, .ref w_re, .ref w_lo]))] H := hP
    have hD : va_D A [(od, .inl (ct 5, 1, .inr (.inr (.inr (.inl f))))), (x, .inr (10, [.ref w, .ref sp, .ref sv, .ref bu, .int 0, .int 0])), (w, .inr (9, [.int 0, .ref w_se, .ref w_cu, .ref w_pr, .int 0, .ref w_ch, .ref w_re, .ref w_lo]))] := hD
    refine vx_catch (name := "java/lang/IndexOutOfBoundsException") hown [] _ _ htab (fun z hz => absurd hz List.not_mem_nil) (by decide) (by decide) (hts _ kl_RL_32) (hts _ kcast_IOE) hce hcv hcl ?_
    refine W.eq (g2 := F0 m 12 ls [.ref q9]) rfl ?_
    refine lv_astore_n (lv' := [(3, .ref q9), (0, .ref x), (1, .int p1), (2, .ref od)]) hx hb dL_chargeEfficiency_12 rfl hl (by decide) rfl (fun ls hl => ?_)
    refine lv_iconst (v := 1) hx hb dL_chargeEfficiency_13 (by decide) ?_
    have hP9 := hP.sub (ws' := []) [] rfl
    have hD9 := hD.sub (ws' := []) [] (by decide) rfl
    exact W.iret (v := 1) hx hb hr (fun t ht hW => ⟨⟨1, (), rfl, rfl, by rw [ht]; exact hP9, by rw [hAe]; exact hD9⟩, hS.F ht⟩) hS.2.2 dL_chargeEfficiency_14
  · exact hw_2.elim
theorem dL_energyEfficiency_0 : decode cL_energyEfficiency 0 = .ok (.aload_n 2, 1) := by decide +kernel
theorem dL_energyEfficiency_1 : decode cL_energyEfficiency 1 = .ok (.iconst 0, 1) := by decide +kernel
theorem dL_energyEfficiency_2 : decode cL_energyEfficiency 2 = .ok (.aload_n 0, 1) := by decide +kernel
theorem dL_energyEfficiency_3 : decode cL_energyEfficiency 3 = .ok (.iload_n 1, 1) := by decide +kernel
theorem dL_energyEfficiency_4 : decode cL_energyEfficiency 4 = .ok (.invokevirtual 90, 3) := by decide +kernel
theorem dL_energyEfficiency_11 : decode cL_energyEfficiency 11 = .ok (.astore_n 3, 1) := by decide +kernel
theorem dL_energyEfficiency_12 : decode cL_energyEfficiency 12 = .ok (.iconst 1, 1) := by decide +kernel
theorem dL_energyEfficiency_13 : decode cL_energyEfficiency 13 = .ok (.ireturn, 1) := by decide +kernel
set_option maxRecDepth 100000 in
set_option maxHeartbeats 4000000 in
theorem l_energyEfficiency (l : Launch) (hfl : l.stackTraces = false) (D : va_G) (ct : Nat → ClassId) (x : Nat) (w : Nat) (sp : Nat) (sv : Nat) (bu : Nat) (w_se : Nat) (w_cu : Nat) (w_pr : Nat) (w_ch : Nat) (w_re : Nat) (w_lo : Nat) (od : Nat) (f : Nat → UInt64) (p1 : Int32) (sz : Nat) : Met l yL_energyEfficiency (wsw_ yL_energyEfficiency cL_energyEfficiency 4 (some .int) [(0, 8, 11, 32)]) ({ frames := 8, cells := 1, slots := 6, locals := 134 } : Room) (va_Pc [.ref x, .int p1, .ref od] (cmP D ct sz [(x, .inr (10, [.ref w, .ref sp, .ref sv, .ref bu, .int 0, .int 0])), (w, .inr (9, [.int 0, .ref w_se, .ref w_cu, .ref w_pr, .int 0, .ref w_ch, .ref w_re, .ref w_lo])), (od, .inl (ct 5, 1, .inr (.inr (.inr (.inl f)))))])) (va_Qi (fun (r : Int32) (_ : Unit) => r = 1) (cmB D [(x, .inr (10, [.ref w, .ref sp, .ref sv, .ref bu, .int 0, .int 0])), (w, .inr (9, [.int 0, .ref w_se, .ref w_cu, .ref w_pr, .int 0, .ref w_ch, .ref w_re, .ref w_lo])), (od, .inl (ct 5, 1, .inr (.inr (.inr (.inl f)))))] sz (fun _ : Unit => [])) (va_A [(x, .inr (10, [.ref w, .ref sp, .ref sv, .ref bu, .int 0, .int 0])), (w, .inr (9, [.int 0, .ref w_se, .ref w_cu, .ref w_pr, .int 0, .ref w_ch, .ref w_re, .ref w_lo])), (od, .inl (ct 5, 1, .inr (.inr (.inr (.inl f)))))] sz)) 1 6 (va_A [(x, .inr (10, [.ref w, .ref sp, .ref sv, .ref bu, .int 0, .int 0])), (w, .inr (9, [.int 0, .ref w_se, .ref w_cu, .ref w_pr, .int 0, .ref w_ch, .ref w_re, .ref w_lo])), (od, .inl (ct 5, 1, .inr (.inr (.inr (.inl f)))))] sz) := by
  refine va_MetW (cc := cL_energyEfficiency) (maxL := 4) (ret := (some .int)) (hh := [(0, 8, 11, 32)]) (by decide) rfl ?_
  intro p e s m args below meth c s₁ B hml hv
  have hts0 := atoms_spec (ws := wsw_ yL_energyEfficiency cL_energyEfficiency 4 (some .int) [(0, 8, 11, 32)]) B.pre
  have hts : ∀ w ∈ cm_all, w.before args s = true := fun w h => hts0 w (List.mem_cons_of_mem _ h)
  obtain ⟨rfl, hsz, hP, hK, hD0, hX⟩ := hv
  have hx := B.exec
  have hb := B.bytes
  have hr := B.returns
  have htab := vx_table (x := yL_energyEfficiency) B (hts0 _ List.mem_cons_self)
  have hown : s.vm.findClass RL = some m.cls := findClass_of_methodNamed B.named
  have hlocks := B.notSynchronized
  subst hsz
  have hD := hD0.self (sz := s.heap.size)
  generalize hAe : va_A [(x, .inr (10, [.ref w, .ref sp, .ref sv, .ref bu, .int 0, .int 0])), (w, .inr (9, [.int 0, .ref w_se, .ref w_cu, .ref w_pr, .int 0, .ref w_ch, .ref w_re, .ref w_lo])), (od, .inl (ct 5, 1, .inr (.inr (.inr (.inl f)))))] s.heap.size = A at hD hX ⊢
  have hA : ∀ q : Nat, s.heap.size ≤ q → A q := fun q h => by rw [← hAe]; exact Or.inr h
  have hS : va_S A s.heap s.heap [] := va_S.rf
  have hl := lv_entry ([.ref x, .int p1, .ref od]) (n := 4) (Nat.le_of_ble_eq_true rfl)
  rw [lg_entry_eq]
  generalize (lg_sl ([.ref x, .int p1, .ref od]) ++ List.replicate (4 - (lg_sl ([.ref x, .int p1, .ref od])).length) Slot.unset).toArray = ls at hl ⊢
  have hl : lv_has ls 4 [(0, .ref x), (1, .int p1), (2, .ref od)] := hl
  refine lv_aload_n hx hb dL_energyEfficiency_0 rfl (lv_at hl 2 rfl) ?_
  refine lv_iconst (v := 0) hx hb dL_energyEfficiency_1 (by decide) ?_
  refine lv_aload_n hx hb dL_energyEfficiency_2 rfl (lv_at hl 0 rfl) ?_
  refine lv_iload_n hx hb dL_energyEfficiency_3 rfl (lv_at hl 1 rfl) ?_
  refine cm_xd (wr := [(od, .inl (ct 5, 1, .inr (.inr (.inr (.inl f)))))]) (vx_runV (As := [.int p1]) (rest := [.int 0, .ref od]) ⟨hx, hb, hml, hown, hts⟩ (c_energyEfficiency_0 l hfl D ct x w sp sv bu w_se w_cu w_pr w_ch w_re w_lo p1 _) (cm_V 1 hts kc_X10_energyEfficiency ki_RX10 kl_RL_90 kv_X10_energyEfficiency kx_X10_energyEfficiency kd_X10_energyEfficiency ⟨Nat.le_of_ble_eq_true rfl, Nat.le_of_ble_eq_true rfl⟩) (cm_preV hP hK hD hS hA hX [0, 1] rfl rfl rfl (q0 := 0) (ci := 10) rfl rfl) rfl rfl hl.1 rfl (lv_room (Nat.le_of_ble_eq_true rfl)) dL_energyEfficiency_4 ⟨Nat.le_of_ble_eq_true rfl, Nat.le_of_ble_eq_true rfl⟩) hP hD hS hA [0, 1] [2] rfl rfl rfl (by decide) (fun E ce q9 u H locs hu hE hP hD hS hce hcv hcl => ?_) (fun r_1 u H locs hw_2 hP hD hS => ?_)
  · subst hE
    have hP : va_P D vwCl [(od, .inl (ct 5, 1, .inr (.inr (.inr (.inl f))))), (x, .inr (10, [.ref w, .ref sp, .ref sv, .ref bu, .int 0, .int 0])), (w, .inr (9, [.int 0, .ref w_se, .ref w_cu, .ref w_pr, .int 0, .ref w_ch, .ref w_re, .ref w_lo]))] H := hP
    have hD : va_D A [(od, .inl (ct 5, 1, .inr (.inr (.inr (.inl f))))), (x, .inr (10, [.ref w, .ref sp, .ref sv, .ref bu, .int 0, .int 0])), (w, .inr (9, [.int 0, .ref w_se, .ref w_cu, .ref w_pr, .int 0, .ref w_ch, .ref w_re, .ref w_lo]))] := hD
    refine vx_catch (name := "java/lang/IndexOutOfBoundsException") hown [] _ _ htab (fun z hz => absurd hz List.not_mem_nil) (by decide) (by decide) (hts _ kl_RL_32) (hts _ kcast_IOE) hce hcv hcl ?_
    refine W.eq (g2 := F0 m 11 ls [.ref q9]) rfl ?_
    refine lv_astore_n (lv' := [(3, .ref q9), (0, .ref x), (1, .int p1), (2, .ref od)]) hx hb dL_energyEfficiency_11 rfl hl (by decide) rfl (fun ls hl => ?_)
    refine lv_iconst (v := 1) hx hb dL_energyEfficiency_12 (by decide) ?_
    have hP9 := hP.sub (ws' := []) [] rfl
    have hD9 := hD.sub (ws' := []) [] (by decide) rfl
    exact W.iret (v := 1) hx hb hr (fun t ht hW => ⟨⟨1, (), rfl, rfl, by rw [ht]; exact hP9, by rw [hAe]; exact hD9⟩, hS.F ht⟩) hS.2.2 dL_energyEfficiency_13
  · exact hw_2.elim
theorem dL_power_0 : decode cL_power 0 = .ok (.aload_n 2, 1) := by decide +kernel
theorem dL_power_1 : decode cL_power 1 = .ok (.iconst 0, 1) := by decide +kernel
theorem dL_power_2 : decode cL_power 2 = .ok (.aload_n 0, 1) := by decide +kernel
theorem dL_power_3 : decode cL_power 3 = .ok (.iload_n 1, 1) := by decide +kernel
theorem dL_power_4 : decode cL_power 4 = .ok (.invokevirtual 94, 3) := by decide +kernel
theorem dL_power_12 : decode cL_power 12 = .ok (.astore_n 3, 1) := by decide +kernel
theorem dL_power_13 : decode cL_power 13 = .ok (.iconst 1, 1) := by decide +kernel
theorem dL_power_14 : decode cL_power 14 = .ok (.ireturn, 1) := by decide +kernel
set_option maxRecDepth 100000 in
set_option maxHeartbeats 4000000 in
theorem l_power (l : Launch) (hfl : l.stackTraces = false) (D : va_G) (ct : Nat → ClassId) (x : Nat) (w : Nat) (sp : Nat) (sv : Nat) (bu : Nat) (w_se : Nat) (w_cu : Nat) (w_pr : Nat) (w_ch : Nat) (w_re : Nat) (w_lo : Nat) (ov : Nat) (f : Nat → Int64) (p1 : Int32) (sz : Nat) : Met l yL_power (wsw_ yL_power cL_power 4 (some .int) [(0, 9, 12, 32)]) ({ frames := 8, cells := 1, slots := 6, locals := 134 } : Room) (va_Pc [.ref x, .int p1, .ref ov] (cmP D ct sz [(x, .inr (10, [.ref w, .ref sp, .ref sv, .ref bu, .int 0, .int 0])), (w, .inr (9, [.int 0, .ref w_se, .ref w_cu, .ref w_pr, .int 0, .ref w_ch, .ref w_re, .ref w_lo])), (ov, .inl (ct 1, 1, .inr (.inl f)))])) (va_Qi (fun (r : Int32) (_ : Unit) => r = 1) (cmB D [(x, .inr (10, [.ref w, .ref sp, .ref sv, .ref bu, .int 0, .int 0])), (w, .inr (9, [.int 0, .ref w_se, .ref w_cu, .ref w_pr, .int 0, .ref w_ch, .ref w_re, .ref w_lo])), (ov, .inl (ct 1, 1, .inr (.inl f)))] sz (fun _ : Unit => [])) (va_A [(x, .inr (10, [.ref w, .ref sp, .ref sv, .ref bu, .int 0, .int 0])), (w, .inr (9, [.int 0, .ref w_se, .ref w_cu, .ref w_pr, .int 0, .ref w_ch, .ref w_re, .ref w_lo])), (ov, .inl (ct 1, 1, .inr (.inl f)))] sz)) 1 6 (va_A [(x, .inr (10, [.ref w, .ref sp, .ref sv, .ref bu, .int 0, .int 0])), (w, .inr (9, [.int 0, .ref w_se, .ref w_cu, .ref w_pr, .int 0, .ref w_ch, .ref w_re, .ref w_lo])), (ov, .inl (ct 1, 1, .inr (.inl f)))] sz) := by
  refine va_MetW (cc := cL_power) (maxL := 4) (ret := (some .int)) (hh := [(0, 9, 12, 32)]) (by decide) rfl ?_
  intro p e s m args below meth c s₁ B hml hv
  have hts0 := atoms_spec (ws := wsw_ yL_power cL_power 4 (some .int) [(0, 9, 12, 32)]) B.pre
  have hts : ∀ w ∈ cm_all, w.before args s = true := fun w h => hts0 w (List.mem_cons_of_mem _ h)
  obtain ⟨rfl, hsz, hP, hK, hD0, hX⟩ := hv
  have hx := B.exec
  have hb := B.bytes
  have hr := B.returns
  have htab := vx_table (x := yL_power) B (hts0 _ List.mem_cons_self)
  have hown : s.vm.findClass RL = some m.cls := findClass_of_methodNamed B.named
  have hlocks := B.notSynchronized
  subst hsz
  have hD := hD0.self (sz := s.heap.size)
  generalize hAe : va_A [(x, .inr (10, [.ref w, .ref sp, .ref sv, .ref bu, .int 0, .int 0])), (w, .inr (9, [.int 0, .ref w_se, .ref w_cu, .ref w_pr, .int 0, .ref w_ch, .ref w_re, .ref w_lo])), (ov, .inl (ct 1, 1, .inr (.inl f)))] s.heap.size = A at hD hX ⊢
  have hA : ∀ q : Nat, s.heap.size ≤ q → A q := fun q h => by rw [← hAe]; exact Or.inr h
  have hS : va_S A s.heap s.heap [] := va_S.rf
  have hl := lv_entry ([.ref x, .int p1, .ref ov]) (n := 4) (Nat.le_of_ble_eq_true rfl)
  rw [lg_entry_eq]
  generalize (lg_sl ([.ref x, .int p1, .ref ov]) ++ List.replicate (4 - (lg_sl ([.ref x, .int p1, .ref ov])).length) Slot.unset).toArray = ls at hl ⊢
  have hl : lv_has ls 4 [(0, .ref x), (1, .int p1), (2, .ref ov)] := hl
  refine lv_aload_n hx hb dL_power_0 rfl (lv_at hl 2 rfl) ?_
  refine lv_iconst (v := 0) hx hb dL_power_1 (by decide) ?_
  refine lv_aload_n hx hb dL_power_2 rfl (lv_at hl 0 rfl) ?_
  refine lv_iload_n hx hb dL_power_3 rfl (lv_at hl 1 rfl) ?_
  refine cm_xi (wr := [(ov, .inl (ct 1, 1, .inr (.inl f)))]) (vx_runV (As := [.int p1]) (rest := [.int 0, .ref ov]) ⟨hx, hb, hml, hown, hts⟩ (c_power_0 l hfl D ct x w sp sv bu w_se w_cu w_pr w_ch w_re w_lo p1 _) (cm_V 1 hts kc_X10_power ki_RX10 kl_RL_94 kv_X10_power kx_X10_power kd_X10_power ⟨Nat.le_of_ble_eq_true rfl, Nat.le_of_ble_eq_true rfl⟩) (cm_preV hP hK hD hS hA hX [0, 1] rfl rfl rfl (q0 := 0) (ci := 10) rfl rfl) rfl rfl hl.1 rfl (lv_room (Nat.le_of_ble_eq_true rfl)) dL_power_4 ⟨Nat.le_of_ble_eq_true rfl, Nat.le_of_ble_eq_true rfl⟩) hP hD hS hA [0, 1] [2] rfl rfl rfl (by decide) (fun E ce q9 u H locs hu hE hP hD hS hce hcv hcl => ?_) (fun r_1 u H locs hw_2 hP hD hS => ?_)
  · subst hE
    have hP : va_P D vwCl [(ov, .inl (ct 1, 1, .inr (.inl f))), (x, .inr (10, [.ref w, .ref sp, .ref sv, .ref bu, .int 0, .int 0])), (w, .inr (9, [.int 0, .ref w_se, .ref w_cu, .ref w_pr, .int 0, .ref w_ch, .ref w_re, .ref w_lo]))] H := hP
    have hD : va_D A [(ov, .inl (ct 1, 1, .inr (.inl f))), (x, .inr (10, [.ref w, .ref sp, .ref sv, .ref bu, .int 0, .int 0])), (w, .inr (9, [.int 0, .ref w_se, .ref w_cu, .ref w_pr, .int 0, .ref w_ch, .ref w_re, .ref w_lo]))] := hD
    refine vx_catch (name := "java/lang/IndexOutOfBoundsException") hown [] _ _ htab (fun z hz => absurd hz List.not_mem_nil) (by decide) (by decide) (hts _ kl_RL_32) (hts _ kcast_IOE) hce hcv hcl ?_
    refine W.eq (g2 := F0 m 12 ls [.ref q9]) rfl ?_
    refine lv_astore_n (lv' := [(3, .ref q9), (0, .ref x), (1, .int p1), (2, .ref ov)]) hx hb dL_power_12 rfl hl (by decide) rfl (fun ls hl => ?_)
    refine lv_iconst (v := 1) hx hb dL_power_13 (by decide) ?_
    have hP9 := hP.sub (ws' := []) [] rfl
    have hD9 := hD.sub (ws' := []) [] (by decide) rfl
    exact W.iret (v := 1) hx hb hr (fun t ht hW => ⟨⟨1, (), rfl, rfl, by rw [ht]; exact hP9, by rw [hAe]; exact hD9⟩, hS.F ht⟩) hS.2.2 dL_power_14
  · exact hw_2.elim
theorem dL_measuredRest_0 : decode cL_measuredRest 0 = .ok (.aload_n 2, 1) := by decide +kernel
theorem dL_measuredRest_1 : decode cL_measuredRest 1 = .ok (.iconst 0, 1) := by decide +kernel
theorem dL_measuredRest_2 : decode cL_measuredRest 2 = .ok (.aload_n 0, 1) := by decide +kernel
theorem dL_measuredRest_3 : decode cL_measuredRest 3 = .ok (.iload_n 1, 1) := by decide +kernel
theorem dL_measuredRest_4 : decode cL_measuredRest 4 = .ok (.invokevirtual 97, 3) := by decide +kernel
theorem dL_measuredRest_12 : decode cL_measuredRest 12 = .ok (.astore_n 3, 1) := by decide +kernel
theorem dL_measuredRest_13 : decode cL_measuredRest 13 = .ok (.iconst 1, 1) := by decide +kernel
theorem dL_measuredRest_14 : decode cL_measuredRest 14 = .ok (.ireturn, 1) := by decide +kernel
set_option maxRecDepth 100000 in
set_option maxHeartbeats 4000000 in
theorem l_measuredRest (l : Launch) (hfl : l.stackTraces = false) (D : va_G) (ct : Nat → ClassId) (x : Nat) (w : Nat) (sp : Nat) (sv : Nat) (bu : Nat) (w_se : Nat) (w_cu : Nat) (w_pr : Nat) (w_ch : Nat) (w_re : Nat) (w_lo : Nat) (ov : Nat) (f : Nat → Int64) (p1 : Int32) (sz : Nat) : Met l yL_measuredRest (wsw_ yL_measuredRest cL_measuredRest 4 (some .int) [(0, 9, 12, 32)]) ({ frames := 8, cells := 1, slots := 6, locals := 133 } : Room) (va_Pc [.ref x, .int p1, .ref ov] (cmP D ct sz [(x, .inr (10, [.ref w, .ref sp, .ref sv, .ref bu, .int 0, .int 0])), (w, .inr (9, [.int 0, .ref w_se, .ref w_cu, .ref w_pr, .int 0, .ref w_ch, .ref w_re, .ref w_lo])), (ov, .inl (ct 1, 1, .inr (.inl f)))])) (va_Qi (fun (r : Int32) (_ : Unit) => r = 1) (cmB D [(x, .inr (10, [.ref w, .ref sp, .ref sv, .ref bu, .int 0, .int 0])), (w, .inr (9, [.int 0, .ref w_se, .ref w_cu, .ref w_pr, .int 0, .ref w_ch, .ref w_re, .ref w_lo])), (ov, .inl (ct 1, 1, .inr (.inl f)))] sz (fun _ : Unit => [])) (va_A [(x, .inr (10, [.ref w, .ref sp, .ref sv, .ref bu, .int 0, .int 0])), (w, .inr (9, [.int 0, .ref w_se, .ref w_cu, .ref w_pr, .int 0, .ref w_ch, .ref w_re, .ref w_lo])), (ov, .inl (ct 1, 1, .inr (.inl f)))] sz)) 1 6 (va_A [(x, .inr (10, [.ref w, .ref sp, .ref sv, .ref bu, .int 0, .int 0])), (w, .inr (9, [.int 0, .ref w_se, .ref w_cu, .ref w_pr, .int 0, .ref w_ch, .ref w_re, .ref w_lo])), (ov, .inl (ct 1, 1, .inr (.inl f)))] sz) := by
  refine va_MetW (cc := cL_measuredRest) (maxL := 4) (ret := (some .int)) (hh := [(0, 9, 12, 32)]) (by decide) rfl ?_
  intro p e s m args below meth c s₁ B hml hv
  have hts0 := atoms_spec (ws := wsw_ yL_measuredRest cL_measuredRest 4 (some .int) [(0, 9, 12, 32)]) B.pre
  have hts : ∀ w ∈ cm_all, w.before args s = true := fun w h => hts0 w (List.mem_cons_of_mem _ h)
  obtain ⟨rfl, hsz, hP, hK, hD0, hX⟩ := hv
  have hx := B.exec
  have hb := B.bytes
  have hr := B.returns
  have htab := vx_table (x := yL_measuredRest) B (hts0 _ List.mem_cons_self)
  have hown : s.vm.findClass RL = some m.cls := findClass_of_methodNamed B.named
  have hlocks := B.notSynchronized
  subst hsz
  have hD := hD0.self (sz := s.heap.size)
  generalize hAe : va_A [(x, .inr (10, [.ref w, .ref sp, .ref sv, .ref bu, .int 0, .int 0])), (w, .inr (9, [.int 0, .ref w_se, .ref w_cu, .ref w_pr, .int 0, .ref w_ch, .ref w_re, .ref w_lo])), (ov, .inl (ct 1, 1, .inr (.inl f)))] s.heap.size = A at hD hX ⊢
  have hA : ∀ q : Nat, s.heap.size ≤ q → A q := fun q h => by rw [← hAe]; exact Or.inr h
  have hS : va_S A s.heap s.heap [] := va_S.rf
  have hl := lv_entry ([.ref x, .int p1, .ref ov]) (n := 4) (Nat.le_of_ble_eq_true rfl)
  rw [lg_entry_eq]
  generalize (lg_sl ([.ref x, .int p1, .ref ov]) ++ List.replicate (4 - (lg_sl ([.ref x, .int p1, .ref ov])).length) Slot.unset).toArray = ls at hl ⊢
  have hl : lv_has ls 4 [(0, .ref x), (1, .int p1), (2, .ref ov)] := hl
  refine lv_aload_n hx hb dL_measuredRest_0 rfl (lv_at hl 2 rfl) ?_
  refine lv_iconst (v := 0) hx hb dL_measuredRest_1 (by decide) ?_
  refine lv_aload_n hx hb dL_measuredRest_2 rfl (lv_at hl 0 rfl) ?_
  refine lv_iload_n hx hb dL_measuredRest_3 rfl (lv_at hl 1 rfl) ?_
  refine cm_xi (wr := [(ov, .inl (ct 1, 1, .inr (.inl f)))]) (vx_runV (As := [.int p1]) (rest := [.int 0, .ref ov]) ⟨hx, hb, hml, hown, hts⟩ (c_measuredRest_0 l hfl D ct x w sp sv bu w_se w_cu w_pr w_ch w_re w_lo p1 _) (cm_V 1 hts kc_X10_measuredRest ki_RX10 kl_RL_97 kv_X10_measuredRest kx_X10_measuredRest kd_X10_measuredRest ⟨Nat.le_of_ble_eq_true rfl, Nat.le_of_ble_eq_true rfl⟩) (cm_preV hP hK hD hS hA hX [0, 1] rfl rfl rfl (q0 := 0) (ci := 10) rfl rfl) rfl rfl hl.1 rfl (lv_room (Nat.le_of_ble_eq_true rfl)) dL_measuredRest_4 ⟨Nat.le_of_ble_eq_true rfl, Nat.le_of_ble_eq_true rfl⟩) hP hD hS hA [0, 1] [2] rfl rfl rfl (by decide) (fun E ce q9 u H locs hu hE hP hD hS hce hcv hcl => ?_) (fun r_1 u H locs hw_2 hP hD hS => ?_)
  · subst hE
    have hP : va_P D vwCl [(ov, .inl (ct 1, 1, .inr (.inl f))), (x, .inr (10, [.ref w, .ref sp, .ref sv, .ref bu, .int 0, .int 0])), (w, .inr (9, [.int 0, .ref w_se, .ref w_cu, .ref w_pr, .int 0, .ref w_ch, .ref w_re, .ref w_lo]))] H := hP
    have hD : va_D A [(ov, .inl (ct 1, 1, .inr (.inl f))), (x, .inr (10, [.ref w, .ref sp, .ref sv, .ref bu, .int 0, .int 0])), (w, .inr (9, [.int 0, .ref w_se, .ref w_cu, .ref w_pr, .int 0, .ref w_ch, .ref w_re, .ref w_lo]))] := hD
    refine vx_catch (name := "java/lang/IndexOutOfBoundsException") hown [] _ _ htab (fun z hz => absurd hz List.not_mem_nil) (by decide) (by decide) (hts _ kl_RL_32) (hts _ kcast_IOE) hce hcv hcl ?_
    refine W.eq (g2 := F0 m 12 ls [.ref q9]) rfl ?_
    refine lv_astore_n (lv' := [(3, .ref q9), (0, .ref x), (1, .int p1), (2, .ref ov)]) hx hb dL_measuredRest_12 rfl hl (by decide) rfl (fun ls hl => ?_)
    refine lv_iconst (v := 1) hx hb dL_measuredRest_13 (by decide) ?_
    have hP9 := hP.sub (ws' := []) [] rfl
    have hD9 := hD.sub (ws' := []) [] (by decide) rfl
    exact W.iret (v := 1) hx hb hr (fun t ht hW => ⟨⟨1, (), rfl, rfl, by rw [ht]; exact hP9, by rw [hAe]; exact hD9⟩, hS.F ht⟩) hS.2.2 dL_measuredRest_14
  · exact hw_2.elim
theorem dL_capacityByRule_0 : decode cL_capacityByRule 0 = .ok (.aload_n 2, 1) := by decide +kernel
theorem dL_capacityByRule_1 : decode cL_capacityByRule 1 = .ok (.iconst 0, 1) := by decide +kernel
theorem dL_capacityByRule_2 : decode cL_capacityByRule 2 = .ok (.aload_n 0, 1) := by decide +kernel
theorem dL_capacityByRule_3 : decode cL_capacityByRule 3 = .ok (.iload_n 1, 1) := by decide +kernel
theorem dL_capacityByRule_4 : decode cL_capacityByRule 4 = .ok (.invokevirtual 100, 3) := by decide +kernel
theorem dL_capacityByRule_12 : decode cL_capacityByRule 12 = .ok (.astore_n 3, 1) := by decide +kernel
theorem dL_capacityByRule_13 : decode cL_capacityByRule 13 = .ok (.iconst 1, 1) := by decide +kernel
theorem dL_capacityByRule_14 : decode cL_capacityByRule 14 = .ok (.ireturn, 1) := by decide +kernel
set_option maxRecDepth 100000 in
set_option maxHeartbeats 4000000 in
theorem l_capacityByRule (l : Launch) (hfl : l.stackTraces = false) (D : va_G) (ct : Nat → ClassId) (x : Nat) (w : Nat) (sp : Nat) (sv : Nat) (bu : Nat) (w_se : Nat) (w_cu : Nat) (w_pr : Nat) (w_ch : Nat) (w_re : Nat) (w_lo : Nat) (ov : Nat) (f : Nat → Int64) (p1 : Int32) (sz : Nat) : Met l yL_capacityByRule (wsw_ yL_capacityByRule cL_capacityByRule 4 (some .int) [(0, 9, 12, 32)]) ({ frames := 8, cells := 1, slots := 6, locals := 133 } : Room) (va_Pc [.ref x, .int p1, .ref ov] (cmP D ct sz [(x, .inr (10, [.ref w, .ref sp, .ref sv, .ref bu, .int 0, .int 0])), (w, .inr (9, [.int 0, .ref w_se, .ref w_cu, .ref w_pr, .int 0, .ref w_ch, .ref w_re, .ref w_lo])), (ov, .inl (ct 1, 1, .inr (.inl f)))])) (va_Qi (fun (r : Int32) (_ : Unit) => r = 1) (cmB D [(x, .inr (10, [.ref w, .ref sp, .ref sv, .ref bu, .int 0, .int 0])), (w, .inr (9, [.int 0, .ref w_se, .ref w_cu, .ref w_pr, .int 0, .ref w_ch, .ref w_re, .ref w_lo])), (ov, .inl (ct 1, 1, .inr (.inl f)))] sz (fun _ : Unit => [])) (va_A [(x, .inr (10, [.ref w, .ref sp, .ref sv, .ref bu, .int 0, .int 0])), (w, .inr (9, [.int 0, .ref w_se, .ref w_cu, .ref w_pr, .int 0, .ref w_ch, .ref w_re, .ref w_lo])), (ov, .inl (ct 1, 1, .inr (.inl f)))] sz)) 1 6 (va_A [(x, .inr (10, [.ref w, .ref sp, .ref sv, .ref bu, .int 0, .int 0])), (w, .inr (9, [.int 0, .ref w_se, .ref w_cu, .ref w_pr, .int 0, .ref w_ch, .ref w_re, .ref w_lo])), (ov, .inl (ct 1, 1, .inr (.inl f)))] sz) := by
  refine va_MetW (cc := cL_capacityByRule) (maxL := 4) (ret := (some .int)) (hh := [(0, 9, 12, 32)]) (by decide) rfl ?_
  intro p e s m args below meth c s₁ B hml hv
  have hts0 := atoms_spec (ws := wsw_ yL_capacityByRule cL_capacityByRule 4 (some .int) [(0, 9, 12, 32)]) B.pre
  have hts : ∀ w ∈ cm_all, w.before args s = true := fun w h => hts0 w (List.mem_cons_of_mem _ h)
  obtain ⟨rfl, hsz, hP, hK, hD0, hX⟩ := hv
  have hx := B.exec
  have hb := B.bytes
  have hr := B.returns
  have htab := vx_table (x := yL_capacityByRule) B (hts0 _ List.mem_cons_self)
  have hown : s.vm.findClass RL = some m.cls := findClass_of_methodNamed B.named
  have hlocks := B.notSynchronized
  subst hsz
  have hD := hD0.self (sz := s.heap.size)
  generalize hAe : va_A [(x, .inr (10, [.ref w, .ref sp, .ref sv, .ref bu, .int 0, .int 0])), (w, .inr (9, [.int 0, .ref w_se, .ref w_cu, .ref w_pr, .int 0, .ref w_ch, .ref w_re, .ref w_lo])), (ov, .inl (ct 1, 1, .inr (.inl f)))] s.heap.size = A at hD hX ⊢
  have hA : ∀ q : Nat, s.heap.size ≤ q → A q := fun q h => by rw [← hAe]; exact Or.inr h
  have hS : va_S A s.heap s.heap [] := va_S.rf
  have hl := lv_entry ([.ref x, .int p1, .ref ov]) (n := 4) (Nat.le_of_ble_eq_true rfl)
  rw [lg_entry_eq]
  generalize (lg_sl ([.ref x, .int p1, .ref ov]) ++ List.replicate (4 - (lg_sl ([.ref x, .int p1, .ref ov])).length) Slot.unset).toArray = ls at hl ⊢
  have hl : lv_has ls 4 [(0, .ref x), (1, .int p1), (2, .ref ov)] := hl
  refine lv_aload_n hx hb dL_capacityByRule_0 rfl (lv_at hl 2 rfl) ?_
  refine lv_iconst (v := 0) hx hb dL_capacityByRule_1 (by decide) ?_
  refine lv_aload_n hx hb dL_capacityByRule_2 rfl (lv_at hl 0 rfl) ?_
  refine lv_iload_n hx hb dL_capacityByRule_3 rfl (lv_at hl 1 rfl) ?_
  refine cm_xi (wr := [(ov, .inl (ct 1, 1, .inr (.inl f)))]) (vx_runV (As := [.int p1]) (rest := [.int 0, .ref ov]) ⟨hx, hb, hml, hown, hts⟩ (c_capacityByRule_0 l hfl D ct x w sp sv bu w_se w_cu w_pr w_ch w_re w_lo p1 _) (cm_V 1 hts kc_X10_capacityByRule ki_RX10 kl_RL_100 kv_X10_capacityByRule kx_X10_capacityByRule kd_X10_capacityByRule ⟨Nat.le_of_ble_eq_true rfl, Nat.le_of_ble_eq_true rfl⟩) (cm_preV hP hK hD hS hA hX [0, 1] rfl rfl rfl (q0 := 0) (ci := 10) rfl rfl) rfl rfl hl.1 rfl (lv_room (Nat.le_of_ble_eq_true rfl)) dL_capacityByRule_4 ⟨Nat.le_of_ble_eq_true rfl, Nat.le_of_ble_eq_true rfl⟩) hP hD hS hA [0, 1] [2] rfl rfl rfl (by decide) (fun E ce q9 u H locs hu hE hP hD hS hce hcv hcl => ?_) (fun r_1 u H locs hw_2 hP hD hS => ?_)
  · subst hE
    have hP : va_P D vwCl [(ov, .inl (ct 1, 1, .inr (.inl f))), (x, .inr (10, [.ref w, .ref sp, .ref sv, .ref bu, .int 0, .int 0])), (w, .inr (9, [.int 0, .ref w_se, .ref w_cu, .ref w_pr, .int 0, .ref w_ch, .ref w_re, .ref w_lo]))] H := hP
    have hD : va_D A [(ov, .inl (ct 1, 1, .inr (.inl f))), (x, .inr (10, [.ref w, .ref sp, .ref sv, .ref bu, .int 0, .int 0])), (w, .inr (9, [.int 0, .ref w_se, .ref w_cu, .ref w_pr, .int 0, .ref w_ch, .ref w_re, .ref w_lo]))] := hD
    refine vx_catch (name := "java/lang/IndexOutOfBoundsException") hown [] _ _ htab (fun z hz => absurd hz List.not_mem_nil) (by decide) (by decide) (hts _ kl_RL_32) (hts _ kcast_IOE) hce hcv hcl ?_
    refine W.eq (g2 := F0 m 12 ls [.ref q9]) rfl ?_
    refine lv_astore_n (lv' := [(3, .ref q9), (0, .ref x), (1, .int p1), (2, .ref ov)]) hx hb dL_capacityByRule_12 rfl hl (by decide) rfl (fun ls hl => ?_)
    refine lv_iconst (v := 1) hx hb dL_capacityByRule_13 (by decide) ?_
    have hP9 := hP.sub (ws' := []) [] rfl
    have hD9 := hD.sub (ws' := []) [] (by decide) rfl
    exact W.iret (v := 1) hx hb hr (fun t ht hW => ⟨⟨1, (), rfl, rfl, by rw [ht]; exact hP9, by rw [hAe]; exact hD9⟩, hS.F ht⟩) hS.2.2 dL_capacityByRule_14
  · exact hw_2.elim
theorem dL_internalResistance_0 : decode cL_internalResistance 0 = .ok (.aload_n 2, 1) := by decide +kernel
theorem dL_internalResistance_1 : decode cL_internalResistance 1 = .ok (.iconst 0, 1) := by decide +kernel
theorem dL_internalResistance_2 : decode cL_internalResistance 2 = .ok (.aload_n 0, 1) := by decide +kernel
theorem dL_internalResistance_3 : decode cL_internalResistance 3 = .ok (.iload_n 1, 1) := by decide +kernel
theorem dL_internalResistance_4 : decode cL_internalResistance 4 = .ok (.invokevirtual 103, 3) := by decide +kernel
theorem dL_internalResistance_12 : decode cL_internalResistance 12 = .ok (.astore_n 3, 1) := by decide +kernel
theorem dL_internalResistance_13 : decode cL_internalResistance 13 = .ok (.iconst 1, 1) := by decide +kernel
theorem dL_internalResistance_14 : decode cL_internalResistance 14 = .ok (.ireturn, 1) := by decide +kernel
set_option maxRecDepth 100000 in
set_option maxHeartbeats 4000000 in
theorem l_internalResistance (l : Launch) (hfl : l.stackTraces = false) (D : va_G) (ct : Nat → ClassId) (x : Nat) (w : Nat) (sp : Nat) (sv : Nat) (bu : Nat) (w_se : Nat) (w_cu : Nat) (w_pr : Nat) (w_ch : Nat) (w_re : Nat) (w_lo : Nat) (ov : Nat) (f : Nat → Int64) (p1 : Int32) (sz : Nat) : Met l yL_internalResistance (wsw_ yL_internalResistance cL_internalResistance 4 (some .int) [(0, 9, 12, 32)]) ({ frames := 8, cells := 1, slots := 6, locals := 133 } : Room) (va_Pc [.ref x, .int p1, .ref ov] (cmP D ct sz [(x, .inr (10, [.ref w, .ref sp, .ref sv, .ref bu, .int 0, .int 0])), (w, .inr (9, [.int 0, .ref w_se, .ref w_cu, .ref w_pr, .int 0, .ref w_ch, .ref w_re, .ref w_lo])), (ov, .inl (ct 1, 1, .inr (.inl f)))])) (va_Qi (fun (r : Int32) (_ : Unit) => r = 1) (cmB D [(x, .inr (10, [.ref w, .ref sp, .ref sv, .ref bu, .int 0, .int 0])), (w, .inr (9, [.int 0, .ref w_se, .ref w_cu, .ref w_pr, .int 0, .ref w_ch, .ref w_re, .ref w_lo])), (ov, .inl (ct 1, 1, .inr (.inl f)))] sz (fun _ : Unit => [])) (va_A [(x, .inr (10, [.ref w, .ref sp, .ref sv, .ref bu, .int 0, .int 0])), (w, .inr (9, [.int 0, .ref w_se, .ref w_cu, .ref w_pr, .int 0, .ref w_ch, .ref w_re, .ref w_lo])), (ov, .inl (ct 1, 1, .inr (.inl f)))] sz)) 1 6 (va_A [(x, .inr (10, [.ref w, .ref sp, .ref sv, .ref bu, .int 0, .int 0])), (w, .inr (9, [.int 0, .ref w_se, .ref w_cu, .ref w_pr, .int 0, .ref w_ch, .ref w_re, .ref w_lo])), (ov, .inl (ct 1, 1, .inr (.inl f)))] sz) := by
  refine va_MetW (cc := cL_internalResistance) (maxL := 4) (ret := (some .int)) (hh := [(0, 9, 12, 32)]) (by decide) rfl ?_
  intro p e s m args below meth c s₁ B hml hv
  have hts0 := atoms_spec (ws := wsw_ yL_internalResistance cL_internalResistance 4 (some .int) [(0, 9, 12, 32)]) B.pre
  have hts : ∀ w ∈ cm_all, w.before args s = true := fun w h => hts0 w (List.mem_cons_of_mem _ h)
  obtain ⟨rfl, hsz, hP, hK, hD0, hX⟩ := hv
  have hx := B.exec
  have hb := B.bytes
  have hr := B.returns
  have htab := vx_table (x := yL_internalResistance) B (hts0 _ List.mem_cons_self)
  have hown : s.vm.findClass RL = some m.cls := findClass_of_methodNamed B.named
  have hlocks := B.notSynchronized
  subst hsz
  have hD := hD0.self (sz := s.heap.size)
  generalize hAe : va_A [(x, .inr (10, [.ref w, .ref sp, .ref sv, .ref bu, .int 0, .int 0])), (w, .inr (9, [.int 0, .ref w_se, .ref w_cu, .ref w_pr, .int 0, .ref w_ch, .ref w_re, .ref w_lo])), (ov, .inl (ct 1, 1, .inr (.inl f)))] s.heap.size = A at hD hX ⊢
  have hA : ∀ q : Nat, s.heap.size ≤ q → A q := fun q h => by rw [← hAe]; exact Or.inr h
  have hS : va_S A s.heap s.heap [] := va_S.rf
  have hl := lv_entry ([.ref x, .int p1, .ref ov]) (n := 4) (Nat.le_of_ble_eq_true rfl)
  rw [lg_entry_eq]
  generalize (lg_sl ([.ref x, .int p1, .ref ov]) ++ List.replicate (4 - (lg_sl ([.ref x, .int p1, .ref ov])).length) Slot.unset).toArray = ls at hl ⊢
  have hl : lv_has ls 4 [(0, .ref x), (1, .int p1), (2, .ref ov)] := hl
  refine lv_aload_n hx hb dL_internalResistance_0 rfl (lv_at hl 2 rfl) ?_
  refine lv_iconst (v := 0) hx hb dL_internalResistance_1 (by decide) ?_
  refine lv_aload_n hx hb dL_internalResistance_2 rfl (lv_at hl 0 rfl) ?_
  refine lv_iload_n hx hb dL_internalResistance_3 rfl (lv_at hl 1 rfl) ?_
  refine cm_xi (wr := [(ov, .inl (ct 1, 1, .inr (.inl f)))]) (vx_runV (As := [.int p1]) (rest := [.int 0, .ref ov]) ⟨hx, hb, hml, hown, hts⟩ (c_internalResistance_0 l hfl D ct x w sp sv bu w_se w_cu w_pr w_ch w_re w_lo p1 _) (cm_V 1 hts kc_X10_internalResistance ki_RX10 kl_RL_103 kv_X10_internalResistance kx_X10_internalResistance kd_X10_internalResistance ⟨Nat.le_of_ble_eq_true rfl, Nat.le_of_ble_eq_true rfl⟩) (cm_preV hP hK hD hS hA hX [0, 1] rfl rfl rfl (q0 := 0) (ci := 10) rfl rfl) rfl rfl hl.1 rfl (lv_room (Nat.le_of_ble_eq_true rfl)) dL_internalResistance_4 ⟨Nat.le_of_ble_eq_true rfl, Nat.le_of_ble_eq_true rfl⟩) hP hD hS hA [0, 1] [2] rfl rfl rfl (by decide) (fun E ce q9 u H locs hu hE hP hD hS hce hcv hcl => ?_) (fun r_1 u H locs hw_2 hP hD hS => ?_)
  · subst hE
    have hP : va_P D vwCl [(ov, .inl (ct 1, 1, .inr (.inl f))), (x, .inr (10, [.ref w, .ref sp, .ref sv, .ref bu, .int 0, .int 0])), (w, .inr (9, [.int 0, .ref w_se, .ref w_cu, .ref w_pr, .int 0, .ref w_ch, .ref w_re, .ref w_lo]))] H := hP
    have hD : va_D A [(ov, .inl (ct 1, 1, .inr (.inl f))), (x, .inr (10, [.ref w, .ref sp, .ref sv, .ref bu, .int 0, .int 0])), (w, .inr (9, [.int 0, .ref w_se, .ref w_cu, .ref w_pr, .int 0, .ref w_ch, .ref w_re, .ref w_lo]))] := hD
    refine vx_catch (name := "java/lang/IndexOutOfBoundsException") hown [] _ _ htab (fun z hz => absurd hz List.not_mem_nil) (by decide) (by decide) (hts _ kl_RL_32) (hts _ kcast_IOE) hce hcv hcl ?_
    refine W.eq (g2 := F0 m 12 ls [.ref q9]) rfl ?_
    refine lv_astore_n (lv' := [(3, .ref q9), (0, .ref x), (1, .int p1), (2, .ref ov)]) hx hb dL_internalResistance_12 rfl hl (by decide) rfl (fun ls hl => ?_)
    refine lv_iconst (v := 1) hx hb dL_internalResistance_13 (by decide) ?_
    have hP9 := hP.sub (ws' := []) [] rfl
    have hD9 := hD.sub (ws' := []) [] (by decide) rfl
    exact W.iret (v := 1) hx hb hr (fun t ht hW => ⟨⟨1, (), rfl, rfl, by rw [ht]; exact hP9, by rw [hAe]; exact hD9⟩, hS.F ht⟩) hS.2.2 dL_internalResistance_14
  · exact hw_2.elim
theorem dL_ticksIn_0 : decode cL_ticksIn 0 = .ok (.aload_n 3, 1) := by decide +kernel
theorem dL_ticksIn_1 : decode cL_ticksIn 1 = .ok (.iconst 0, 1) := by decide +kernel
theorem dL_ticksIn_2 : decode cL_ticksIn 2 = .ok (.aload_n 0, 1) := by decide +kernel
theorem dL_ticksIn_3 : decode cL_ticksIn 3 = .ok (.iload_n 1, 1) := by decide +kernel
theorem dL_ticksIn_4 : decode cL_ticksIn 4 = .ok (.iload_n 2, 1) := by decide +kernel
theorem dL_ticksIn_5 : decode cL_ticksIn 5 = .ok (.invokevirtual 106, 3) := by decide +kernel
theorem dL_ticksIn_13 : decode cL_ticksIn 13 = .ok (.astore 4, 2) := by decide +kernel
theorem dL_ticksIn_15 : decode cL_ticksIn 15 = .ok (.iconst 1, 1) := by decide +kernel
theorem dL_ticksIn_16 : decode cL_ticksIn 16 = .ok (.ireturn, 1) := by decide +kernel
set_option maxRecDepth 100000 in
set_option maxHeartbeats 4000000 in
theorem l_ticksIn (l : Launch) (hfl : l.stackTraces = false) (D : va_G) (ct : Nat → ClassId) (x : Nat) (w : Nat) (sp : Nat) (sv : Nat) (bu : Nat) (w_se : Nat) (w_cu : Nat) (w_pr : Nat) (w_ch : Nat) (w_re : Nat) (w_lo : Nat) (ov : Nat) (f : Nat → Int64) (p1 : Int32) (p2 : Int32) (sz : Nat) : Met l yL_ticksIn (wsw_ yL_ticksIn cL_ticksIn 5 (some .int) [(0, 10, 13, 32), (0, 10, 17, 13)]) ({ frames := 8, cells := 1, slots := 6, locals := 135 } : Room) (va_Pc [.ref x, .int p1, .int p2, .ref ov] (cmP D ct sz [(x, .inr (10, [.ref w, .ref sp, .ref sv, .ref bu, .int 0, .int 0])), (w, .inr (9, [.int 0, .ref w_se, .ref w_cu, .ref w_pr, .int 0, .ref w_ch, .ref w_re, .ref w_lo])), (ov, .inl (ct 1, 1, .inr (.inl f)))])) (va_Qi (fun (r : Int32) (_ : Unit) => r = 1) (cmB D [(x, .inr (10, [.ref w, .ref sp, .ref sv, .ref bu, .int 0, .int 0])), (w, .inr (9, [.int 0, .ref w_se, .ref w_cu, .ref w_pr, .int 0, .ref w_ch, .ref w_re, .ref w_lo])), (ov, .inl (ct 1, 1, .inr (.inl f)))] sz (fun _ : Unit => [])) (va_A [(x, .inr (10, [.ref w, .ref sp, .ref sv, .ref bu, .int 0, .int 0])), (w, .inr (9, [.int 0, .ref w_se, .ref w_cu, .ref w_pr, .int 0, .ref w_ch, .ref w_re, .ref w_lo])), (ov, .inl (ct 1, 1, .inr (.inl f)))] sz)) 1 6 (va_A [(x, .inr (10, [.ref w, .ref sp, .ref sv, .ref bu, .int 0, .int 0])), (w, .inr (9, [.int 0, .ref w_se, .ref w_cu, .ref w_pr, .int 0, .ref w_ch, .ref w_re, .ref w_lo])), (ov, .inl (ct 1, 1, .inr (.inl f)))] sz) := by
  refine va_MetW (cc := cL_ticksIn) (maxL := 5) (ret := (some .int)) (hh := [(0, 10, 13, 32), (0, 10, 17, 13)]) (by decide) rfl ?_
  intro p e s m args below meth c s₁ B hml hv
  have hts0 := atoms_spec (ws := wsw_ yL_ticksIn cL_ticksIn 5 (some .int) [(0, 10, 13, 32), (0, 10, 17, 13)]) B.pre
  have hts : ∀ w ∈ cm_all, w.before args s = true := fun w h => hts0 w (List.mem_cons_of_mem _ h)
  obtain ⟨rfl, hsz, hP, hK, hD0, hX⟩ := hv
  have hx := B.exec
  have hb := B.bytes
  have hr := B.returns
  have htab := vx_table (x := yL_ticksIn) B (hts0 _ List.mem_cons_self)
  have hown : s.vm.findClass RL = some m.cls := findClass_of_methodNamed B.named
  have hlocks := B.notSynchronized
  subst hsz
  have hD := hD0.self (sz := s.heap.size)
  generalize hAe : va_A [(x, .inr (10, [.ref w, .ref sp, .ref sv, .ref bu, .int 0, .int 0])), (w, .inr (9, [.int 0, .ref w_se, .ref w_cu, .ref w_pr, .int 0, .ref w_ch, .ref w_re, .ref w_lo])), (ov, .inl (ct 1, 1, .inr (.inl f)))] s.heap.size = A at hD hX ⊢
  have hA : ∀ q : Nat, s.heap.size ≤ q → A q := fun q h => by rw [← hAe]; exact Or.inr h
  have hS : va_S A s.heap s.heap [] := va_S.rf
  have hl := lv_entry ([.ref x, .int p1, .int p2, .ref ov]) (n := 5) (Nat.le_of_ble_eq_true rfl)
  rw [lg_entry_eq]
  generalize (lg_sl ([.ref x, .int p1, .int p2, .ref ov]) ++ List.replicate (5 - (lg_sl ([.ref x, .int p1, .int p2, .ref ov])).length) Slot.unset).toArray = ls at hl ⊢
  have hl : lv_has ls 5 [(0, .ref x), (1, .int p1), (2, .int p2), (3, .ref ov)] := hl
  refine lv_aload_n hx hb dL_ticksIn_0 rfl (lv_at hl 3 rfl) ?_
  refine lv_iconst (v := 0) hx hb dL_ticksIn_1 (by decide) ?_
  refine lv_aload_n hx hb dL_ticksIn_2 rfl (lv_at hl 0 rfl) ?_
  refine lv_iload_n hx hb dL_ticksIn_3 rfl (lv_at hl 1 rfl) ?_
  refine lv_iload_n hx hb dL_ticksIn_4 rfl (lv_at hl 2 rfl) ?_
  refine cm_xi (wr := [(ov, .inl (ct 1, 1, .inr (.inl f)))]) (vx_runV (As := [.int p1, .int p2]) (rest := [.int 0, .ref ov]) ⟨hx, hb, hml, hown, hts⟩ (c_ticksIn_0 l hfl D ct x w sp sv bu w_se w_cu w_pr w_ch w_re w_lo p1 p2 _) (cm_V 2 hts kc_X10_ticksIn ki_RX10 kl_RL_106 kv_X10_ticksIn kx_X10_ticksIn kd_X10_ticksIn ⟨Nat.le_of_ble_eq_true rfl, Nat.le_of_ble_eq_true rfl⟩) (cm_preV hP hK hD hS hA hX [0, 1] rfl rfl rfl (q0 := 0) (ci := 10) rfl rfl) rfl rfl hl.1 rfl (lv_room (Nat.le_of_ble_eq_true rfl)) dL_ticksIn_5 ⟨Nat.le_of_ble_eq_true rfl, Nat.le_of_ble_eq_true rfl⟩) hP hD hS hA [0, 1] [2] rfl rfl rfl (by decide) (fun E ce q9 u H locs hu hE hP hD hS hce hcv hcl => ?_) (fun r_1 u H locs hw_2 hP hD hS => ?_)
  · subst hE
    have hP : va_P D vwCl [(ov, .inl (ct 1, 1, .inr (.inl f))), (x, .inr (10, [.ref w, .ref sp, .ref sv, .ref bu, .int 0, .int 0])), (w, .inr (9, [.int 0, .ref w_se, .ref w_cu, .ref w_pr, .int 0, .ref w_ch, .ref w_re, .ref w_lo]))] H := hP
    have hD : va_D A [(ov, .inl (ct 1, 1, .inr (.inl f))), (x, .inr (10, [.ref w, .ref sp, .ref sv, .ref bu, .int 0, .int 0])), (w, .inr (9, [.int 0, .ref w_se, .ref w_cu, .ref w_pr, .int 0, .ref w_ch, .ref w_re, .ref w_lo]))] := hD
    refine vx_catch (name := "java/lang/IndexOutOfBoundsException") hown [] _ _ htab (fun z hz => absurd hz List.not_mem_nil) (by decide) (by decide) (hts _ kl_RL_32) (hts _ kcast_IOE) hce hcv hcl ?_
    refine W.eq (g2 := F0 m 13 ls [.ref q9]) rfl ?_
    refine lv_astore (lv' := [(4, .ref q9), (0, .ref x), (1, .int p1), (2, .int p2), (3, .ref ov)]) hx hb dL_ticksIn_13 hl (by decide) rfl (fun ls hl => ?_)
    refine lv_iconst (v := 1) hx hb dL_ticksIn_15 (by decide) ?_
    have hP9 := hP.sub (ws' := []) [] rfl
    have hD9 := hD.sub (ws' := []) [] (by decide) rfl
    exact W.iret (v := 1) hx hb hr (fun t ht hW => ⟨⟨1, (), rfl, rfl, by rw [ht]; exact hP9, by rw [hAe]; exact hD9⟩, hS.F ht⟩) hS.2.2 dL_ticksIn_16
  · exact hw_2.elim
theorem dL_warnings_0 : decode cL_warnings 0 = .ok (.aload_n 2, 1) := by decide +kernel
theorem dL_warnings_1 : decode cL_warnings 1 = .ok (.iconst 0, 1) := by decide +kernel
theorem dL_warnings_2 : decode cL_warnings 2 = .ok (.aload_n 0, 1) := by decide +kernel
theorem dL_warnings_3 : decode cL_warnings 3 = .ok (.iload_n 1, 1) := by decide +kernel
theorem dL_warnings_4 : decode cL_warnings 4 = .ok (.invokevirtual 109, 3) := by decide +kernel
theorem dL_warnings_12 : decode cL_warnings 12 = .ok (.astore_n 3, 1) := by decide +kernel
theorem dL_warnings_13 : decode cL_warnings 13 = .ok (.iconst 1, 1) := by decide +kernel
theorem dL_warnings_14 : decode cL_warnings 14 = .ok (.ireturn, 1) := by decide +kernel
set_option maxRecDepth 100000 in
set_option maxHeartbeats 4000000 in
theorem l_warnings (l : Launch) (hfl : l.stackTraces = false) (D : va_G) (ct : Nat → ClassId) (x : Nat) (w : Nat) (sp : Nat) (sv : Nat) (bu : Nat) (w_se : Nat) (w_cu : Nat) (w_pr : Nat) (w_ch : Nat) (w_re : Nat) (w_lo : Nat) (ov : Nat) (f : Nat → Int64) (p1 : Int32) (sz : Nat) : Met l yL_warnings (wsw_ yL_warnings cL_warnings 4 (some .int) [(0, 9, 12, 32)]) ({ frames := 8, cells := 1, slots := 6, locals := 133 } : Room) (va_Pc [.ref x, .int p1, .ref ov] (cmP D ct sz [(x, .inr (10, [.ref w, .ref sp, .ref sv, .ref bu, .int 0, .int 0])), (w, .inr (9, [.int 0, .ref w_se, .ref w_cu, .ref w_pr, .int 0, .ref w_ch, .ref w_re, .ref w_lo])), (ov, .inl (ct 1, 1, .inr (.inl f)))])) (va_Qi (fun (r : Int32) (_ : Unit) => r = 1) (cmB D [(x, .inr (10, [.ref w, .ref sp, .ref sv, .ref bu, .int 0, .int 0])), (w, .inr (9, [.int 0, .ref w_se, .ref w_cu, .ref w_pr, .int 0, .ref w_ch, .ref w_re, .ref w_lo])), (ov, .inl (ct 1, 1, .inr (.inl f)))] sz (fun _ : Unit => [])) (va_A [(x, .inr (10, [.ref w, .ref sp, .ref sv, .ref bu, .int 0, .int 0])), (w, .inr (9, [.int 0, .ref w_se, .ref w_cu, .ref w_pr, .int 0, .ref w_ch, .ref w_re, .ref w_lo])), (ov, .inl (ct 1, 1, .inr (.inl f)))] sz)) 1 6 (va_A [(x, .inr (10, [.ref w, .ref sp, .ref sv, .ref bu, .int 0, .int 0])), (w, .inr (9, [.int 0, .ref w_se, .ref w_cu, .ref w_pr, .int 0, .ref w_ch, .ref w_re, .ref w_lo])), (ov, .inl (ct 1, 1, .inr (.inl f)))] sz) := by
  refine va_MetW (cc := cL_warnings) (maxL := 4) (ret := (some .int)) (hh := [(0, 9, 12, 32)]) (by decide) rfl ?_
  intro p e s m args below meth c s₁ B hml hv
  have hts0 := atoms_spec (ws := wsw_ yL_warnings cL_warnings 4 (some .int) [(0, 9, 12, 32)]) B.pre
  have hts : ∀ w ∈ cm_all, w.before args s = true := fun w h => hts0 w (List.mem_cons_of_mem _ h)
  obtain ⟨rfl, hsz, hP, hK, hD0, hX⟩ := hv
  have hx := B.exec
  have hb := B.bytes
  have hr := B.returns
  have htab := vx_table (x := yL_warnings) B (hts0 _ List.mem_cons_self)
  have hown : s.vm.findClass RL = some m.cls := findClass_of_methodNamed B.named
  have hlocks := B.notSynchronized
  subst hsz
  have hD := hD0.self (sz := s.heap.size)
  generalize hAe : va_A [(x, .inr (10, [.ref w, .ref sp, .ref sv, .ref bu, .int 0, .int 0])), (w, .inr (9, [.int 0, .ref w_se, .ref w_cu, .ref w_pr, .int 0, .ref w_ch, .ref w_re, .ref w_lo])), (ov, .inl (ct 1, 1, .inr (.inl f)))] s.heap.size = A at hD hX ⊢
  have hA : ∀ q : Nat, s.heap.size ≤ q → A q := fun q h => by rw [← hAe]; exact Or.inr h
  have hS : va_S A s.heap s.heap [] := va_S.rf
  have hl := lv_entry ([.ref x, .int p1, .ref ov]) (n := 4) (Nat.le_of_ble_eq_true rfl)
  rw [lg_entry_eq]
  generalize (lg_sl ([.ref x, .int p1, .ref ov]) ++ List.replicate (4 - (lg_sl ([.ref x, .int p1, .ref ov])).length) Slot.unset).toArray = ls at hl ⊢
  have hl : lv_has ls 4 [(0, .ref x), (1, .int p1), (2, .ref ov)] := hl
  refine lv_aload_n hx hb dL_warnings_0 rfl (lv_at hl 2 rfl) ?_
  refine lv_iconst (v := 0) hx hb dL_warnings_1 (by decide) ?_
  refine lv_aload_n hx hb dL_warnings_2 rfl (lv_at hl 0 rfl) ?_
  refine lv_iload_n hx hb dL_warnings_3 rfl (lv_at hl 1 rfl) ?_
  refine cm_xi (wr := [(ov, .inl (ct 1, 1, .inr (.inl f)))]) (vx_runV (As := [.int p1]) (rest := [.int 0, .ref ov]) ⟨hx, hb, hml, hown, hts⟩ (c_warnings_0 l hfl D ct x w sp sv bu w_se w_cu w_pr w_ch w_re w_lo p1 _) (cm_V 1 hts kc_X10_warnings ki_RX10 kl_RL_109 kv_X10_warnings kx_X10_warnings kd_X10_warnings ⟨Nat.le_of_ble_eq_true rfl, Nat.le_of_ble_eq_true rfl⟩) (cm_preV hP hK hD hS hA hX [0, 1] rfl rfl rfl (q0 := 0) (ci := 10) rfl rfl) rfl rfl hl.1 rfl (lv_room (Nat.le_of_ble_eq_true rfl)) dL_warnings_4 ⟨Nat.le_of_ble_eq_true rfl, Nat.le_of_ble_eq_true rfl⟩) hP hD hS hA [0, 1] [2] rfl rfl rfl (by decide) (fun E ce q9 u H locs hu hE hP hD hS hce hcv hcl => ?_) (fun r_1 u H locs hw_2 hP hD hS => ?_)
  · subst hE
    have hP : va_P D vwCl [(ov, .inl (ct 1, 1, .inr (.inl f))), (x, .inr (10, [.ref w, .ref sp, .ref sv, .ref bu, .int 0, .int 0])), (w, .inr (9, [.int 0, .ref w_se, .ref w_cu, .ref w_pr, .int 0, .ref w_ch, .ref w_re, .ref w_lo]))] H := hP
    have hD : va_D A [(ov, .inl (ct 1, 1, .inr (.inl f))), (x, .inr (10, [.ref w, .ref sp, .ref sv, .ref bu, .int 0, .int 0])), (w, .inr (9, [.int 0, .ref w_se, .ref w_cu, .ref w_pr, .int 0, .ref w_ch, .ref w_re, .ref w_lo]))] := hD
    refine vx_catch (name := "java/lang/IndexOutOfBoundsException") hown [] _ _ htab (fun z hz => absurd hz List.not_mem_nil) (by decide) (by decide) (hts _ kl_RL_32) (hts _ kcast_IOE) hce hcv hcl ?_
    refine W.eq (g2 := F0 m 12 ls [.ref q9]) rfl ?_
    refine lv_astore_n (lv' := [(3, .ref q9), (0, .ref x), (1, .int p1), (2, .ref ov)]) hx hb dL_warnings_12 rfl hl (by decide) rfl (fun ls hl => ?_)
    refine lv_iconst (v := 1) hx hb dL_warnings_13 (by decide) ?_
    have hP9 := hP.sub (ws' := []) [] rfl
    have hD9 := hD.sub (ws' := []) [] (by decide) rfl
    exact W.iret (v := 1) hx hb hr (fun t ht hW => ⟨⟨1, (), rfl, rfl, by rw [ht]; exact hP9, by rw [hAe]; exact hD9⟩, hS.F ht⟩) hS.2.2 dL_warnings_14
  · exact hw_2.elim
theorem dL_warned_0 : decode cL_warned 0 = .ok (.aload_n 2, 1) := by decide +kernel
theorem dL_warned_1 : decode cL_warned 1 = .ok (.iconst 0, 1) := by decide +kernel
theorem dL_warned_2 : decode cL_warned 2 = .ok (.aload_n 0, 1) := by decide +kernel
theorem dL_warned_3 : decode cL_warned 3 = .ok (.iload_n 1, 1) := by decide +kernel
theorem dL_warned_4 : decode cL_warned 4 = .ok (.invokevirtual 112, 3) := by decide +kernel
theorem dL_warned_12 : decode cL_warned 12 = .ok (.astore_n 3, 1) := by decide +kernel
theorem dL_warned_13 : decode cL_warned 13 = .ok (.iconst 1, 1) := by decide +kernel
theorem dL_warned_14 : decode cL_warned 14 = .ok (.ireturn, 1) := by decide +kernel
set_option maxRecDepth 100000 in
set_option maxHeartbeats 4000000 in
theorem l_warned (l : Launch) (hfl : l.stackTraces = false) (D : va_G) (ct : Nat → ClassId) (x : Nat) (w : Nat) (sp : Nat) (sv : Nat) (bu : Nat) (w_se : Nat) (w_cu : Nat) (w_pr : Nat) (w_ch : Nat) (w_re : Nat) (w_lo : Nat) (ov : Nat) (f : Nat → Int64) (p1 : Int32) (sz : Nat) : Met l yL_warned (wsw_ yL_warned cL_warned 4 (some .int) [(0, 9, 12, 32)]) ({ frames := 8, cells := 1, slots := 6, locals := 133 } : Room) (va_Pc [.ref x, .int p1, .ref ov] (cmP D ct sz [(x, .inr (10, [.ref w, .ref sp, .ref sv, .ref bu, .int 0, .int 0])), (w, .inr (9, [.int 0, .ref w_se, .ref w_cu, .ref w_pr, .int 0, .ref w_ch, .ref w_re, .ref w_lo])), (ov, .inl (ct 1, 1, .inr (.inl f)))])) (va_Qi (fun (r : Int32) (_ : Unit) => r = 1) (cmB D [(x, .inr (10, [.ref w, .ref sp, .ref sv, .ref bu, .int 0, .int 0])), (w, .inr (9, [.int 0, .ref w_se, .ref w_cu, .ref w_pr, .int 0, .ref w_ch, .ref w_re, .ref w_lo])), (ov, .inl (ct 1, 1, .inr (.inl f)))] sz (fun _ : Unit => [])) (va_A [(x, .inr (10, [.ref w, .ref sp, .ref sv, .ref bu, .int 0, .int 0])), (w, .inr (9, [.int 0, .ref w_se, .ref w_cu, .ref w_pr, .int 0, .ref w_ch, .ref w_re, .ref w_lo])), (ov, .inl (ct 1, 1, .inr (.inl f)))] sz)) 1 6 (va_A [(x, .inr (10, [.ref w, .ref sp, .ref sv, .ref bu, .int 0, .int 0])), (w, .inr (9, [.int 0, .ref w_se, .ref w_cu, .ref w_pr, .int 0, .ref w_ch, .ref w_re, .ref w_lo])), (ov, .inl (ct 1, 1, .inr (.inl f)))] sz) := by
  refine va_MetW (cc := cL_warned) (maxL := 4) (ret := (some .int)) (hh := [(0, 9, 12, 32)]) (by decide) rfl ?_
  intro p e s m args below meth c s₁ B hml hv
  have hts0 := atoms_spec (ws := wsw_ yL_warned cL_warned 4 (some .int) [(0, 9, 12, 32)]) B.pre
  have hts : ∀ w ∈ cm_all, w.before args s = true := fun w h => hts0 w (List.mem_cons_of_mem _ h)
  obtain ⟨rfl, hsz, hP, hK, hD0, hX⟩ := hv
  have hx := B.exec
  have hb := B.bytes
  have hr := B.returns
  have htab := vx_table (x := yL_warned) B (hts0 _ List.mem_cons_self)
  have hown : s.vm.findClass RL = some m.cls := findClass_of_methodNamed B.named
  have hlocks := B.notSynchronized
  subst hsz
  have hD := hD0.self (sz := s.heap.size)
  generalize hAe : va_A [(x, .inr (10, [.ref w, .ref sp, .ref sv, .ref bu, .int 0, .int 0])), (w, .inr (9, [.int 0, .ref w_se, .ref w_cu, .ref w_pr, .int 0, .ref w_ch, .ref w_re, .ref w_lo])), (ov, .inl (ct 1, 1, .inr (.inl f)))] s.heap.size = A at hD hX ⊢
  have hA : ∀ q : Nat, s.heap.size ≤ q → A q := fun q h => by rw [← hAe]; exact Or.inr h
  have hS : va_S A s.heap s.heap [] := va_S.rf
  have hl := lv_entry ([.ref x, .int p1, .ref ov]) (n := 4) (Nat.le_of_ble_eq_true rfl)
  rw [lg_entry_eq]
  generalize (lg_sl ([.ref x, .int p1, .ref ov]) ++ List.replicate (4 - (lg_sl ([.ref x, .int p1, .ref ov])).length) Slot.unset).toArray = ls at hl ⊢
  have hl : lv_has ls 4 [(0, .ref x), (1, .int p1), (2, .ref ov)] := hl
  refine lv_aload_n hx hb dL_warned_0 rfl (lv_at hl 2 rfl) ?_
  refine lv_iconst (v := 0) hx hb dL_warned_1 (by decide) ?_
  refine lv_aload_n hx hb dL_warned_2 rfl (lv_at hl 0 rfl) ?_
  refine lv_iload_n hx hb dL_warned_3 rfl (lv_at hl 1 rfl) ?_
  refine cm_xi (wr := [(ov, .inl (ct 1, 1, .inr (.inl f)))]) (vx_runV (As := [.int p1]) (rest := [.int 0, .ref ov]) ⟨hx, hb, hml, hown, hts⟩ (c_warned_0 l hfl D ct x w sp sv bu w_se w_cu w_pr w_ch w_re w_lo p1 _) (cm_V 1 hts kc_X10_warned ki_RX10 kl_RL_112 kv_X10_warned kx_X10_warned kd_X10_warned ⟨Nat.le_of_ble_eq_true rfl, Nat.le_of_ble_eq_true rfl⟩) (cm_preV hP hK hD hS hA hX [0, 1] rfl rfl rfl (q0 := 0) (ci := 10) rfl rfl) rfl rfl hl.1 rfl (lv_room (Nat.le_of_ble_eq_true rfl)) dL_warned_4 ⟨Nat.le_of_ble_eq_true rfl, Nat.le_of_ble_eq_true rfl⟩) hP hD hS hA [0, 1] [2] rfl rfl rfl (by decide) (fun E ce q9 u H locs hu hE hP hD hS hce hcv hcl => ?_) (fun r_1 u H locs hw_2 hP hD hS => ?_)
  · subst hE
    have hP : va_P D vwCl [(ov, .inl (ct 1, 1, .inr (.inl f))), (x, .inr (10, [.ref w, .ref sp, .ref sv, .ref bu, .int 0, .int 0])), (w, .inr (9, [.int 0, .ref w_se, .ref w_cu, .ref w_pr, .int 0, .ref w_ch, .ref w_re, .ref w_lo]))] H := hP
    have hD : va_D A [(ov, .inl (ct 1, 1, .inr (.inl f))), (x, .inr (10, [.ref w, .ref sp, .ref sv, .ref bu, .int 0, .int 0])), (w, .inr (9, [.int 0, .ref w_se, .ref w_cu, .ref w_pr, .int 0, .ref w_ch, .ref w_re, .ref w_lo]))] := hD
    refine vx_catch (name := "java/lang/IndexOutOfBoundsException") hown [] _ _ htab (fun z hz => absurd hz List.not_mem_nil) (by decide) (by decide) (hts _ kl_RL_32) (hts _ kcast_IOE) hce hcv hcl ?_
    refine W.eq (g2 := F0 m 12 ls [.ref q9]) rfl ?_
    refine lv_astore_n (lv' := [(3, .ref q9), (0, .ref x), (1, .int p1), (2, .ref ov)]) hx hb dL_warned_12 rfl hl (by decide) rfl (fun ls hl => ?_)
    refine lv_iconst (v := 1) hx hb dL_warned_13 (by decide) ?_
    have hP9 := hP.sub (ws' := []) [] rfl
    have hD9 := hD.sub (ws' := []) [] (by decide) rfl
    exact W.iret (v := 1) hx hb hr (fun t ht hW => ⟨⟨1, (), rfl, rfl, by rw [ht]; exact hP9, by rw [hAe]; exact hD9⟩, hS.F ht⟩) hS.2.2 dL_warned_14
  · exact hw_2.elim
theorem dL_repeats_0 : decode cL_repeats 0 = .ok (.aload_n 3, 1) := by decide +kernel
theorem dL_repeats_1 : decode cL_repeats 1 = .ok (.iconst 0, 1) := by decide +kernel
theorem dL_repeats_2 : decode cL_repeats 2 = .ok (.aload_n 0, 1) := by decide +kernel
theorem dL_repeats_3 : decode cL_repeats 3 = .ok (.iload_n 1, 1) := by decide +kernel
theorem dL_repeats_4 : decode cL_repeats 4 = .ok (.iload_n 2, 1) := by decide +kernel
theorem dL_repeats_5 : decode cL_repeats 5 = .ok (.invokevirtual 115, 3) := by decide +kernel
theorem dL_repeats_13 : decode cL_repeats 13 = .ok (.astore 4, 2) := by decide +kernel
theorem dL_repeats_15 : decode cL_repeats 15 = .ok (.iconst 1, 1) := by decide +kernel
theorem dL_repeats_16 : decode cL_repeats 16 = .ok (.ireturn, 1) := by decide +kernel
set_option maxRecDepth 100000 in
set_option maxHeartbeats 4000000 in
theorem l_repeats (l : Launch) (hfl : l.stackTraces = false) (D : va_G) (ct : Nat → ClassId) (x : Nat) (w : Nat) (sp : Nat) (sv : Nat) (bu : Nat) (w_se : Nat) (w_cu : Nat) (w_pr : Nat) (w_ch : Nat) (w_re : Nat) (w_lo : Nat) (ov : Nat) (f : Nat → Int64) (p1 : Int32) (p2 : Int32) (sz : Nat) : Met l yL_repeats (wsw_ yL_repeats cL_repeats 5 (some .int) [(0, 10, 13, 32)]) ({ frames := 8, cells := 1, slots := 6, locals := 134 } : Room) (va_Pc [.ref x, .int p1, .int p2, .ref ov] (cmP D ct sz [(x, .inr (10, [.ref w, .ref sp, .ref sv, .ref bu, .int 0, .int 0])), (w, .inr (9, [.int 0, .ref w_se, .ref w_cu, .ref w_pr, .int 0, .ref w_ch, .ref w_re, .ref w_lo])), (ov, .inl (ct 1, 1, .inr (.inl f)))])) (va_Qi (fun (r : Int32) (_ : Unit) => r = 1) (cmB D [(x, .inr (10, [.ref w, .ref sp, .ref sv, .ref bu, .int 0, .int 0])), (w, .inr (9, [.int 0, .ref w_se, .ref w_cu, .ref w_pr, .int 0, .ref w_ch, .ref w_re, .ref w_lo])), (ov, .inl (ct 1, 1, .inr (.inl f)))] sz (fun _ : Unit => [])) (va_A [(x, .inr (10, [.ref w, .ref sp, .ref sv, .ref bu, .int 0, .int 0])), (w, .inr (9, [.int 0, .ref w_se, .ref w_cu, .ref w_pr, .int 0, .ref w_ch, .ref w_re, .ref w_lo])), (ov, .inl (ct 1, 1, .inr (.inl f)))] sz)) 1 6 (va_A [(x, .inr (10, [.ref w, .ref sp, .ref sv, .ref bu, .int 0, .int 0])), (w, .inr (9, [.int 0, .ref w_se, .ref w_cu, .ref w_pr, .int 0, .ref w_ch, .ref w_re, .ref w_lo])), (ov, .inl (ct 1, 1, .inr (.inl f)))] sz) := by
  refine va_MetW (cc := cL_repeats) (maxL := 5) (ret := (some .int)) (hh := [(0, 10, 13, 32)]) (by decide) rfl ?_
  intro p e s m args below meth c s₁ B hml hv
  have hts0 := atoms_spec (ws := wsw_ yL_repeats cL_repeats 5 (some .int) [(0, 10, 13, 32)]) B.pre
  have hts : ∀ w ∈ cm_all, w.before args s = true := fun w h => hts0 w (List.mem_cons_of_mem _ h)
  obtain ⟨rfl, hsz, hP, hK, hD0, hX⟩ := hv
  have hx := B.exec
  have hb := B.bytes
  have hr := B.returns
  have htab := vx_table (x := yL_repeats) B (hts0 _ List.mem_cons_self)
  have hown : s.vm.findClass RL = some m.cls := findClass_of_methodNamed B.named
  have hlocks := B.notSynchronized
  subst hsz
  have hD := hD0.self (sz := s.heap.size)
  generalize hAe : va_A [(x, .inr (10, [.ref w, .ref sp, .ref sv, .ref bu, .int 0, .int 0])), (w, .inr (9, [.int 0, .ref w_se, .ref w_cu, .ref w_pr, .int 0, .ref w_ch, .ref w_re, .ref w_lo])), (ov, .inl (ct 1, 1, .inr (.inl f)))] s.heap.size = A at hD hX ⊢
  have hA : ∀ q : Nat, s.heap.size ≤ q → A q := fun q h => by rw [← hAe]; exact Or.inr h
  have hS : va_S A s.heap s.heap [] := va_S.rf
  have hl := lv_entry ([.ref x, .int p1, .int p2, .ref ov]) (n := 5) (Nat.le_of_ble_eq_true rfl)
  rw [lg_entry_eq]
  generalize (lg_sl ([.ref x, .int p1, .int p2, .ref ov]) ++ List.replicate (5 - (lg_sl ([.ref x, .int p1, .int p2, .ref ov])).length) Slot.unset).toArray = ls at hl ⊢
  have hl : lv_has ls 5 [(0, .ref x), (1, .int p1), (2, .int p2), (3, .ref ov)] := hl
  refine lv_aload_n hx hb dL_repeats_0 rfl (lv_at hl 3 rfl) ?_
  refine lv_iconst (v := 0) hx hb dL_repeats_1 (by decide) ?_
  refine lv_aload_n hx hb dL_repeats_2 rfl (lv_at hl 0 rfl) ?_
  refine lv_iload_n hx hb dL_repeats_3 rfl (lv_at hl 1 rfl) ?_
  refine lv_iload_n hx hb dL_repeats_4 rfl (lv_at hl 2 rfl) ?_
  refine cm_xi (wr := [(ov, .inl (ct 1, 1, .inr (.inl f)))]) (vx_runV (As := [.int p1, .int p2]) (rest := [.int 0, .ref ov]) ⟨hx, hb, hml, hown, hts⟩ (c_repeats_0 l hfl D ct x w sp sv bu w_se w_cu w_pr w_ch w_re w_lo p1 p2 _) (cm_V 2 hts kc_X10_repeats ki_RX10 kl_RL_115 kv_X10_repeats kx_X10_repeats kd_X10_repeats ⟨Nat.le_of_ble_eq_true rfl, Nat.le_of_ble_eq_true rfl⟩) (cm_preV hP hK hD hS hA hX [0, 1] rfl rfl rfl (q0 := 0) (ci := 10) rfl rfl) rfl rfl hl.1 rfl (lv_room (Nat.le_of_ble_eq_true rfl)) dL_repeats_5 ⟨Nat.le_of_ble_eq_true rfl, Nat.le_of_ble_eq_true rfl⟩) hP hD hS hA [0, 1] [2] rfl rfl rfl (by decide) (fun E ce q9 u H locs hu hE hP hD hS hce hcv hcl => ?_) (fun r_1 u H locs hw_2 hP hD hS => ?_)
  · subst hE
    have hP : va_P D vwCl [(ov, .inl (ct 1, 1, .inr (.inl f))), (x, .inr (10, [.ref w, .ref sp, .ref sv, .ref bu, .int 0, .int 0])), (w, .inr (9, [.int 0, .ref w_se, .ref w_cu, .ref w_pr, .int 0, .ref w_ch, .ref w_re, .ref w_lo]))] H := hP
    have hD : va_D A [(ov, .inl (ct 1, 1, .inr (.inl f))), (x, .inr (10, [.ref w, .ref sp, .ref sv, .ref bu, .int 0, .int 0])), (w, .inr (9, [.int 0, .ref w_se, .ref w_cu, .ref w_pr, .int 0, .ref w_ch, .ref w_re, .ref w_lo]))] := hD
    refine vx_catch (name := "java/lang/IndexOutOfBoundsException") hown [] _ _ htab (fun z hz => absurd hz List.not_mem_nil) (by decide) (by decide) (hts _ kl_RL_32) (hts _ kcast_IOE) hce hcv hcl ?_
    refine W.eq (g2 := F0 m 13 ls [.ref q9]) rfl ?_
    refine lv_astore (lv' := [(4, .ref q9), (0, .ref x), (1, .int p1), (2, .int p2), (3, .ref ov)]) hx hb dL_repeats_13 hl (by decide) rfl (fun ls hl => ?_)
    refine lv_iconst (v := 1) hx hb dL_repeats_15 (by decide) ?_
    have hP9 := hP.sub (ws' := []) [] rfl
    have hD9 := hD.sub (ws' := []) [] (by decide) rfl
    exact W.iret (v := 1) hx hb hr (fun t ht hW => ⟨⟨1, (), rfl, rfl, by rw [ht]; exact hP9, by rw [hAe]; exact hD9⟩, hS.F ht⟩) hS.2.2 dL_repeats_16
  · exact hw_2.elim
theorem dL_counting_0 : decode cL_counting 0 = .ok (.aload_n 2, 1) := by decide +kernel
theorem dL_counting_1 : decode cL_counting 1 = .ok (.iconst 0, 1) := by decide +kernel
theorem dL_counting_2 : decode cL_counting 2 = .ok (.aload_n 0, 1) := by decide +kernel
theorem dL_counting_3 : decode cL_counting 3 = .ok (.iload_n 1, 1) := by decide +kernel
theorem dL_counting_4 : decode cL_counting 4 = .ok (.invokevirtual 124, 3) := by decide +kernel
theorem dL_counting_12 : decode cL_counting 12 = .ok (.astore_n 3, 1) := by decide +kernel
theorem dL_counting_13 : decode cL_counting 13 = .ok (.iconst 1, 1) := by decide +kernel
theorem dL_counting_14 : decode cL_counting 14 = .ok (.ireturn, 1) := by decide +kernel
set_option maxRecDepth 100000 in
set_option maxHeartbeats 4000000 in
theorem l_counting (l : Launch) (hfl : l.stackTraces = false) (D : va_G) (ct : Nat → ClassId) (x : Nat) (w : Nat) (sp : Nat) (sv : Nat) (bu : Nat) (w_se : Nat) (w_cu : Nat) (w_pr : Nat) (w_ch : Nat) (w_re : Nat) (w_lo : Nat) (ov : Nat) (f : Nat → Int64) (p1 : Int32) (sz : Nat) : Met l yL_counting (wsw_ yL_counting cL_counting 4 (some .int) [(0, 9, 12, 32)]) ({ frames := 8, cells := 1, slots := 6, locals := 135 } : Room) (va_Pc [.ref x, .int p1, .ref ov] (cmP D ct sz [(x, .inr (10, [.ref w, .ref sp, .ref sv, .ref bu, .int 0, .int 0])), (w, .inr (9, [.int 0, .ref w_se, .ref w_cu, .ref w_pr, .int 0, .ref w_ch, .ref w_re, .ref w_lo])), (ov, .inl (ct 1, 1, .inr (.inl f)))])) (va_Qi (fun (r : Int32) (_ : Unit) => r = 1) (cmB D [(x, .inr (10, [.ref w, .ref sp, .ref sv, .ref bu, .int 0, .int 0])), (w, .inr (9, [.int 0, .ref w_se, .ref w_cu, .ref w_pr, .int 0, .ref w_ch, .ref w_re, .ref w_lo])), (ov, .inl (ct 1, 1, .inr (.inl f)))] sz (fun _ : Unit => [])) (va_A [(x, .inr (10, [.ref w, .ref sp, .ref sv, .ref bu, .int 0, .int 0])), (w, .inr (9, [.int 0, .ref w_se, .ref w_cu, .ref w_pr, .int 0, .ref w_ch, .ref w_re, .ref w_lo])), (ov, .inl (ct 1, 1, .inr (.inl f)))] sz)) 1 6 (va_A [(x, .inr (10, [.ref w, .ref sp, .ref sv, .ref bu, .int 0, .int 0])), (w, .inr (9, [.int 0, .ref w_se, .ref w_cu, .ref w_pr, .int 0, .ref w_ch, .ref w_re, .ref w_lo])), (ov, .inl (ct 1, 1, .inr (.inl f)))] sz) := by
  refine va_MetW (cc := cL_counting) (maxL := 4) (ret := (some .int)) (hh := [(0, 9, 12, 32)]) (by decide) rfl ?_
  intro p e s m args below meth c s₁ B hml hv
  have hts0 := atoms_spec (ws := wsw_ yL_counting cL_counting 4 (some .int) [(0, 9, 12, 32)]) B.pre
  have hts : ∀ w ∈ cm_all, w.before args s = true := fun w h => hts0 w (List.mem_cons_of_mem _ h)
  obtain ⟨rfl, hsz, hP, hK, hD0, hX⟩ := hv
  have hx := B.exec
  have hb := B.bytes
  have hr := B.returns
  have htab := vx_table (x := yL_counting) B (hts0 _ List.mem_cons_self)
  have hown : s.vm.findClass RL = some m.cls := findClass_of_methodNamed B.named
  have hlocks := B.notSynchronized
  subst hsz
  have hD := hD0.self (sz := s.heap.size)
  generalize hAe : va_A [(x, .inr (10, [.ref w, .ref sp, .ref sv, .ref bu, .int 0, .int 0])), (w, .inr (9, [.int 0, .ref w_se, .ref w_cu, .ref w_pr, .int 0, .ref w_ch, .ref w_re, .ref w_lo])), (ov, .inl (ct 1, 1, .inr (.inl f)))] s.heap.size = A at hD hX ⊢
  have hA : ∀ q : Nat, s.heap.size ≤ q → A q := fun q h => by rw [← hAe]; exact Or.inr h
  have hS : va_S A s.heap s.heap [] := va_S.rf
  have hl := lv_entry ([.ref x, .int p1, .ref ov]) (n := 4) (Nat.le_of_ble_eq_true rfl)
  rw [lg_entry_eq]
  generalize (lg_sl ([.ref x, .int p1, .ref ov]) ++ List.replicate (4 - (lg_sl ([.ref x, .int p1, .ref ov])).length) Slot.unset).toArray = ls at hl ⊢
  have hl : lv_has ls 4 [(0, .ref x), (1, .int p1), (2, .ref ov)] := hl
  refine lv_aload_n hx hb dL_counting_0 rfl (lv_at hl 2 rfl) ?_
  refine lv_iconst (v := 0) hx hb dL_counting_1 (by decide) ?_
  refine lv_aload_n hx hb dL_counting_2 rfl (lv_at hl 0 rfl) ?_
  refine lv_iload_n hx hb dL_counting_3 rfl (lv_at hl 1 rfl) ?_
  refine cm_xi (wr := [(ov, .inl (ct 1, 1, .inr (.inl f)))]) (vx_runV (As := [.int p1]) (rest := [.int 0, .ref ov]) ⟨hx, hb, hml, hown, hts⟩ (c_counting_0 l hfl D ct x w sp sv bu w_se w_cu w_pr w_ch w_re w_lo p1 _) (cm_V 1 hts kc_X10_counting ki_RX10 kl_RL_124 kv_X10_counting kx_X10_counting kd_X10_counting ⟨Nat.le_of_ble_eq_true rfl, Nat.le_of_ble_eq_true rfl⟩) (cm_preV hP hK hD hS hA hX [0, 1] rfl rfl rfl (q0 := 0) (ci := 10) rfl rfl) rfl rfl hl.1 rfl (lv_room (Nat.le_of_ble_eq_true rfl)) dL_counting_4 ⟨Nat.le_of_ble_eq_true rfl, Nat.le_of_ble_eq_true rfl⟩) hP hD hS hA [0, 1] [2] rfl rfl rfl (by decide) (fun E ce q9 u H locs hu hE hP hD hS hce hcv hcl => ?_) (fun r_1 u H locs hw_2 hP hD hS => ?_)
  · subst hE
    have hP : va_P D vwCl [(ov, .inl (ct 1, 1, .inr (.inl f))), (x, .inr (10, [.ref w, .ref sp, .ref sv, .ref bu, .int 0, .int 0])), (w, .inr (9, [.int 0, .ref w_se, .ref w_cu, .ref w_pr, .int 0, .ref w_ch, .ref w_re, .ref w_lo]))] H := hP
    have hD : va_D A [(ov, .inl (ct 1, 1, .inr (.inl f))), (x, .inr (10, [.ref w, .ref sp, .ref sv, .ref bu, .int 0, .int 0])), (w, .inr (9, [.int 0, .ref w_se, .ref w_cu, .ref w_pr, .int 0, .ref w_ch, .ref w_re, .ref w_lo]))] := hD
    refine vx_catch (name := "java/lang/IndexOutOfBoundsException") hown [] _ _ htab (fun z hz => absurd hz List.not_mem_nil) (by decide) (by decide) (hts _ kl_RL_32) (hts _ kcast_IOE) hce hcv hcl ?_
    refine W.eq (g2 := F0 m 12 ls [.ref q9]) rfl ?_
    refine lv_astore_n (lv' := [(3, .ref q9), (0, .ref x), (1, .int p1), (2, .ref ov)]) hx hb dL_counting_12 rfl hl (by decide) rfl (fun ls hl => ?_)
    refine lv_iconst (v := 1) hx hb dL_counting_13 (by decide) ?_
    have hP9 := hP.sub (ws' := []) [] rfl
    have hD9 := hD.sub (ws' := []) [] (by decide) rfl
    exact W.iret (v := 1) hx hb hr (fun t ht hW => ⟨⟨1, (), rfl, rfl, by rw [ht]; exact hP9, by rw [hAe]; exact hD9⟩, hS.F ht⟩) hS.2.2 dL_counting_14
  · exact hw_2.elim
theorem dL_loss_0 : decode cL_loss 0 = .ok (.aload_n 2, 1) := by decide +kernel
theorem dL_loss_1 : decode cL_loss 1 = .ok (.iconst 0, 1) := by decide +kernel
theorem dL_loss_2 : decode cL_loss 2 = .ok (.aload_n 0, 1) := by decide +kernel
theorem dL_loss_3 : decode cL_loss 3 = .ok (.iload_n 1, 1) := by decide +kernel
theorem dL_loss_4 : decode cL_loss 4 = .ok (.invokevirtual 127, 3) := by decide +kernel
theorem dL_loss_12 : decode cL_loss 12 = .ok (.astore_n 3, 1) := by decide +kernel
theorem dL_loss_13 : decode cL_loss 13 = .ok (.iconst 1, 1) := by decide +kernel
theorem dL_loss_14 : decode cL_loss 14 = .ok (.ireturn, 1) := by decide +kernel
set_option maxRecDepth 100000 in
set_option maxHeartbeats 4000000 in
theorem l_loss (l : Launch) (hfl : l.stackTraces = false) (D : va_G) (ct : Nat → ClassId) (x : Nat) (w : Nat) (sp : Nat) (sv : Nat) (bu : Nat) (w_se : Nat) (w_cu : Nat) (w_pr : Nat) (w_ch : Nat) (w_re : Nat) (w_lo : Nat) (ov : Nat) (f : Nat → Int64) (p1 : Int32) (sz : Nat) : Met l yL_loss (wsw_ yL_loss cL_loss 4 (some .int) [(0, 9, 12, 32)]) ({ frames := 8, cells := 1, slots := 6, locals := 136 } : Room) (va_Pc [.ref x, .int p1, .ref ov] (cmP D ct sz [(x, .inr (10, [.ref w, .ref sp, .ref sv, .ref bu, .int 0, .int 0])), (w, .inr (9, [.int 0, .ref w_se, .ref w_cu, .ref w_pr, .int 0, .ref w_ch, .ref w_re, .ref w_lo])), (ov, .inl (ct 1, 1, .inr (.inl f)))])) (va_Qi (fun (r : Int32) (_ : Unit) => r = 1) (cmB D [(x, .inr (10, [.ref w, .ref sp, .ref sv, .ref bu, .int 0, .int 0])), (w, .inr (9, [.int 0, .ref w_se, .ref w_cu, .ref w_pr, .int 0, .ref w_ch, .ref w_re, .ref w_lo])), (ov, .inl (ct 1, 1, .inr (.inl f)))] sz (fun _ : Unit => [])) (va_A [(x, .inr (10, [.ref w, .ref sp, .ref sv, .ref bu, .int 0, .int 0])), (w, .inr (9, [.int 0, .ref w_se, .ref w_cu, .ref w_pr, .int 0, .ref w_ch, .ref w_re, .ref w_lo])), (ov, .inl (ct 1, 1, .inr (.inl f)))] sz)) 1 6 (va_A [(x, .inr (10, [.ref w, .ref sp, .ref sv, .ref bu, .int 0, .int 0])), (w, .inr (9, [.int 0, .ref w_se, .ref w_cu, .ref w_pr, .int 0, .ref w_ch, .ref w_re, .ref w_lo])), (ov, .inl (ct 1, 1, .inr (.inl f)))] sz) := by
  refine va_MetW (cc := cL_loss) (maxL := 4) (ret := (some .int)) (hh := [(0, 9, 12, 32)]) (by decide) rfl ?_
  intro p e s m args below meth c s₁ B hml hv
  have hts0 := atoms_spec (ws := wsw_ yL_loss cL_loss 4 (some .int) [(0, 9, 12, 32)]) B.pre
  have hts : ∀ w ∈ cm_all, w.before args s = true := fun w h => hts0 w (List.mem_cons_of_mem _ h)
  obtain ⟨rfl, hsz, hP, hK, hD0, hX⟩ := hv
  have hx := B.exec
  have hb := B.bytes
  have hr := B.returns
  have htab := vx_table (x := yL_loss) B (hts0 _ List.mem_cons_self)
  have hown : s.vm.findClass RL = some m.cls := findClass_of_methodNamed B.named
  have hlocks := B.notSynchronized
  subst hsz
  have hD := hD0.self (sz := s.heap.size)
  generalize hAe : va_A [(x, .inr (10, [.ref w, .ref sp, .ref sv, .ref bu, .int 0, .int 0])), (w, .inr (9, [.int 0, .ref w_se, .ref w_cu, .ref w_pr, .int 0, .ref w_ch, .ref w_re, .ref w_lo])), (ov, .inl (ct 1, 1, .inr (.inl f)))] s.heap.size = A at hD hX ⊢
  have hA : ∀ q : Nat, s.heap.size ≤ q → A q := fun q h => by rw [← hAe]; exact Or.inr h
  have hS : va_S A s.heap s.heap [] := va_S.rf
  have hl := lv_entry ([.ref x, .int p1, .ref ov]) (n := 4) (Nat.le_of_ble_eq_true rfl)
  rw [lg_entry_eq]
  generalize (lg_sl ([.ref x, .int p1, .ref ov]) ++ List.replicate (4 - (lg_sl ([.ref x, .int p1, .ref ov])).length) Slot.unset).toArray = ls at hl ⊢
  have hl : lv_has ls 4 [(0, .ref x), (1, .int p1), (2, .ref ov)] := hl
  refine lv_aload_n hx hb dL_loss_0 rfl (lv_at hl 2 rfl) ?_
  refine lv_iconst (v := 0) hx hb dL_loss_1 (by decide) ?_
  refine lv_aload_n hx hb dL_loss_2 rfl (lv_at hl 0 rfl) ?_
  refine lv_iload_n hx hb dL_loss_3 rfl (lv_at hl 1 rfl) ?_
  refine cm_xi (wr := [(ov, .inl (ct 1, 1, .inr (.inl f)))]) (vx_runV (As := [.int p1]) (rest := [.int 0, .ref ov]) ⟨hx, hb, hml, hown, hts⟩ (c_loss_0 l hfl D ct x w sp sv bu w_se w_cu w_pr w_ch w_re w_lo p1 _) (cm_V 1 hts kc_X10_loss ki_RX10 kl_RL_127 kv_X10_loss kx_X10_loss kd_X10_loss ⟨Nat.le_of_ble_eq_true rfl, Nat.le_of_ble_eq_true rfl⟩) (cm_preV hP hK hD hS hA hX [0, 1] rfl rfl rfl (q0 := 0) (ci := 10) rfl rfl) rfl rfl hl.1 rfl (lv_room (Nat.le_of_ble_eq_true rfl)) dL_loss_4 ⟨Nat.le_of_ble_eq_true rfl, Nat.le_of_ble_eq_true rfl⟩) hP hD hS hA [0, 1] [2] rfl rfl rfl (by decide) (fun E ce q9 u H locs hu hE hP hD hS hce hcv hcl => ?_) (fun r_1 u H locs hw_2 hP hD hS => ?_)
  · subst hE
    have hP : va_P D vwCl [(ov, .inl (ct 1, 1, .inr (.inl f))), (x, .inr (10, [.ref w, .ref sp, .ref sv, .ref bu, .int 0, .int 0])), (w, .inr (9, [.int 0, .ref w_se, .ref w_cu, .ref w_pr, .int 0, .ref w_ch, .ref w_re, .ref w_lo]))] H := hP
    have hD : va_D A [(ov, .inl (ct 1, 1, .inr (.inl f))), (x, .inr (10, [.ref w, .ref sp, .ref sv, .ref bu, .int 0, .int 0])), (w, .inr (9, [.int 0, .ref w_se, .ref w_cu, .ref w_pr, .int 0, .ref w_ch, .ref w_re, .ref w_lo]))] := hD
    refine vx_catch (name := "java/lang/IndexOutOfBoundsException") hown [] _ _ htab (fun z hz => absurd hz List.not_mem_nil) (by decide) (by decide) (hts _ kl_RL_32) (hts _ kcast_IOE) hce hcv hcl ?_
    refine W.eq (g2 := F0 m 12 ls [.ref q9]) rfl ?_
    refine lv_astore_n (lv' := [(3, .ref q9), (0, .ref x), (1, .int p1), (2, .ref ov)]) hx hb dL_loss_12 rfl hl (by decide) rfl (fun ls hl => ?_)
    refine lv_iconst (v := 1) hx hb dL_loss_13 (by decide) ?_
    have hP9 := hP.sub (ws' := []) [] rfl
    have hD9 := hD.sub (ws' := []) [] (by decide) rfl
    exact W.iret (v := 1) hx hb hr (fun t ht hW => ⟨⟨1, (), rfl, rfl, by rw [ht]; exact hP9, by rw [hAe]; exact hD9⟩, hS.F ht⟩) hS.2.2 dL_loss_14
  · exact hw_2.elim
theorem dL_eventsOf_0 : decode cL_eventsOf 0 = .ok (.aload_n 3, 1) := by decide +kernel
theorem dL_eventsOf_1 : decode cL_eventsOf 1 = .ok (.iconst 0, 1) := by decide +kernel
theorem dL_eventsOf_2 : decode cL_eventsOf 2 = .ok (.aload_n 0, 1) := by decide +kernel
theorem dL_eventsOf_3 : decode cL_eventsOf 3 = .ok (.iload_n 1, 1) := by decide +kernel
theorem dL_eventsOf_4 : decode cL_eventsOf 4 = .ok (.iload_n 2, 1) := by decide +kernel
theorem dL_eventsOf_5 : decode cL_eventsOf 5 = .ok (.invokevirtual 133, 3) := by decide +kernel
theorem dL_eventsOf_13 : decode cL_eventsOf 13 = .ok (.astore 4, 2) := by decide +kernel
theorem dL_eventsOf_15 : decode cL_eventsOf 15 = .ok (.iconst 1, 1) := by decide +kernel
theorem dL_eventsOf_16 : decode cL_eventsOf 16 = .ok (.ireturn, 1) := by decide +kernel
set_option maxRecDepth 100000 in
set_option maxHeartbeats 4000000 in
theorem l_eventsOf (l : Launch) (hfl : l.stackTraces = false) (D : va_G) (ct : Nat → ClassId) (x : Nat) (w : Nat) (sp : Nat) (sv : Nat) (bu : Nat) (w_se : Nat) (w_cu : Nat) (w_pr : Nat) (w_ch : Nat) (w_re : Nat) (w_lo : Nat) (ov : Nat) (f : Nat → Int64) (p1 : Int32) (p2 : Int32) (sz : Nat) : Met l yL_eventsOf (wsw_ yL_eventsOf cL_eventsOf 5 (some .int) [(0, 10, 13, 32), (0, 10, 17, 13)]) ({ frames := 8, cells := 1, slots := 6, locals := 136 } : Room) (va_Pc [.ref x, .int p1, .int p2, .ref ov] (cmP D ct sz [(x, .inr (10, [.ref w, .ref sp, .ref sv, .ref bu, .int 0, .int 0])), (w, .inr (9, [.int 0, .ref w_se, .ref w_cu, .ref w_pr, .int 0, .ref w_ch, .ref w_re, .ref w_lo])), (ov, .inl (ct 1, 1, .inr (.inl f)))])) (va_Qi (fun (r : Int32) (_ : Unit) => r = 1) (cmB D [(x, .inr (10, [.ref w, .ref sp, .ref sv, .ref bu, .int 0, .int 0])), (w, .inr (9, [.int 0, .ref w_se, .ref w_cu, .ref w_pr, .int 0, .ref w_ch, .ref w_re, .ref w_lo])), (ov, .inl (ct 1, 1, .inr (.inl f)))] sz (fun _ : Unit => [])) (va_A [(x, .inr (10, [.ref w, .ref sp, .ref sv, .ref bu, .int 0, .int 0])), (w, .inr (9, [.int 0, .ref w_se, .ref w_cu, .ref w_pr, .int 0, .ref w_ch, .ref w_re, .ref w_lo])), (ov, .inl (ct 1, 1, .inr (.inl f)))] sz)) 1 6 (va_A [(x, .inr (10, [.ref w, .ref sp, .ref sv, .ref bu, .int 0, .int 0])), (w, .inr (9, [.int 0, .ref w_se, .ref w_cu, .ref w_pr, .int 0, .ref w_ch, .ref w_re, .ref w_lo])), (ov, .inl (ct 1, 1, .inr (.inl f)))] sz) := by
  refine va_MetW (cc := cL_eventsOf) (maxL := 5) (ret := (some .int)) (hh := [(0, 10, 13, 32), (0, 10, 17, 13)]) (by decide) rfl ?_
  intro p e s m args below meth c s₁ B hml hv
  have hts0 := atoms_spec (ws := wsw_ yL_eventsOf cL_eventsOf 5 (some .int) [(0, 10, 13, 32), (0, 10, 17, 13)]) B.pre
  have hts : ∀ w ∈ cm_all, w.before args s = true := fun w h => hts0 w (List.mem_cons_of_mem _ h)
  obtain ⟨rfl, hsz, hP, hK, hD0, hX⟩ := hv
  have hx := B.exec
  have hb := B.bytes
  have hr := B.returns
  have htab := vx_table (x := yL_eventsOf) B (hts0 _ List.mem_cons_self)
  have hown : s.vm.findClass RL = some m.cls := findClass_of_methodNamed B.named
  have hlocks := B.notSynchronized
  subst hsz
  have hD := hD0.self (sz := s.heap.size)
  generalize hAe : va_A [(x, .inr (10, [.ref w, .ref sp, .ref sv, .ref bu, .int 0, .int 0])), (w, .inr (9, [.int 0, .ref w_se, .ref w_cu, .ref w_pr, .int 0, .ref w_ch, .ref w_re, .ref w_lo])), (ov, .inl (ct 1, 1, .inr (.inl f)))] s.heap.size = A at hD hX ⊢
  have hA : ∀ q : Nat, s.heap.size ≤ q → A q := fun q h => by rw [← hAe]; exact Or.inr h
  have hS : va_S A s.heap s.heap [] := va_S.rf
  have hl := lv_entry ([.ref x, .int p1, .int p2, .ref ov]) (n := 5) (Nat.le_of_ble_eq_true rfl)
  rw [lg_entry_eq]
  generalize (lg_sl ([.ref x, .int p1, .int p2, .ref ov]) ++ List.replicate (5 - (lg_sl ([.ref x, .int p1, .int p2, .ref ov])).length) Slot.unset).toArray = ls at hl ⊢
  have hl : lv_has ls 5 [(0, .ref x), (1, .int p1), (2, .int p2), (3, .ref ov)] := hl
  refine lv_aload_n hx hb dL_eventsOf_0 rfl (lv_at hl 3 rfl) ?_
  refine lv_iconst (v := 0) hx hb dL_eventsOf_1 (by decide) ?_
  refine lv_aload_n hx hb dL_eventsOf_2 rfl (lv_at hl 0 rfl) ?_
  refine lv_iload_n hx hb dL_eventsOf_3 rfl (lv_at hl 1 rfl) ?_
  refine lv_iload_n hx hb dL_eventsOf_4 rfl (lv_at hl 2 rfl) ?_
  refine cm_xi (wr := [(ov, .inl (ct 1, 1, .inr (.inl f)))]) (vx_runV (As := [.int p1, .int p2]) (rest := [.int 0, .ref ov]) ⟨hx, hb, hml, hown, hts⟩ (c_eventsOf_0 l hfl D ct x w sp sv bu w_se w_cu w_pr w_ch w_re w_lo p1 p2 _) (cm_V 2 hts kc_X10_eventsOf ki_RX10 kl_RL_133 kv_X10_eventsOf kx_X10_eventsOf kd_X10_eventsOf ⟨Nat.le_of_ble_eq_true rfl, Nat.le_of_ble_eq_true rfl⟩) (cm_preV hP hK hD hS hA hX [0, 1] rfl rfl rfl (q0 := 0) (ci := 10) rfl rfl) rfl rfl hl.1 rfl (lv_room (Nat.le_of_ble_eq_true rfl)) dL_eventsOf_5 ⟨Nat.le_of_ble_eq_true rfl, Nat.le_of_ble_eq_true rfl⟩) hP hD hS hA [0, 1] [2] rfl rfl rfl (by decide) (fun E ce q9 u H locs hu hE hP hD hS hce hcv hcl => ?_) (fun r_1 u H locs hw_2 hP hD hS => ?_)
  · subst hE
    have hP : va_P D vwCl [(ov, .inl (ct 1, 1, .inr (.inl f))), (x, .inr (10, [.ref w, .ref sp, .ref sv, .ref bu, .int 0, .int 0])), (w, .inr (9, [.int 0, .ref w_se, .ref w_cu, .ref w_pr, .int 0, .ref w_ch, .ref w_re, .ref w_lo]))] H := hP
    have hD : va_D A [(ov, .inl (ct 1, 1, .inr (.inl f))), (x, .inr (10, [.ref w, .ref sp, .ref sv, .ref bu, .int 0, .int 0])), (w, .inr (9, [.int 0, .ref w_se, .ref w_cu, .ref w_pr, .int 0, .ref w_ch, .ref w_re, .ref w_lo]))] := hD
    refine vx_catch (name := "java/lang/IndexOutOfBoundsException") hown [] _ _ htab (fun z hz => absurd hz List.not_mem_nil) (by decide) (by decide) (hts _ kl_RL_32) (hts _ kcast_IOE) hce hcv hcl ?_
    refine W.eq (g2 := F0 m 13 ls [.ref q9]) rfl ?_
    refine lv_astore (lv' := [(4, .ref q9), (0, .ref x), (1, .int p1), (2, .int p2), (3, .ref ov)]) hx hb dL_eventsOf_13 hl (by decide) rfl (fun ls hl => ?_)
    refine lv_iconst (v := 1) hx hb dL_eventsOf_15 (by decide) ?_
    have hP9 := hP.sub (ws' := []) [] rfl
    have hD9 := hD.sub (ws' := []) [] (by decide) rfl
    exact W.iret (v := 1) hx hb hr (fun t ht hW => ⟨⟨1, (), rfl, rfl, by rw [ht]; exact hP9, by rw [hAe]; exact hD9⟩, hS.F ht⟩) hS.2.2 dL_eventsOf_16
  · exact hw_2.elim
theorem dL_duration_0 : decode cL_duration 0 = .ok (.aload_n 3, 1) := by decide +kernel
theorem dL_duration_1 : decode cL_duration 1 = .ok (.iconst 0, 1) := by decide +kernel
theorem dL_duration_2 : decode cL_duration 2 = .ok (.aload_n 0, 1) := by decide +kernel
theorem dL_duration_3 : decode cL_duration 3 = .ok (.iload_n 1, 1) := by decide +kernel
theorem dL_duration_4 : decode cL_duration 4 = .ok (.iload_n 2, 1) := by decide +kernel
theorem dL_duration_5 : decode cL_duration 5 = .ok (.invokevirtual 154, 3) := by decide +kernel
theorem dL_duration_13 : decode cL_duration 13 = .ok (.astore 4, 2) := by decide +kernel
theorem dL_duration_15 : decode cL_duration 15 = .ok (.iconst 1, 1) := by decide +kernel
theorem dL_duration_16 : decode cL_duration 16 = .ok (.ireturn, 1) := by decide +kernel
set_option maxRecDepth 100000 in
set_option maxHeartbeats 4000000 in
theorem l_duration (l : Launch) (hfl : l.stackTraces = false) (D : va_G) (ct : Nat → ClassId) (x : Nat) (w : Nat) (sp : Nat) (sv : Nat) (bu : Nat) (w_se : Nat) (w_cu : Nat) (w_pr : Nat) (w_ch : Nat) (w_re : Nat) (w_lo : Nat) (ov : Nat) (f : Nat → Int64) (p1 : Int32) (p2 : Int32) (sz : Nat) : Met l yL_duration (wsw_ yL_duration cL_duration 5 (some .int) [(0, 10, 13, 32)]) ({ frames := 8, cells := 1, slots := 6, locals := 134 } : Room) (va_Pc [.ref x, .int p1, .int p2, .ref ov] (cmP D ct sz [(x, .inr (10, [.ref w, .ref sp, .ref sv, .ref bu, .int 0, .int 0])), (w, .inr (9, [.int 0, .ref w_se, .ref w_cu, .ref w_pr, .int 0, .ref w_ch, .ref w_re, .ref w_lo])), (ov, .inl (ct 1, 1, .inr (.inl f)))])) (va_Qi (fun (r : Int32) (_ : Unit) => r = 1) (cmB D [(x, .inr (10, [.ref w, .ref sp, .ref sv, .ref bu, .int 0, .int 0])), (w, .inr (9, [.int 0, .ref w_se, .ref w_cu, .ref w_pr, .int 0, .ref w_ch, .ref w_re, .ref w_lo])), (ov, .inl (ct 1, 1, .inr (.inl f)))] sz (fun _ : Unit => [])) (va_A [(x, .inr (10, [.ref w, .ref sp, .ref sv, .ref bu, .int 0, .int 0])), (w, .inr (9, [.int 0, .ref w_se, .ref w_cu, .ref w_pr, .int 0, .ref w_ch, .ref w_re, .ref w_lo])), (ov, .inl (ct 1, 1, .inr (.inl f)))] sz)) 1 6 (va_A [(x, .inr (10, [.ref w, .ref sp, .ref sv, .ref bu, .int 0, .int 0])), (w, .inr (9, [.int 0, .ref w_se, .ref w_cu, .ref w_pr, .int 0, .ref w_ch, .ref w_re, .ref w_lo])), (ov, .inl (ct 1, 1, .inr (.inl f)))] sz) := by
  refine va_MetW (cc := cL_duration) (maxL := 5) (ret := (some .int)) (hh := [(0, 10, 13, 32)]) (by decide) rfl ?_
  intro p e s m args below meth c s₁ B hml hv
  have hts0 := atoms_spec (ws := wsw_ yL_duration cL_duration 5 (some .int) [(0, 10, 13, 32)]) B.pre
  have hts : ∀ w ∈ cm_all, w.before args s = true := fun w h => hts0 w (List.mem_cons_of_mem _ h)
  obtain ⟨rfl, hsz, hP, hK, hD0, hX⟩ := hv
  have hx := B.exec
  have hb := B.bytes
  have hr := B.returns
  have htab := vx_table (x := yL_duration) B (hts0 _ List.mem_cons_self)
  have hown : s.vm.findClass RL = some m.cls := findClass_of_methodNamed B.named
  have hlocks := B.notSynchronized
  subst hsz
  have hD := hD0.self (sz := s.heap.size)
  generalize hAe : va_A [(x, .inr (10, [.ref w, .ref sp, .ref sv, .ref bu, .int 0, .int 0])), (w, .inr (9, [.int 0, .ref w_se, .ref w_cu, .ref w_pr, .int 0, .ref w_ch, .ref w_re, .ref w_lo])), (ov, .inl (ct 1, 1, .inr (.inl f)))] s.heap.size = A at hD hX ⊢
  have hA : ∀ q : Nat, s.heap.size ≤ q → A q := fun q h => by rw [← hAe]; exact Or.inr h
  have hS : va_S A s.heap s.heap [] := va_S.rf
  have hl := lv_entry ([.ref x, .int p1, .int p2, .ref ov]) (n := 5) (Nat.le_of_ble_eq_true rfl)
  rw [lg_entry_eq]
  generalize (lg_sl ([.ref x, .int p1, .int p2, .ref ov]) ++ List.replicate (5 - (lg_sl ([.ref x, .int p1, .int p2, .ref ov])).length) Slot.unset).toArray = ls at hl ⊢
  have hl : lv_has ls 5 [(0, .ref x), (1, .int p1), (2, .int p2), (3, .ref ov)] := hl
  refine lv_aload_n hx hb dL_duration_0 rfl (lv_at hl 3 rfl) ?_
  refine lv_iconst (v := 0) hx hb dL_duration_1 (by decide) ?_
  refine lv_aload_n hx hb dL_duration_2 rfl (lv_at hl 0 rfl) ?_
  refine lv_iload_n hx hb dL_duration_3 rfl (lv_at hl 1 rfl) ?_
  refine lv_iload_n hx hb dL_duration_4 rfl (lv_at hl 2 rfl) ?_
  refine cm_xi (wr := [(ov, .inl (ct 1, 1, .inr (.inl f)))]) (vx_runV (As := [.int p1, .int p2]) (rest := [.int 0, .ref ov]) ⟨hx, hb, hml, hown, hts⟩ (c_duration_0 l hfl D ct x w sp sv bu w_se w_cu w_pr w_ch w_re w_lo p1 p2 _) (cm_V 2 hts kc_X10_duration ki_RX10 kl_RL_154 kv_X10_duration kx_X10_duration kd_X10_duration ⟨Nat.le_of_ble_eq_true rfl, Nat.le_of_ble_eq_true rfl⟩) (cm_preV hP hK hD hS hA hX [0, 1] rfl rfl rfl (q0 := 0) (ci := 10) rfl rfl) rfl rfl hl.1 rfl (lv_room (Nat.le_of_ble_eq_true rfl)) dL_duration_5 ⟨Nat.le_of_ble_eq_true rfl, Nat.le_of_ble_eq_true rfl⟩) hP hD hS hA [0, 1] [2] rfl rfl rfl (by decide) (fun E ce q9 u H locs hu hE hP hD hS hce hcv hcl => ?_) (fun r_1 u H locs hw_2 hP hD hS => ?_)
  · subst hE
    have hP : va_P D vwCl [(ov, .inl (ct 1, 1, .inr (.inl f))), (x, .inr (10, [.ref w, .ref sp, .ref sv, .ref bu, .int 0, .int 0])), (w, .inr (9, [.int 0, .ref w_se, .ref w_cu, .ref w_pr, .int 0, .ref w_ch, .ref w_re, .ref w_lo]))] H := hP
    have hD : va_D A [(ov, .inl (ct 1, 1, .inr (.inl f))), (x, .inr (10, [.ref w, .ref sp, .ref sv, .ref bu, .int 0, .int 0])), (w, .inr (9, [.int 0, .ref w_se, .ref w_cu, .ref w_pr, .int 0, .ref w_ch, .ref w_re, .ref w_lo]))] := hD
    refine vx_catch (name := "java/lang/IndexOutOfBoundsException") hown [] _ _ htab (fun z hz => absurd hz List.not_mem_nil) (by decide) (by decide) (hts _ kl_RL_32) (hts _ kcast_IOE) hce hcv hcl ?_
    refine W.eq (g2 := F0 m 13 ls [.ref q9]) rfl ?_
    refine lv_astore (lv' := [(4, .ref q9), (0, .ref x), (1, .int p1), (2, .int p2), (3, .ref ov)]) hx hb dL_duration_13 hl (by decide) rfl (fun ls hl => ?_)
    refine lv_iconst (v := 1) hx hb dL_duration_15 (by decide) ?_
    have hP9 := hP.sub (ws' := []) [] rfl
    have hD9 := hD.sub (ws' := []) [] (by decide) rfl
    exact W.iret (v := 1) hx hb hr (fun t ht hW => ⟨⟨1, (), rfl, rfl, by rw [ht]; exact hP9, by rw [hAe]; exact hD9⟩, hS.F ht⟩) hS.2.2 dL_duration_16
  · exact hw_2.elim
theorem dL_shortest_0 : decode cL_shortest 0 = .ok (.aload_n 2, 1) := by decide +kernel
theorem dL_shortest_1 : decode cL_shortest 1 = .ok (.iconst 0, 1) := by decide +kernel
theorem dL_shortest_2 : decode cL_shortest 2 = .ok (.aload_n 0, 1) := by decide +kernel
theorem dL_shortest_3 : decode cL_shortest 3 = .ok (.iload_n 1, 1) := by decide +kernel
theorem dL_shortest_4 : decode cL_shortest 4 = .ok (.invokevirtual 157, 3) := by decide +kernel
theorem dL_shortest_12 : decode cL_shortest 12 = .ok (.astore_n 3, 1) := by decide +kernel
theorem dL_shortest_13 : decode cL_shortest 13 = .ok (.iconst 1, 1) := by decide +kernel
theorem dL_shortest_14 : decode cL_shortest 14 = .ok (.ireturn, 1) := by decide +kernel
set_option maxRecDepth 100000 in
set_option maxHeartbeats 4000000 in
theorem l_shortest (l : Launch) (hfl : l.stackTraces = false) (D : va_G) (ct : Nat → ClassId) (x : Nat) (w : Nat) (sp : Nat) (sv : Nat) (bu : Nat) (w_se : Nat) (w_cu : Nat) (w_pr : Nat) (w_ch : Nat) (w_re : Nat) (w_lo : Nat) (ov : Nat) (f : Nat → Int64) (p1 : Int32) (sz : Nat) : Met l yL_shortest (wsw_ yL_shortest cL_shortest 4 (some .int) [(0, 9, 12, 32)]) ({ frames := 8, cells := 1, slots := 6, locals := 137 } : Room) (va_Pc [.ref x, .int p1, .ref ov] (cmP D ct sz [(x, .inr (10, [.ref w, .ref sp, .ref sv, .ref bu, .int 0, .int 0])), (w, .inr (9, [.int 0, .ref w_se, .ref w_cu, .ref w_pr, .int 0, .ref w_ch, .ref w_re, .ref w_lo])), (ov, .inl (ct 1, 1, .inr (.inl f)))])) (va_Qi (fun (r : Int32) (_ : Unit) => r = 1) (cmB D [(x, .inr (10, [.ref w, .ref sp, .ref sv, .ref bu, .int 0, .int 0])), (w, .inr (9, [.int 0, .ref w_se, .ref w_cu, .ref w_pr, .int 0, .ref w_ch, .ref w_re, .ref w_lo])), (ov, .inl (ct 1, 1, .inr (.inl f)))] sz (fun _ : Unit => [])) (va_A [(x, .inr (10, [.ref w, .ref sp, .ref sv, .ref bu, .int 0, .int 0])), (w, .inr (9, [.int 0, .ref w_se, .ref w_cu, .ref w_pr, .int 0, .ref w_ch, .ref w_re, .ref w_lo])), (ov, .inl (ct 1, 1, .inr (.inl f)))] sz)) 1 6 (va_A [(x, .inr (10, [.ref w, .ref sp, .ref sv, .ref bu, .int 0, .int 0])), (w, .inr (9, [.int 0, .ref w_se, .ref w_cu, .ref w_pr, .int 0, .ref w_ch, .ref w_re, .ref w_lo])), (ov, .inl (ct 1, 1, .inr (.inl f)))] sz) := by
  refine va_MetW (cc := cL_shortest) (maxL := 4) (ret := (some .int)) (hh := [(0, 9, 12, 32)]) (by decide) rfl ?_
  intro p e s m args below meth c s₁ B hml hv
  have hts0 := atoms_spec (ws := wsw_ yL_shortest cL_shortest 4 (some .int) [(0, 9, 12, 32)]) B.pre
  have hts : ∀ w ∈ cm_all, w.before args s = true := fun w h => hts0 w (List.mem_cons_of_mem _ h)
  obtain ⟨rfl, hsz, hP, hK, hD0, hX⟩ := hv
  have hx := B.exec
  have hb := B.bytes
  have hr := B.returns
  have htab := vx_table (x := yL_shortest) B (hts0 _ List.mem_cons_self)
  have hown : s.vm.findClass RL = some m.cls := findClass_of_methodNamed B.named
  have hlocks := B.notSynchronized
  subst hsz
  have hD := hD0.self (sz := s.heap.size)
  generalize hAe : va_A [(x, .inr (10, [.ref w, .ref sp, .ref sv, .ref bu, .int 0, .int 0])), (w, .inr (9, [.int 0, .ref w_se, .ref w_cu, .ref w_pr, .int 0, .ref w_ch, .ref w_re, .ref w_lo])), (ov, .inl (ct 1, 1, .inr (.inl f)))] s.heap.size = A at hD hX ⊢
  have hA : ∀ q : Nat, s.heap.size ≤ q → A q := fun q h => by rw [← hAe]; exact Or.inr h
  have hS : va_S A s.heap s.heap [] := va_S.rf
  have hl := lv_entry ([.ref x, .int p1, .ref ov]) (n := 4) (Nat.le_of_ble_eq_true rfl)
  rw [lg_entry_eq]
  generalize (lg_sl ([.ref x, .int p1, .ref ov]) ++ List.replicate (4 - (lg_sl ([.ref x, .int p1, .ref ov])).length) Slot.unset).toArray = ls at hl ⊢
  have hl : lv_has ls 4 [(0, .ref x), (1, .int p1), (2, .ref ov)] := hl
  refine lv_aload_n hx hb dL_shortest_0 rfl (lv_at hl 2 rfl) ?_
  refine lv_iconst (v := 0) hx hb dL_shortest_1 (by decide) ?_
  refine lv_aload_n hx hb dL_shortest_2 rfl (lv_at hl 0 rfl) ?_
  refine lv_iload_n hx hb dL_shortest_3 rfl (lv_at hl 1 rfl) ?_
  refine cm_xi (wr := [(ov, .inl (ct 1, 1, .inr (.inl f)))]) (vx_runV (As := [.int p1]) (rest := [.int 0, .ref ov]) ⟨hx, hb, hml, hown, hts⟩ (c_shortest_0 l hfl D ct x w sp sv bu w_se w_cu w_pr w_ch w_re w_lo p1 _) (cm_V 1 hts kc_X10_shortest ki_RX10 kl_RL_157 kv_X10_shortest kx_X10_shortest kd_X10_shortest ⟨Nat.le_of_ble_eq_true rfl, Nat.le_of_ble_eq_true rfl⟩) (cm_preV hP hK hD hS hA hX [0, 1] rfl rfl rfl (q0 := 0) (ci := 10) rfl rfl) rfl rfl hl.1 rfl (lv_room (Nat.le_of_ble_eq_true rfl)) dL_shortest_4 ⟨Nat.le_of_ble_eq_true rfl, Nat.le_of_ble_eq_true rfl⟩) hP hD hS hA [0, 1] [2] rfl rfl rfl (by decide) (fun E ce q9 u H locs hu hE hP hD hS hce hcv hcl => ?_) (fun r_1 u H locs hw_2 hP hD hS => ?_)
  · subst hE
    have hP : va_P D vwCl [(ov, .inl (ct 1, 1, .inr (.inl f))), (x, .inr (10, [.ref w, .ref sp, .ref sv, .ref bu, .int 0, .int 0])), (w, .inr (9, [.int 0, .ref w_se, .ref w_cu, .ref w_pr, .int 0, .ref w_ch, .ref w_re, .ref w_lo]))] H := hP
    have hD : va_D A [(ov, .inl (ct 1, 1, .inr (.inl f))), (x, .inr (10, [.ref w, .ref sp, .ref sv, .ref bu, .int 0, .int 0])), (w, .inr (9, [.int 0, .ref w_se, .ref w_cu, .ref w_pr, .int 0, .ref w_ch, .ref w_re, .ref w_lo]))] := hD
    refine vx_catch (name := "java/lang/IndexOutOfBoundsException") hown [] _ _ htab (fun z hz => absurd hz List.not_mem_nil) (by decide) (by decide) (hts _ kl_RL_32) (hts _ kcast_IOE) hce hcv hcl ?_
    refine W.eq (g2 := F0 m 12 ls [.ref q9]) rfl ?_
    refine lv_astore_n (lv' := [(3, .ref q9), (0, .ref x), (1, .int p1), (2, .ref ov)]) hx hb dL_shortest_12 rfl hl (by decide) rfl (fun ls hl => ?_)
    refine lv_iconst (v := 1) hx hb dL_shortest_13 (by decide) ?_
    have hP9 := hP.sub (ws' := []) [] rfl
    have hD9 := hD.sub (ws' := []) [] (by decide) rfl
    exact W.iret (v := 1) hx hb hr (fun t ht hW => ⟨⟨1, (), rfl, rfl, by rw [ht]; exact hP9, by rw [hAe]; exact hD9⟩, hS.F ht⟩) hS.2.2 dL_shortest_14
  · exact hw_2.elim
theorem dL_capacityIf_0 : decode cL_capacityIf 0 = .ok (.aload_n 3, 1) := by decide +kernel
theorem dL_capacityIf_1 : decode cL_capacityIf 1 = .ok (.iconst 0, 1) := by decide +kernel
theorem dL_capacityIf_2 : decode cL_capacityIf 2 = .ok (.aload_n 0, 1) := by decide +kernel
theorem dL_capacityIf_3 : decode cL_capacityIf 3 = .ok (.iload_n 1, 1) := by decide +kernel
theorem dL_capacityIf_4 : decode cL_capacityIf 4 = .ok (.iload_n 2, 1) := by decide +kernel
theorem dL_capacityIf_5 : decode cL_capacityIf 5 = .ok (.invokevirtual 160, 3) := by decide +kernel
theorem dL_capacityIf_13 : decode cL_capacityIf 13 = .ok (.astore 4, 2) := by decide +kernel
theorem dL_capacityIf_15 : decode cL_capacityIf 15 = .ok (.iconst 1, 1) := by decide +kernel
theorem dL_capacityIf_16 : decode cL_capacityIf 16 = .ok (.ireturn, 1) := by decide +kernel
set_option maxRecDepth 100000 in
set_option maxHeartbeats 4000000 in
theorem l_capacityIf (l : Launch) (hfl : l.stackTraces = false) (D : va_G) (ct : Nat → ClassId) (x : Nat) (w : Nat) (sp : Nat) (sv : Nat) (bu : Nat) (w_se : Nat) (w_cu : Nat) (w_pr : Nat) (w_ch : Nat) (w_re : Nat) (w_lo : Nat) (ov : Nat) (f : Nat → Int64) (p1 : Int32) (p2 : Int32) (sz : Nat) : Met l yL_capacityIf (wsw_ yL_capacityIf cL_capacityIf 5 (some .int) [(0, 10, 13, 32)]) ({ frames := 8, cells := 1, slots := 6, locals := 135 } : Room) (va_Pc [.ref x, .int p1, .int p2, .ref ov] (cmP D ct sz [(x, .inr (10, [.ref w, .ref sp, .ref sv, .ref bu, .int 0, .int 0])), (w, .inr (9, [.int 0, .ref w_se, .ref w_cu, .ref w_pr, .int 0, .ref w_ch, .ref w_re, .ref w_lo])), (ov, .inl (ct 1, 1, .inr (.inl f)))])) (va_Qi (fun (r : Int32) (_ : Unit) => r = 1) (cmB D [(x, .inr (10, [.ref w, .ref sp, .ref sv, .ref bu, .int 0, .int 0])), (w, .inr (9, [.int 0, .ref w_se, .ref w_cu, .ref w_pr, .int 0, .ref w_ch, .ref w_re, .ref w_lo])), (ov, .inl (ct 1, 1, .inr (.inl f)))] sz (fun _ : Unit => [])) (va_A [(x, .inr (10, [.ref w, .ref sp, .ref sv, .ref bu, .int 0, .int 0])), (w, .inr (9, [.int 0, .ref w_se, .ref w_cu, .ref w_pr, .int 0, .ref w_ch, .ref w_re, .ref w_lo])), (ov, .inl (ct 1, 1, .inr (.inl f)))] sz)) 1 6 (va_A [(x, .inr (10, [.ref w, .ref sp, .ref sv, .ref bu, .int 0, .int 0])), (w, .inr (9, [.int 0, .ref w_se, .ref w_cu, .ref w_pr, .int 0, .ref w_ch, .ref w_re, .ref w_lo])), (ov, .inl (ct 1, 1, .inr (.inl f)))] sz) := by
  refine va_MetW (cc := cL_capacityIf) (maxL := 5) (ret := (some .int)) (hh := [(0, 10, 13, 32)]) (by decide) rfl ?_
  intro p e s m args below meth c s₁ B hml hv
  have hts0 := atoms_spec (ws := wsw_ yL_capacityIf cL_capacityIf 5 (some .int) [(0, 10, 13, 32)]) B.pre
  have hts : ∀ w ∈ cm_all, w.before args s = true := fun w h => hts0 w (List.mem_cons_of_mem _ h)
  obtain ⟨rfl, hsz, hP, hK, hD0, hX⟩ := hv
  have hx := B.exec
  have hb := B.bytes
  have hr := B.returns
  have htab := vx_table (x := yL_capacityIf) B (hts0 _ List.mem_cons_self)
  have hown : s.vm.findClass RL = some m.cls := findClass_of_methodNamed B.named
  have hlocks := B.notSynchronized
  subst hsz
  have hD := hD0.self (sz := s.heap.size)
  generalize hAe : va_A [(x, .inr (10, [.ref w, .ref sp, .ref sv, .ref bu, .int 0, .int 0])), (w, .inr (9, [.int 0, .ref w_se, .ref w_cu, .ref w_pr, .int 0, .ref w_ch, .ref w_re, .ref w_lo])), (ov, .inl (ct 1, 1, .inr (.inl f)))] s.heap.size = A at hD hX ⊢
  have hA : ∀ q : Nat, s.heap.size ≤ q → A q := fun q h => by rw [← hAe]; exact Or.inr h
  have hS : va_S A s.heap s.heap [] := va_S.rf
  have hl := lv_entry ([.ref x, .int p1, .int p2, .ref ov]) (n := 5) (Nat.le_of_ble_eq_true rfl)
  rw [lg_entry_eq]
  generalize (lg_sl ([.ref x, .int p1, .int p2, .ref ov]) ++ List.replicate (5 - (lg_sl ([.ref x, .int p1, .int p2, .ref ov])).length) Slot.unset).toArray = ls at hl ⊢
  have hl : lv_has ls 5 [(0, .ref x), (1, .int p1), (2, .int p2), (3, .ref ov)] := hl
  refine lv_aload_n hx hb dL_capacityIf_0 rfl (lv_at hl 3 rfl) ?_
  refine lv_iconst (v := 0) hx hb dL_capacityIf_1 (by decide) ?_
  refine lv_aload_n hx hb dL_capacityIf_2 rfl (lv_at hl 0 rfl) ?_
  refine lv_iload_n hx hb dL_capacityIf_3 rfl (lv_at hl 1 rfl) ?_
  refine lv_iload_n hx hb dL_capacityIf_4 rfl (lv_at hl 2 rfl) ?_
  refine cm_xi (wr := [(ov, .inl (ct 1, 1, .inr (.inl f)))]) (vx_runV (As := [.int p1, .int p2]) (rest := [.int 0, .ref ov]) ⟨hx, hb, hml, hown, hts⟩ (c_capacityIf_0 l hfl D ct x w sp sv bu w_se w_cu w_pr w_ch w_re w_lo p1 p2 _) (cm_V 2 hts kc_X10_capacityIf ki_RX10 kl_RL_160 kv_X10_capacityIf kx_X10_capacityIf kd_X10_capacityIf ⟨Nat.le_of_ble_eq_true rfl, Nat.le_of_ble_eq_true rfl⟩) (cm_preV hP hK hD hS hA hX [0, 1] rfl rfl rfl (q0 := 0) (ci := 10) rfl rfl) rfl rfl hl.1 rfl (lv_room (Nat.le_of_ble_eq_true rfl)) dL_capacityIf_5 ⟨Nat.le_of_ble_eq_true rfl, Nat.le_of_ble_eq_true rfl⟩) hP hD hS hA [0, 1] [2] rfl rfl rfl (by decide) (fun E ce q9 u H locs hu hE hP hD hS hce hcv hcl => ?_) (fun r_1 u H locs hw_2 hP hD hS => ?_)
  · subst hE
    have hP : va_P D vwCl [(ov, .inl (ct 1, 1, .inr (.inl f))), (x, .inr (10, [.ref w, .ref sp, .ref sv, .ref bu, .int 0, .int 0])), (w, .inr (9, [.int 0, .ref w_se, .ref w_cu, .ref w_pr, .int 0, .ref w_ch, .ref w_re, .ref w_lo]))] H := hP
    have hD : va_D A [(ov, .inl (ct 1, 1, .inr (.inl f))), (x, .inr (10, [.ref w, .ref sp, .ref sv, .ref bu, .int 0, .int 0])), (w, .inr (9, [.int 0, .ref w_se, .ref w_cu, .ref w_pr, .int 0, .ref w_ch, .ref w_re, .ref w_lo]))] := hD
    refine vx_catch (name := "java/lang/IndexOutOfBoundsException") hown [] _ _ htab (fun z hz => absurd hz List.not_mem_nil) (by decide) (by decide) (hts _ kl_RL_32) (hts _ kcast_IOE) hce hcv hcl ?_
    refine W.eq (g2 := F0 m 13 ls [.ref q9]) rfl ?_
    refine lv_astore (lv' := [(4, .ref q9), (0, .ref x), (1, .int p1), (2, .int p2), (3, .ref ov)]) hx hb dL_capacityIf_13 hl (by decide) rfl (fun ls hl => ?_)
    refine lv_iconst (v := 1) hx hb dL_capacityIf_15 (by decide) ?_
    have hP9 := hP.sub (ws' := []) [] rfl
    have hD9 := hD.sub (ws' := []) [] (by decide) rfl
    exact W.iret (v := 1) hx hb hr (fun t ht hW => ⟨⟨1, (), rfl, rfl, by rw [ht]; exact hP9, by rw [hAe]; exact hD9⟩, hS.F ht⟩) hS.2.2 dL_capacityIf_16
  · exact hw_2.elim
theorem dL_safeCurrent_0 : decode cL_safeCurrent 0 = .ok (.aload_n 3, 1) := by decide +kernel
theorem dL_safeCurrent_1 : decode cL_safeCurrent 1 = .ok (.iconst 0, 1) := by decide +kernel
theorem dL_safeCurrent_2 : decode cL_safeCurrent 2 = .ok (.aload_n 0, 1) := by decide +kernel
theorem dL_safeCurrent_3 : decode cL_safeCurrent 3 = .ok (.iload_n 1, 1) := by decide +kernel
theorem dL_safeCurrent_4 : decode cL_safeCurrent 4 = .ok (.iload_n 2, 1) := by decide +kernel
theorem dL_safeCurrent_5 : decode cL_safeCurrent 5 = .ok (.invokevirtual 163, 3) := by decide +kernel
theorem dL_safeCurrent_13 : decode cL_safeCurrent 13 = .ok (.astore 4, 2) := by decide +kernel
theorem dL_safeCurrent_15 : decode cL_safeCurrent 15 = .ok (.iconst 1, 1) := by decide +kernel
theorem dL_safeCurrent_16 : decode cL_safeCurrent 16 = .ok (.ireturn, 1) := by decide +kernel
set_option maxRecDepth 100000 in
set_option maxHeartbeats 4000000 in
theorem l_safeCurrent (l : Launch) (hfl : l.stackTraces = false) (D : va_G) (ct : Nat → ClassId) (x : Nat) (w : Nat) (sp : Nat) (sv : Nat) (bu : Nat) (w_se : Nat) (w_cu : Nat) (w_pr : Nat) (w_ch : Nat) (w_re : Nat) (w_lo : Nat) (ov : Nat) (f : Nat → Int64) (p1 : Int32) (p2 : Int32) (sz : Nat) : Met l yL_safeCurrent (wsw_ yL_safeCurrent cL_safeCurrent 5 (some .int) [(0, 10, 13, 32), (0, 10, 17, 13)]) ({ frames := 8, cells := 1, slots := 6, locals := 137 } : Room) (va_Pc [.ref x, .int p1, .int p2, .ref ov] (cmP D ct sz [(x, .inr (10, [.ref w, .ref sp, .ref sv, .ref bu, .int 0, .int 0])), (w, .inr (9, [.int 0, .ref w_se, .ref w_cu, .ref w_pr, .int 0, .ref w_ch, .ref w_re, .ref w_lo])), (ov, .inl (ct 1, 1, .inr (.inl f)))])) (va_Qi (fun (r : Int32) (_ : Unit) => r = 1) (cmB D [(x, .inr (10, [.ref w, .ref sp, .ref sv, .ref bu, .int 0, .int 0])), (w, .inr (9, [.int 0, .ref w_se, .ref w_cu, .ref w_pr, .int 0, .ref w_ch, .ref w_re, .ref w_lo])), (ov, .inl (ct 1, 1, .inr (.inl f)))] sz (fun _ : Unit => [])) (va_A [(x, .inr (10, [.ref w, .ref sp, .ref sv, .ref bu, .int 0, .int 0])), (w, .inr (9, [.int 0, .ref w_se, .ref w_cu, .ref w_pr, .int 0, .ref w_ch, .ref w_re, .ref w_lo])), (ov, .inl (ct 1, 1, .inr (.inl f)))] sz)) 1 6 (va_A [(x, .inr (10, [.ref w, .ref sp, .ref sv, .ref bu, .int 0, .int 0])), (w, .inr (9, [.int 0, .ref w_se, .ref w_cu, .ref w_pr, .int 0, .ref w_ch, .ref w_re, .ref w_lo])), (ov, .inl (ct 1, 1, .inr (.inl f)))] sz) := by
  refine va_MetW (cc := cL_safeCurrent) (maxL := 5) (ret := (some .int)) (hh := [(0, 10, 13, 32), (0, 10, 17, 13)]) (by decide) rfl ?_
  intro p e s m args below meth c s₁ B hml hv
  have hts0 := atoms_spec (ws := wsw_ yL_safeCurrent cL_safeCurrent 5 (some .int) [(0, 10, 13, 32), (0, 10, 17, 13)]) B.pre
  have hts : ∀ w ∈ cm_all, w.before args s = true := fun w h => hts0 w (List.mem_cons_of_mem _ h)
  obtain ⟨rfl, hsz, hP, hK, hD0, hX⟩ := hv
  have hx := B.exec
  have hb := B.bytes
  have hr := B.returns
  have htab := vx_table (x := yL_safeCurrent) B (hts0 _ List.mem_cons_self)
  have hown : s.vm.findClass RL = some m.cls := findClass_of_methodNamed B.named
  have hlocks := B.notSynchronized
  subst hsz
  have hD := hD0.self (sz := s.heap.size)
  generalize hAe : va_A [(x, .inr (10, [.ref w, .ref sp, .ref sv, .ref bu, .int 0, .int 0])), (w, .inr (9, [.int 0, .ref w_se, .ref w_cu, .ref w_pr, .int 0, .ref w_ch, .ref w_re, .ref w_lo])), (ov, .inl (ct 1, 1, .inr (.inl f)))] s.heap.size = A at hD hX ⊢
  have hA : ∀ q : Nat, s.heap.size ≤ q → A q := fun q h => by rw [← hAe]; exact Or.inr h
  have hS : va_S A s.heap s.heap [] := va_S.rf
  have hl := lv_entry ([.ref x, .int p1, .int p2, .ref ov]) (n := 5) (Nat.le_of_ble_eq_true rfl)
  rw [lg_entry_eq]
  generalize (lg_sl ([.ref x, .int p1, .int p2, .ref ov]) ++ List.replicate (5 - (lg_sl ([.ref x, .int p1, .int p2, .ref ov])).length) Slot.unset).toArray = ls at hl ⊢
  have hl : lv_has ls 5 [(0, .ref x), (1, .int p1), (2, .int p2), (3, .ref ov)] := hl
  refine lv_aload_n hx hb dL_safeCurrent_0 rfl (lv_at hl 3 rfl) ?_
  refine lv_iconst (v := 0) hx hb dL_safeCurrent_1 (by decide) ?_
  refine lv_aload_n hx hb dL_safeCurrent_2 rfl (lv_at hl 0 rfl) ?_
  refine lv_iload_n hx hb dL_safeCurrent_3 rfl (lv_at hl 1 rfl) ?_
  refine lv_iload_n hx hb dL_safeCurrent_4 rfl (lv_at hl 2 rfl) ?_
  refine cm_xi (wr := [(ov, .inl (ct 1, 1, .inr (.inl f)))]) (vx_runV (As := [.int p1, .int p2]) (rest := [.int 0, .ref ov]) ⟨hx, hb, hml, hown, hts⟩ (c_safeCurrent_0 l hfl D ct x w sp sv bu w_se w_cu w_pr w_ch w_re w_lo p1 p2 _) (cm_V 2 hts kc_X10_safeCurrent ki_RX10 kl_RL_163 kv_X10_safeCurrent kx_X10_safeCurrent kd_X10_safeCurrent ⟨Nat.le_of_ble_eq_true rfl, Nat.le_of_ble_eq_true rfl⟩) (cm_preV hP hK hD hS hA hX [0, 1] rfl rfl rfl (q0 := 0) (ci := 10) rfl rfl) rfl rfl hl.1 rfl (lv_room (Nat.le_of_ble_eq_true rfl)) dL_safeCurrent_5 ⟨Nat.le_of_ble_eq_true rfl, Nat.le_of_ble_eq_true rfl⟩) hP hD hS hA [0, 1] [2] rfl rfl rfl (by decide) (fun E ce q9 u H locs hu hE hP hD hS hce hcv hcl => ?_) (fun r_1 u H locs hw_2 hP hD hS => ?_)
  · subst hE
    have hP : va_P D vwCl [(ov, .inl (ct 1, 1, .inr (.inl f))), (x, .inr (10, [.ref w, .ref sp, .ref sv, .ref bu, .int 0, .int 0])), (w, .inr (9, [.int 0, .ref w_se, .ref w_cu, .ref w_pr, .int 0, .ref w_ch, .ref w_re, .ref w_lo]))] H := hP
    have hD : va_D A [(ov, .inl (ct 1, 1, .inr (.inl f))), (x, .inr (10, [.ref w, .ref sp, .ref sv, .ref bu, .int 0, .int 0])), (w, .inr (9, [.int 0, .ref w_se, .ref w_cu, .ref w_pr, .int 0, .ref w_ch, .ref w_re, .ref w_lo]))] := hD
    refine vx_catch (name := "java/lang/IndexOutOfBoundsException") hown [] _ _ htab (fun z hz => absurd hz List.not_mem_nil) (by decide) (by decide) (hts _ kl_RL_32) (hts _ kcast_IOE) hce hcv hcl ?_
    refine W.eq (g2 := F0 m 13 ls [.ref q9]) rfl ?_
    refine lv_astore (lv' := [(4, .ref q9), (0, .ref x), (1, .int p1), (2, .int p2), (3, .ref ov)]) hx hb dL_safeCurrent_13 hl (by decide) rfl (fun ls hl => ?_)
    refine lv_iconst (v := 1) hx hb dL_safeCurrent_15 (by decide) ?_
    have hP9 := hP.sub (ws' := []) [] rfl
    have hD9 := hD.sub (ws' := []) [] (by decide) rfl
    exact W.iret (v := 1) hx hb hr (fun t ht hW => ⟨⟨1, (), rfl, rfl, by rw [ht]; exact hP9, by rw [hAe]; exact hD9⟩, hS.F ht⟩) hS.2.2 dL_safeCurrent_16
  · exact hw_2.elim
theorem dL_stepValue_0 : decode cL_stepValue 0 = .ok (.aload 4, 2) := by decide +kernel
theorem dL_stepValue_2 : decode cL_stepValue 2 = .ok (.iconst 0, 1) := by decide +kernel
theorem dL_stepValue_3 : decode cL_stepValue 3 = .ok (.aload_n 0, 1) := by decide +kernel
theorem dL_stepValue_4 : decode cL_stepValue 4 = .ok (.iload_n 1, 1) := by decide +kernel
theorem dL_stepValue_5 : decode cL_stepValue 5 = .ok (.iload_n 2, 1) := by decide +kernel
theorem dL_stepValue_6 : decode cL_stepValue 6 = .ok (.iload_n 3, 1) := by decide +kernel
theorem dL_stepValue_7 : decode cL_stepValue 7 = .ok (.invokevirtual 28, 3) := by decide +kernel
theorem dL_stepValue_15 : decode cL_stepValue 15 = .ok (.astore 5, 2) := by decide +kernel
theorem dL_stepValue_17 : decode cL_stepValue 17 = .ok (.iconst 1, 1) := by decide +kernel
theorem dL_stepValue_18 : decode cL_stepValue 18 = .ok (.ireturn, 1) := by decide +kernel
set_option maxRecDepth 100000 in
set_option maxHeartbeats 4000000 in
theorem l_stepValue (l : Launch) (hfl : l.stackTraces = false) (D : va_G) (ct : Nat → ClassId) (x : Nat) (w : Nat) (sp : Nat) (sv : Nat) (bu : Nat) (w_se : Nat) (w_cu : Nat) (w_pr : Nat) (w_ch : Nat) (w_re : Nat) (w_lo : Nat) (w_p1 : Nat) (w_p2 : Nat) (w_p3 : Nat) (w_p4 : Nat) (ov : Nat) (f : Nat → Int64) (p1 : Int32) (p2 : Int32) (p3 : Int32) (sz : Nat) : Met l yL_stepValue (wsw_ yL_stepValue cL_stepValue 6 (some .int) [(0, 12, 15, 32), (0, 12, 19, 13)]) ({ frames := 8, cells := 1, slots := 6, locals := 134 } : Room) (va_Pc [.ref x, .int p1, .int p2, .int p3, .ref ov] (cmP D ct sz [(x, .inr (10, [.ref w, .ref sp, .ref sv, .ref bu, .int 0, .int 0])), (w, .inr (9, [.int 0, .ref w_se, .ref w_cu, .ref w_pr, .int 0, .ref w_ch, .ref w_re, .ref w_lo])), (w_pr, .inr (5, [.int 0, .ref w_p1, .ref w_p2, .ref w_p3, .ref w_p4])), (ov, .inl (ct 1, 1, .inr (.inl f)))])) (va_Qi (fun (r : Int32) (_ : Unit) => r = 1) (cmB D [(x, .inr (10, [.ref w, .ref sp, .ref sv, .ref bu, .int 0, .int 0])), (w, .inr (9, [.int 0, .ref w_se, .ref w_cu, .ref w_pr, .int 0, .ref w_ch, .ref w_re, .ref w_lo])), (w_pr, .inr (5, [.int 0, .ref w_p1, .ref w_p2, .ref w_p3, .ref w_p4])), (ov, .inl (ct 1, 1, .inr (.inl f)))] sz (fun _ : Unit => [])) (va_A [(x, .inr (10, [.ref w, .ref sp, .ref sv, .ref bu, .int 0, .int 0])), (w, .inr (9, [.int 0, .ref w_se, .ref w_cu, .ref w_pr, .int 0, .ref w_ch, .ref w_re, .ref w_lo])), (w_pr, .inr (5, [.int 0, .ref w_p1, .ref w_p2, .ref w_p3, .ref w_p4])), (ov, .inl (ct 1, 1, .inr (.inl f)))] sz)) 1 6 (va_A [(x, .inr (10, [.ref w, .ref sp, .ref sv, .ref bu, .int 0, .int 0])), (w, .inr (9, [.int 0, .ref w_se, .ref w_cu, .ref w_pr, .int 0, .ref w_ch, .ref w_re, .ref w_lo])), (w_pr, .inr (5, [.int 0, .ref w_p1, .ref w_p2, .ref w_p3, .ref w_p4])), (ov, .inl (ct 1, 1, .inr (.inl f)))] sz) := by
  refine va_MetW (cc := cL_stepValue) (maxL := 6) (ret := (some .int)) (hh := [(0, 12, 15, 32), (0, 12, 19, 13)]) (by decide) rfl ?_
  intro p e s m args below meth c s₁ B hml hv
  have hts0 := atoms_spec (ws := wsw_ yL_stepValue cL_stepValue 6 (some .int) [(0, 12, 15, 32), (0, 12, 19, 13)]) B.pre
  have hts : ∀ w ∈ cm_all, w.before args s = true := fun w h => hts0 w (List.mem_cons_of_mem _ h)
  obtain ⟨rfl, hsz, hP, hK, hD0, hX⟩ := hv
  have hx := B.exec
  have hb := B.bytes
  have hr := B.returns
  have htab := vx_table (x := yL_stepValue) B (hts0 _ List.mem_cons_self)
  have hown : s.vm.findClass RL = some m.cls := findClass_of_methodNamed B.named
  have hlocks := B.notSynchronized
  subst hsz
  have hD := hD0.self (sz := s.heap.size)
  generalize hAe : va_A [(x, .inr (10, [.ref w, .ref sp, .ref sv, .ref bu, .int 0, .int 0])), (w, .inr (9, [.int 0, .ref w_se, .ref w_cu, .ref w_pr, .int 0, .ref w_ch, .ref w_re, .ref w_lo])), (w_pr, .inr (5, [.int 0, .ref w_p1, .ref w_p2, .ref w_p3, .ref w_p4])), (ov, .inl (ct 1, 1, .inr (.inl f)))] s.heap.size = A at hD hX ⊢
  have hA : ∀ q : Nat, s.heap.size ≤ q → A q := fun q h => by rw [← hAe]; exact Or.inr h
  have hS : va_S A s.heap s.heap [] := va_S.rf
  have hl := lv_entry ([.ref x, .int p1, .int p2, .int p3, .ref ov]) (n := 6) (Nat.le_of_ble_eq_true rfl)
  rw [lg_entry_eq]
  generalize (lg_sl ([.ref x, .int p1, .int p2, .int p3, .ref ov]) ++ List.replicate (6 - (lg_sl ([.ref x, .int p1, .int p2, .int p3, .ref ov])).length) Slot.unset).toArray = ls at hl ⊢
  have hl : lv_has ls 6 [(0, .ref x), (1, .int p1), (2, .int p2), (3, .int p3), (4, .ref ov)] := hl
  refine lv_aload hx hb dL_stepValue_0 (lv_at hl 4 rfl) ?_
  refine lv_iconst (v := 0) hx hb dL_stepValue_2 (by decide) ?_
  refine lv_aload_n hx hb dL_stepValue_3 rfl (lv_at hl 0 rfl) ?_
  refine lv_iload_n hx hb dL_stepValue_4 rfl (lv_at hl 1 rfl) ?_
  refine lv_iload_n hx hb dL_stepValue_5 rfl (lv_at hl 2 rfl) ?_
  refine lv_iload_n hx hb dL_stepValue_6 rfl (lv_at hl 3 rfl) ?_
  refine cm_xi (wr := [(ov, .inl (ct 1, 1, .inr (.inl f)))]) (vx_runV (As := [.int p1, .int p2, .int p3]) (rest := [.int 0, .ref ov]) ⟨hx, hb, hml, hown, hts⟩ (c_stepValue_0 l hfl D ct x w sp sv bu w_se w_cu w_pr w_ch w_re w_lo w_p1 w_p2 w_p3 w_p4 p1 p2 p3 _) (cm_V 3 hts kc_X10_stepValue ki_RX10 kl_RL_28 kv_X10_stepValue kx_X10_stepValue kd_X10_stepValue ⟨Nat.le_of_ble_eq_true rfl, Nat.le_of_ble_eq_true rfl⟩) (cm_preV hP hK hD hS hA hX [0, 1, 2] rfl rfl rfl (q0 := 0) (ci := 10) rfl rfl) rfl rfl hl.1 rfl (lv_room (Nat.le_of_ble_eq_true rfl)) dL_stepValue_7 ⟨Nat.le_of_ble_eq_true rfl, Nat.le_of_ble_eq_true rfl⟩) hP hD hS hA [0, 1, 2] [3] rfl rfl rfl (by decide) (fun E ce q9 u H locs hu hE hP hD hS hce hcv hcl => ?_) (fun r_1 u H locs hw_2 hP hD hS => ?_)
  · subst hE
    have hP : va_P D vwCl [(ov, .inl (ct 1, 1, .inr (.inl f))), (x, .inr (10, [.ref w, .ref sp, .ref sv, .ref bu, .int 0, .int 0])), (w, .inr (9, [.int 0, .ref w_se, .ref w_cu, .ref w_pr, .int 0, .ref w_ch, .ref w_re, .ref w_lo])), (w_pr, .inr (5, [.int 0, .ref w_p1, .ref w_p2, .ref w_p3, .ref w_p4]))] H := hP
    have hD : va_D A [(ov, .inl (ct 1, 1, .inr (.inl f))), (x, .inr (10, [.ref w, .ref sp, .ref sv, .ref bu, .int 0, .int 0])), (w, .inr (9, [.int 0, .ref w_se, .ref w_cu, .ref w_pr, .int 0, .ref w_ch, .ref w_re, .ref w_lo])), (w_pr, .inr (5, [.int 0, .ref w_p1, .ref w_p2, .ref w_p3, .ref w_p4]))] := hD
    refine vx_catch (name := "java/lang/IndexOutOfBoundsException") hown [] _ _ htab (fun z hz => absurd hz List.not_mem_nil) (by decide) (by decide) (hts _ kl_RL_32) (hts _ kcast_IOE) hce hcv hcl ?_
    refine W.eq (g2 := F0 m 15 ls [.ref q9]) rfl ?_
    refine lv_astore (lv' := [(5, .ref q9), (0, .ref x), (1, .int p1), (2, .int p2), (3, .int p3), (4, .ref ov)]) hx hb dL_stepValue_15 hl (by decide) rfl (fun ls hl => ?_)
    refine lv_iconst (v := 1) hx hb dL_stepValue_17 (by decide) ?_
    have hP9 := hP.sub (ws' := []) [] rfl
    have hD9 := hD.sub (ws' := []) [] (by decide) rfl
    exact W.iret (v := 1) hx hb hr (fun t ht hW => ⟨⟨1, (), rfl, rfl, by rw [ht]; exact hP9, by rw [hAe]; exact hD9⟩, hS.F ht⟩) hS.2.2 dL_stepValue_18
  · exact hw_2.elim
theorem dL_stepEndsIn_0 : decode cL_stepEndsIn 0 = .ok (.aload_n 2, 1) := by decide +kernel
theorem dL_stepEndsIn_1 : decode cL_stepEndsIn 1 = .ok (.iconst 0, 1) := by decide +kernel
theorem dL_stepEndsIn_2 : decode cL_stepEndsIn 2 = .ok (.aload_n 0, 1) := by decide +kernel
theorem dL_stepEndsIn_3 : decode cL_stepEndsIn 3 = .ok (.iload_n 1, 1) := by decide +kernel
theorem dL_stepEndsIn_4 : decode cL_stepEndsIn 4 = .ok (.invokevirtual 136, 3) := by decide +kernel
theorem dL_stepEndsIn_12 : decode cL_stepEndsIn 12 = .ok (.astore_n 3, 1) := by decide +kernel
theorem dL_stepEndsIn_13 : decode cL_stepEndsIn 13 = .ok (.iconst 1, 1) := by decide +kernel
theorem dL_stepEndsIn_14 : decode cL_stepEndsIn 14 = .ok (.ireturn, 1) := by decide +kernel
set_option maxRecDepth 100000 in
set_option maxHeartbeats 4000000 in
theorem l_stepEndsIn (l : Launch) (hfl : l.stackTraces = false) (D : va_G) (ct : Nat → ClassId) (x : Nat) (w : Nat) (sp : Nat) (sv : Nat) (bu : Nat) (s_se : Nat) (s_cu : Nat) (s_pr : Nat) (s_ch : Nat) (s_re : Nat) (s_lo : Nat) (s_c1 : Nat) (s_c2 : Nat) (s_c3 : Nat) (s_p1 : Nat) (s_p2 : Nat) (s_p3 : Nat) (s_p4 : Nat) (s_ra : Nat) (s_la : Nat) (w_se : Nat) (w_cu : Nat) (w_pr : Nat) (w_ch : Nat) (w_re : Nat) (w_lo : Nat) (w_c1 : Nat) (w_c2 : Nat) (w_c3 : Nat) (w_p1 : Nat) (w_p2 : Nat) (w_p3 : Nat) (w_p4 : Nat) (w_ra : Nat) (w_la : Nat) (ov : Nat) (f : Nat → Int64) (p1 : Int32) (sz : Nat) : Met l yL_stepEndsIn (wsw_ yL_stepEndsIn cL_stepEndsIn 4 (some .int) [(0, 9, 12, 32)]) ({ frames := 8, cells := 1, slots := 6, locals := 191 } : Room) (va_Pc [.ref x, .int p1, .ref ov] (cmP D ct sz [(x, .inr (10, [.ref w, .ref sp, .ref sv, .ref bu, .int 0, .int 0])), (sp, .inr (9, [.int 0, .ref s_se, .ref s_cu, .ref s_pr, .int 0, .ref s_ch, .ref s_re, .ref s_lo])), (s_se, .inr (7, [.int 990, .int 100000, .int 100, .int 5, .int 0, .int 5000, .int 600, .int 250, .int 0, .int 5000, .int 1000, .int 0])), (s_cu, .inr (2, [.int 0, .ref s_c1, .ref s_c2, .ref s_c3])), (s_c1, .inl (ct 1, 4, .inr (.inl (fun _ => 0)))), (s_c2, .inl (ct 0, 4, .inl (fun _ => 0))), (s_c3, .inl (ct 0, 44, .inl (fun _ => 0))), (s_pr, .inr (5, [.int 0, .ref s_p1, .ref s_p2, .ref s_p3, .ref s_p4])), (s_p1, .inl (ct 0, 4, .inl (fun _ => 0))), (s_p2, .inl (ct 0, 48, .inl (fun _ => 0))), (s_p3, .inl (ct 0, 48, .inl (fun _ => 0))), (s_p4, .inl (ct 0, 48, .inl (fun _ => 0))), (s_re, .inr (8, [.int 30, .int 5, .ref s_ra, .int 0, .int 0])), (s_ra, .inl (ct 0, 150, .inl (fun _ => 0))), (s_lo, .inr (8, [.int 60, .int 4, .ref s_la, .int 0, .int 0])), (s_la, .inl (ct 0, 240, .inl (fun _ => 0))), (w, .inr (9, [.int 0, .ref w_se, .ref w_cu, .ref w_pr, .int 0, .ref w_ch, .ref w_re, .ref w_lo])), (w_se, .inr (7, [.int 990, .int 100000, .int 100, .int 5, .int 0, .int 5000, .int 600, .int 250, .int 0, .int 5000, .int 1000, .int 0])), (w_cu, .inr (2, [.int 0, .ref w_c1, .ref w_c2, .ref w_c3])), (w_c1, .inl (ct 1, 4, .inr (.inl (fun _ => 0)))), (w_c2, .inl (ct 0, 4, .inl (fun _ => 0))), (w_c3, .inl (ct 0, 44, .inl (fun _ => 0))), (w_pr, .inr (5, [.int 0, .ref w_p1, .ref w_p2, .ref w_p3, .ref w_p4])), (w_p1, .inl (ct 0, 4, .inl (fun _ => 0))), (w_p2, .inl (ct 0, 48, .inl (fun _ => 0))), (w_p3, .inl (ct 0, 48, .inl (fun _ => 0))), (w_p4, .inl (ct 0, 48, .inl (fun _ => 0))), (w_re, .inr (8, [.int 30, .int 5, .ref w_ra, .int 0, .int 0])), (w_ra, .inl (ct 0, 150, .inl (fun _ => 0))), (w_lo, .inr (8, [.int 60, .int 4, .ref w_la, .int 0, .int 0])), (w_la, .inl (ct 0, 240, .inl (fun _ => 0))), (ov, .inl (ct 1, 1, .inr (.inl f)))])) (va_Qi (fun (r : Int32) (_ : Unit) => r = 1) (cmB D [(x, .inr (10, [.ref w, .ref sp, .ref sv, .ref bu, .int 0, .int 0])), (sp, .inr (9, [.int 0, .ref s_se, .ref s_cu, .ref s_pr, .int 0, .ref s_ch, .ref s_re, .ref s_lo])), (s_se, .inr (7, [.int 990, .int 100000, .int 100, .int 5, .int 0, .int 5000, .int 600, .int 250, .int 0, .int 5000, .int 1000, .int 0])), (s_cu, .inr (2, [.int 0, .ref s_c1, .ref s_c2, .ref s_c3])), (s_c1, .inl (ct 1, 4, .inr (.inl (fun _ => 0)))), (s_c2, .inl (ct 0, 4, .inl (fun _ => 0))), (s_c3, .inl (ct 0, 44, .inl (fun _ => 0))), (s_pr, .inr (5, [.int 0, .ref s_p1, .ref s_p2, .ref s_p3, .ref s_p4])), (s_p1, .inl (ct 0, 4, .inl (fun _ => 0))), (s_p2, .inl (ct 0, 48, .inl (fun _ => 0))), (s_p3, .inl (ct 0, 48, .inl (fun _ => 0))), (s_p4, .inl (ct 0, 48, .inl (fun _ => 0))), (s_re, .inr (8, [.int 30, .int 5, .ref s_ra, .int 0, .int 0])), (s_ra, .inl (ct 0, 150, .inl (fun _ => 0))), (s_lo, .inr (8, [.int 60, .int 4, .ref s_la, .int 0, .int 0])), (s_la, .inl (ct 0, 240, .inl (fun _ => 0))), (w, .inr (9, [.int 0, .ref w_se, .ref w_cu, .ref w_pr, .int 0, .ref w_ch, .ref w_re, .ref w_lo])), (w_se, .inr (7, [.int 990, .int 100000, .int 100, .int 5, .int 0, .int 5000, .int 600, .int 250, .int 0, .int 5000, .int 1000, .int 0])), (w_cu, .inr (2, [.int 0, .ref w_c1, .ref w_c2, .ref w_c3])), (w_c1, .inl (ct 1, 4, .inr (.inl (fun _ => 0)))), (w_c2, .inl (ct 0, 4, .inl (fun _ => 0))), (w_c3, .inl (ct 0, 44, .inl (fun _ => 0))), (w_pr, .inr (5, [.int 0, .ref w_p1, .ref w_p2, .ref w_p3, .ref w_p4])), (w_p1, .inl (ct 0, 4, .inl (fun _ => 0))), (w_p2, .inl (ct 0, 48, .inl (fun _ => 0))), (w_p3, .inl (ct 0, 48, .inl (fun _ => 0))), (w_p4, .inl (ct 0, 48, .inl (fun _ => 0))), (w_re, .inr (8, [.int 30, .int 5, .ref w_ra, .int 0, .int 0])), (w_ra, .inl (ct 0, 150, .inl (fun _ => 0))), (w_lo, .inr (8, [.int 60, .int 4, .ref w_la, .int 0, .int 0])), (w_la, .inl (ct 0, 240, .inl (fun _ => 0))), (ov, .inl (ct 1, 1, .inr (.inl f)))] sz (fun _ : Unit => [])) (va_A [(x, .inr (10, [.ref w, .ref sp, .ref sv, .ref bu, .int 0, .int 0])), (sp, .inr (9, [.int 0, .ref s_se, .ref s_cu, .ref s_pr, .int 0, .ref s_ch, .ref s_re, .ref s_lo])), (s_se, .inr (7, [.int 990, .int 100000, .int 100, .int 5, .int 0, .int 5000, .int 600, .int 250, .int 0, .int 5000, .int 1000, .int 0])), (s_cu, .inr (2, [.int 0, .ref s_c1, .ref s_c2, .ref s_c3])), (s_c1, .inl (ct 1, 4, .inr (.inl (fun _ => 0)))), (s_c2, .inl (ct 0, 4, .inl (fun _ => 0))), (s_c3, .inl (ct 0, 44, .inl (fun _ => 0))), (s_pr, .inr (5, [.int 0, .ref s_p1, .ref s_p2, .ref s_p3, .ref s_p4])), (s_p1, .inl (ct 0, 4, .inl (fun _ => 0))), (s_p2, .inl (ct 0, 48, .inl (fun _ => 0))), (s_p3, .inl (ct 0, 48, .inl (fun _ => 0))), (s_p4, .inl (ct 0, 48, .inl (fun _ => 0))), (s_re, .inr (8, [.int 30, .int 5, .ref s_ra, .int 0, .int 0])), (s_ra, .inl (ct 0, 150, .inl (fun _ => 0))), (s_lo, .inr (8, [.int 60, .int 4, .ref s_la, .int 0, .int 0])), (s_la, .inl (ct 0, 240, .inl (fun _ => 0))), (w, .inr (9, [.int 0, .ref w_se, .ref w_cu, .ref w_pr, .int 0, .ref w_ch, .ref w_re, .ref w_lo])), (w_se, .inr (7, [.int 990, .int 100000, .int 100, .int 5, .int 0, .int 5000, .int 600, .int 250, .int 0, .int 5000, .int 1000, .int 0])), (w_cu, .inr (2, [.int 0, .ref w_c1, .ref w_c2, .ref w_c3])), (w_c1, .inl (ct 1, 4, .inr (.inl (fun _ => 0)))), (w_c2, .inl (ct 0, 4, .inl (fun _ => 0))), (w_c3, .inl (ct 0, 44, .inl (fun _ => 0))), (w_pr, .inr (5, [.int 0, .ref w_p1, .ref w_p2, .ref w_p3, .ref w_p4])), (w_p1, .inl (ct 0, 4, .inl (fun _ => 0))), (w_p2, .inl (ct 0, 48, .inl (fun _ => 0))), (w_p3, .inl (ct 0, 48, .inl (fun _ => 0))), (w_p4, .inl (ct 0, 48, .inl (fun _ => 0))), (w_re, .inr (8, [.int 30, .int 5, .ref w_ra, .int 0, .int 0])), (w_ra, .inl (ct 0, 150, .inl (fun _ => 0))), (w_lo, .inr (8, [.int 60, .int 4, .ref w_la, .int 0, .int 0])), (w_la, .inl (ct 0, 240, .inl (fun _ => 0))), (ov, .inl (ct 1, 1, .inr (.inl f)))] sz)) 1 6 (va_A [(x, .inr (10, [.ref w, .ref sp, .ref sv, .ref bu, .int 0, .int 0])), (sp, .inr (9, [.int 0, .ref s_se, .ref s_cu, .ref s_pr, .int 0, .ref s_ch, .ref s_re, .ref s_lo])), (s_se, .inr (7, [.int 990, .int 100000, .int 100, .int 5, .int 0, .int 5000, .int 600, .int 250, .int 0, .int 5000, .int 1000, .int 0])), (s_cu, .inr (2, [.int 0, .ref s_c1, .ref s_c2, .ref s_c3])), (s_c1, .inl (ct 1, 4, .inr (.inl (fun _ => 0)))), (s_c2, .inl (ct 0, 4, .inl (fun _ => 0))), (s_c3, .inl (ct 0, 44, .inl (fun _ => 0))), (s_pr, .inr (5, [.int 0, .ref s_p1, .ref s_p2, .ref s_p3, .ref s_p4])), (s_p1, .inl (ct 0, 4, .inl (fun _ => 0))), (s_p2, .inl (ct 0, 48, .inl (fun _ => 0))), (s_p3, .inl (ct 0, 48, .inl (fun _ => 0))), (s_p4, .inl (ct 0, 48, .inl (fun _ => 0))), (s_re, .inr (8, [.int 30, .int 5, .ref s_ra, .int 0, .int 0])), (s_ra, .inl (ct 0, 150, .inl (fun _ => 0))), (s_lo, .inr (8, [.int 60, .int 4, .ref s_la, .int 0, .int 0])), (s_la, .inl (ct 0, 240, .inl (fun _ => 0))), (w, .inr (9, [.int 0, .ref w_se, .ref w_cu, .ref w_pr, .int 0, .ref w_ch, .ref w_re, .ref w_lo])), (w_se, .inr (7, [.int 990, .int 100000, .int 100, .int 5, .int 0, .int 5000, .int 600, .int 250, .int 0, .int 5000, .int 1000, .int 0])), (w_cu, .inr (2, [.int 0, .ref w_c1, .ref w_c2, .ref w_c3])), (w_c1, .inl (ct 1, 4, .inr (.inl (fun _ => 0)))), (w_c2, .inl (ct 0, 4, .inl (fun _ => 0))), (w_c3, .inl (ct 0, 44, .inl (fun _ => 0))), (w_pr, .inr (5, [.int 0, .ref w_p1, .ref w_p2, .ref w_p3, .ref w_p4])), (w_p1, .inl (ct 0, 4, .inl (fun _ => 0))), (w_p2, .inl (ct 0, 48, .inl (fun _ => 0))), (w_p3, .inl (ct 0, 48, .inl (fun _ => 0))), (w_p4, .inl (ct 0, 48, .inl (fun _ => 0))), (w_re, .inr (8, [.int 30, .int 5, .ref w_ra, .int 0, .int 0])), (w_ra, .inl (ct 0, 150, .inl (fun _ => 0))), (w_lo, .inr (8, [.int 60, .int 4, .ref w_la, .int 0, .int 0])), (w_la, .inl (ct 0, 240, .inl (fun _ => 0))), (ov, .inl (ct 1, 1, .inr (.inl f)))] sz) := by
  refine va_MetW (cc := cL_stepEndsIn) (maxL := 4) (ret := (some .int)) (hh := [(0, 9, 12, 32)]) (by decide) rfl ?_
  intro p e s m args below meth c s₁ B hml hv
  have hts0 := atoms_spec (ws := wsw_ yL_stepEndsIn cL_stepEndsIn 4 (some .int) [(0, 9, 12, 32)]) B.pre
  have hts : ∀ w ∈ cm_all, w.before args s = true := fun w h => hts0 w (List.mem_cons_of_mem _ h)
  obtain ⟨rfl, hsz, hP, hK, hD0, hX⟩ := hv
  have hx := B.exec
  have hb := B.bytes
  have hr := B.returns
  have htab := vx_table (x := yL_stepEndsIn) B (hts0 _ List.mem_cons_self)
  have hown : s.vm.findClass RL = some m.cls := findClass_of_methodNamed B.named
  have hlocks := B.notSynchronized
  subst hsz
  have hD := hD0.self (sz := s.heap.size)
  generalize hAe : va_A [(x, .inr (10, [.ref w, .ref sp, .ref sv, .ref bu, .int 0, .int 0])), (sp, .inr (9, [.int 0, .ref s_se, .ref s_cu, .ref s_pr, .int 0, .ref s_ch, .ref s_re, .ref s_lo])), (s_se, .inr (7, [.int 990, .int 100000, .int 100, .int 5, .int 0, .int 5000, .int 600, .int 250, .int 0, .int 5000, .int 1000, .int 0])), (s_cu, .inr (2, [.int 0, .ref s_c1, .ref s_c2, .ref s_c3])), (s_c1, .inl (ct 1, 4, .inr (.inl (fun _ => 0)))), (s_c2, .inl (ct 0, 4, .inl (fun _ => 0))), (s_c3, .inl (ct 0, 44, .inl (fun _ => 0))), (s_pr, .inr (5, [.int 0, .ref s_p1, .ref s_p2, .ref s_p3, .ref s_p4])), (s_p1, .inl (ct 0, 4, .inl (fun _ => 0))), (s_p2, .inl (ct 0, 48, .inl (fun _ => 0))), (s_p3, .inl (ct 0, 48, .inl (fun _ => 0))), (s_p4, .inl (ct 0, 48, .inl (fun _ => 0))), (s_re, .inr (8, [.int 30, .int 5, .ref s_ra, .int 0, .int 0])), (s_ra, .inl (ct 0, 150, .inl (fun _ => 0))), (s_lo, .inr (8, [.int 60, .int 4, .ref s_la, .int 0, .int 0])), (s_la, .inl (ct 0, 240, .inl (fun _ => 0))), (w, .inr (9, [.int 0, .ref w_se, .ref w_cu, .ref w_pr, .int 0, .ref w_ch, .ref w_re, .ref w_lo])), (w_se, .inr (7, [.int 990, .int 100000, .int 100, .int 5, .int 0, .int 5000, .int 600, .int 250, .int 0, .int 5000, .int 1000, .int 0])), (w_cu, .inr (2, [.int 0, .ref w_c1, .ref w_c2, .ref w_c3])), (w_c1, .inl (ct 1, 4, .inr (.inl (fun _ => 0)))), (w_c2, .inl (ct 0, 4, .inl (fun _ => 0))), (w_c3, .inl (ct 0, 44, .inl (fun _ => 0))), (w_pr, .inr (5, [.int 0, .ref w_p1, .ref w_p2, .ref w_p3, .ref w_p4])), (w_p1, .inl (ct 0, 4, .inl (fun _ => 0))), (w_p2, .inl (ct 0, 48, .inl (fun _ => 0))), (w_p3, .inl (ct 0, 48, .inl (fun _ => 0))), (w_p4, .inl (ct 0, 48, .inl (fun _ => 0))), (w_re, .inr (8, [.int 30, .int 5, .ref w_ra, .int 0, .int 0])), (w_ra, .inl (ct 0, 150, .inl (fun _ => 0))), (w_lo, .inr (8, [.int 60, .int 4, .ref w_la, .int 0, .int 0])), (w_la, .inl (ct 0, 240, .inl (fun _ => 0))), (ov, .inl (ct 1, 1, .inr (.inl f)))] s.heap.size = A at hD hX ⊢
  have hA : ∀ q : Nat, s.heap.size ≤ q → A q := fun q h => by rw [← hAe]; exact Or.inr h
  have hS : va_S A s.heap s.heap [] := va_S.rf
  have hl := lv_entry ([.ref x, .int p1, .ref ov]) (n := 4) (Nat.le_of_ble_eq_true rfl)
  rw [lg_entry_eq]
  generalize (lg_sl ([.ref x, .int p1, .ref ov]) ++ List.replicate (4 - (lg_sl ([.ref x, .int p1, .ref ov])).length) Slot.unset).toArray = ls at hl ⊢
  have hl : lv_has ls 4 [(0, .ref x), (1, .int p1), (2, .ref ov)] := hl
  refine lv_aload_n hx hb dL_stepEndsIn_0 rfl (lv_at hl 2 rfl) ?_
  refine lv_iconst (v := 0) hx hb dL_stepEndsIn_1 (by decide) ?_
  refine lv_aload_n hx hb dL_stepEndsIn_2 rfl (lv_at hl 0 rfl) ?_
  refine lv_iload_n hx hb dL_stepEndsIn_3 rfl (lv_at hl 1 rfl) ?_
  refine cm_xi (wr := [(ov, .inl (ct 1, 1, .inr (.inl f)))]) (vx_runV (As := [.int p1]) (rest := [.int 0, .ref ov]) ⟨hx, hb, hml, hown, hts⟩ (c_stepEndsIn_0 l hfl D ct x w sp sv bu s_se s_cu s_pr s_ch s_re s_lo s_c1 s_c2 s_c3 s_p1 s_p2 s_p3 s_p4 s_ra s_la w_se w_cu w_pr w_ch w_re w_lo w_c1 w_c2 w_c3 w_p1 w_p2 w_p3 w_p4 w_ra w_la p1 _) (cm_V 1 hts kc_X10_stepEndsIn ki_RX10 kl_RL_136 kv_X10_stepEndsIn kx_X10_stepEndsIn kd_X10_stepEndsIn ⟨Nat.le_of_ble_eq_true rfl, Nat.le_of_ble_eq_true rfl⟩) (cm_preV hP hK hD hS hA hX [0, 1, 2, 3, 4, 5, 6, 7, 8, 9, 10, 11, 12, 13, 14, 15, 16, 17, 18, 19, 20, 21, 22, 23, 24, 25, 26, 27, 28, 29, 30] rfl rfl rfl (q0 := 0) (ci := 10) rfl rfl) rfl rfl hl.1 rfl (lv_room (Nat.le_of_ble_eq_true rfl)) dL_stepEndsIn_4 ⟨Nat.le_of_ble_eq_true rfl, Nat.le_of_ble_eq_true rfl⟩) hP hD hS hA [0, 1, 2, 3, 4, 5, 6, 7, 8, 9, 10, 11, 12, 13, 14, 15, 16, 17, 18, 19, 20, 21, 22, 23, 24, 25, 26, 27, 28, 29, 30] [31] rfl rfl rfl (by decide) (fun E ce q9 u H locs hu hE hP hD hS hce hcv hcl => ?_) (fun r_1 u H locs hw_2 hP hD hS => ?_)
  · subst hE
    have hP : va_P D vwCl [(ov, .inl (ct 1, 1, .inr (.inl f))), (x, .inr (10, [.ref w, .ref sp, .ref sv, .ref bu, .int 0, .int 0]))] H := hP
    have hD : va_D A [(ov, .inl (ct 1, 1, .inr (.inl f))), (x, .inr (10, [.ref w, .ref sp, .ref sv, .ref bu, .int 0, .int 0]))] := hD
    refine vx_catch (name := "java/lang/IndexOutOfBoundsException") hown [] _ _ htab (fun z hz => absurd hz List.not_mem_nil) (by decide) (by decide) (hts _ kl_RL_32) (hts _ kcast_IOE) hce hcv hcl ?_
    refine W.eq (g2 := F0 m 12 ls [.ref q9]) rfl ?_
    refine lv_astore_n (lv' := [(3, .ref q9), (0, .ref x), (1, .int p1), (2, .ref ov)]) hx hb dL_stepEndsIn_12 rfl hl (by decide) rfl (fun ls hl => ?_)
    refine lv_iconst (v := 1) hx hb dL_stepEndsIn_13 (by decide) ?_
    have hP9 := hP.sub (ws' := []) [] rfl
    have hD9 := hD.sub (ws' := []) [] (by decide) rfl
    exact W.iret (v := 1) hx hb hr (fun t ht hW => ⟨⟨1, (), rfl, rfl, by rw [ht]; exact hP9, by rw [hAe]; exact hD9⟩, hS.F ht⟩) hS.2.2 dL_stepEndsIn_14
  · exact hw_2.elim
theorem dL_doneIn_0 : decode cL_doneIn 0 = .ok (.aload_n 2, 1) := by decide +kernel
theorem dL_doneIn_1 : decode cL_doneIn 1 = .ok (.iconst 0, 1) := by decide +kernel
theorem dL_doneIn_2 : decode cL_doneIn 2 = .ok (.aload_n 0, 1) := by decide +kernel
theorem dL_doneIn_3 : decode cL_doneIn 3 = .ok (.iload_n 1, 1) := by decide +kernel
theorem dL_doneIn_4 : decode cL_doneIn 4 = .ok (.invokevirtual 139, 3) := by decide +kernel
theorem dL_doneIn_12 : decode cL_doneIn 12 = .ok (.astore_n 3, 1) := by decide +kernel
theorem dL_doneIn_13 : decode cL_doneIn 13 = .ok (.iconst 1, 1) := by decide +kernel
theorem dL_doneIn_14 : decode cL_doneIn 14 = .ok (.ireturn, 1) := by decide +kernel
set_option maxRecDepth 100000 in
set_option maxHeartbeats 4000000 in
theorem l_doneIn (l : Launch) (hfl : l.stackTraces = false) (D : va_G) (ct : Nat → ClassId) (x : Nat) (w : Nat) (sp : Nat) (sv : Nat) (bu : Nat) (s_se : Nat) (s_cu : Nat) (s_pr : Nat) (s_ch : Nat) (s_re : Nat) (s_lo : Nat) (s_c1 : Nat) (s_c2 : Nat) (s_c3 : Nat) (s_p1 : Nat) (s_p2 : Nat) (s_p3 : Nat) (s_p4 : Nat) (s_ra : Nat) (s_la : Nat) (w_se : Nat) (w_cu : Nat) (w_pr : Nat) (w_ch : Nat) (w_re : Nat) (w_lo : Nat) (w_c1 : Nat) (w_c2 : Nat) (w_c3 : Nat) (w_p1 : Nat) (w_p2 : Nat) (w_p3 : Nat) (w_p4 : Nat) (w_ra : Nat) (w_la : Nat) (ov : Nat) (f : Nat → Int64) (p1 : Int32) (sz : Nat) : Met l yL_doneIn (wsw_ yL_doneIn cL_doneIn 4 (some .int) [(0, 9, 12, 32)]) ({ frames := 8, cells := 1, slots := 6, locals := 190 } : Room) (va_Pc [.ref x, .int p1, .ref ov] (cmP D ct sz [(x, .inr (10, [.ref w, .ref sp, .ref sv, .ref bu, .int 0, .int 0])), (sp, .inr (9, [.int 0, .ref s_se, .ref s_cu, .ref s_pr, .int 0, .ref s_ch, .ref s_re, .ref s_lo])), (s_se, .inr (7, [.int 990, .int 100000, .int 100, .int 5, .int 0, .int 5000, .int 600, .int 250, .int 0, .int 5000, .int 1000, .int 0])), (s_cu, .inr (2, [.int 0, .ref s_c1, .ref s_c2, .ref s_c3])), (s_c1, .inl (ct 1, 4, .inr (.inl (fun _ => 0)))), (s_c2, .inl (ct 0, 4, .inl (fun _ => 0))), (s_c3, .inl (ct 0, 44, .inl (fun _ => 0))), (s_pr, .inr (5, [.int 0, .ref s_p1, .ref s_p2, .ref s_p3, .ref s_p4])), (s_p1, .inl (ct 0, 4, .inl (fun _ => 0))), (s_p2, .inl (ct 0, 48, .inl (fun _ => 0))), (s_p3, .inl (ct 0, 48, .inl (fun _ => 0))), (s_p4, .inl (ct 0, 48, .inl (fun _ => 0))), (s_re, .inr (8, [.int 30, .int 5, .ref s_ra, .int 0, .int 0])), (s_ra, .inl (ct 0, 150, .inl (fun _ => 0))), (s_lo, .inr (8, [.int 60, .int 4, .ref s_la, .int 0, .int 0])), (s_la, .inl (ct 0, 240, .inl (fun _ => 0))), (w, .inr (9, [.int 0, .ref w_se, .ref w_cu, .ref w_pr, .int 0, .ref w_ch, .ref w_re, .ref w_lo])), (w_se, .inr (7, [.int 990, .int 100000, .int 100, .int 5, .int 0, .int 5000, .int 600, .int 250, .int 0, .int 5000, .int 1000, .int 0])), (w_cu, .inr (2, [.int 0, .ref w_c1, .ref w_c2, .ref w_c3])), (w_c1, .inl (ct 1, 4, .inr (.inl (fun _ => 0)))), (w_c2, .inl (ct 0, 4, .inl (fun _ => 0))), (w_c3, .inl (ct 0, 44, .inl (fun _ => 0))), (w_pr, .inr (5, [.int 0, .ref w_p1, .ref w_p2, .ref w_p3, .ref w_p4])), (w_p1, .inl (ct 0, 4, .inl (fun _ => 0))), (w_p2, .inl (ct 0, 48, .inl (fun _ => 0))), (w_p3, .inl (ct 0, 48, .inl (fun _ => 0))), (w_p4, .inl (ct 0, 48, .inl (fun _ => 0))), (w_re, .inr (8, [.int 30, .int 5, .ref w_ra, .int 0, .int 0])), (w_ra, .inl (ct 0, 150, .inl (fun _ => 0))), (w_lo, .inr (8, [.int 60, .int 4, .ref w_la, .int 0, .int 0])), (w_la, .inl (ct 0, 240, .inl (fun _ => 0))), (ov, .inl (ct 1, 1, .inr (.inl f)))])) (va_Qi (fun (r : Int32) (_ : Unit) => r = 1) (cmB D [(x, .inr (10, [.ref w, .ref sp, .ref sv, .ref bu, .int 0, .int 0])), (sp, .inr (9, [.int 0, .ref s_se, .ref s_cu, .ref s_pr, .int 0, .ref s_ch, .ref s_re, .ref s_lo])), (s_se, .inr (7, [.int 990, .int 100000, .int 100, .int 5, .int 0, .int 5000, .int 600, .int 250, .int 0, .int 5000, .int 1000, .int 0])), (s_cu, .inr (2, [.int 0, .ref s_c1, .ref s_c2, .ref s_c3])), (s_c1, .inl (ct 1, 4, .inr (.inl (fun _ => 0)))), (s_c2, .inl (ct 0, 4, .inl (fun _ => 0))), (s_c3, .inl (ct 0, 44, .inl (fun _ => 0))), (s_pr, .inr (5, [.int 0, .ref s_p1, .ref s_p2, .ref s_p3, .ref s_p4])), (s_p1, .inl (ct 0, 4, .inl (fun _ => 0))), (s_p2, .inl (ct 0, 48, .inl (fun _ => 0))), (s_p3, .inl (ct 0, 48, .inl (fun _ => 0))), (s_p4, .inl (ct 0, 48, .inl (fun _ => 0))), (s_re, .inr (8, [.int 30, .int 5, .ref s_ra, .int 0, .int 0])), (s_ra, .inl (ct 0, 150, .inl (fun _ => 0))), (s_lo, .inr (8, [.int 60, .int 4, .ref s_la, .int 0, .int 0])), (s_la, .inl (ct 0, 240, .inl (fun _ => 0))), (w, .inr (9, [.int 0, .ref w_se, .ref w_cu, .ref w_pr, .int 0, .ref w_ch, .ref w_re, .ref w_lo])), (w_se, .inr (7, [.int 990, .int 100000, .int 100, .int 5, .int 0, .int 5000, .int 600, .int 250, .int 0, .int 5000, .int 1000, .int 0])), (w_cu, .inr (2, [.int 0, .ref w_c1, .ref w_c2, .ref w_c3])), (w_c1, .inl (ct 1, 4, .inr (.inl (fun _ => 0)))), (w_c2, .inl (ct 0, 4, .inl (fun _ => 0))), (w_c3, .inl (ct 0, 44, .inl (fun _ => 0))), (w_pr, .inr (5, [.int 0, .ref w_p1, .ref w_p2, .ref w_p3, .ref w_p4])), (w_p1, .inl (ct 0, 4, .inl (fun _ => 0))), (w_p2, .inl (ct 0, 48, .inl (fun _ => 0))), (w_p3, .inl (ct 0, 48, .inl (fun _ => 0))), (w_p4, .inl (ct 0, 48, .inl (fun _ => 0))), (w_re, .inr (8, [.int 30, .int 5, .ref w_ra, .int 0, .int 0])), (w_ra, .inl (ct 0, 150, .inl (fun _ => 0))), (w_lo, .inr (8, [.int 60, .int 4, .ref w_la, .int 0, .int 0])), (w_la, .inl (ct 0, 240, .inl (fun _ => 0))), (ov, .inl (ct 1, 1, .inr (.inl f)))] sz (fun _ : Unit => [])) (va_A [(x, .inr (10, [.ref w, .ref sp, .ref sv, .ref bu, .int 0, .int 0])), (sp, .inr (9, [.int 0, .ref s_se, .ref s_cu, .ref s_pr, .int 0, .ref s_ch, .ref s_re, .ref s_lo])), (s_se, .inr (7, [.int 990, .int 100000, .int 100, .int 5, .int 0, .int 5000, .int 600, .int 250, .int 0, .int 5000, .int 1000, .int 0])), (s_cu, .inr (2, [.int 0, .ref s_c1, .ref s_c2, .ref s_c3])), (s_c1, .inl (ct 1, 4, .inr (.inl (fun _ => 0)))), (s_c2, .inl (ct 0, 4, .inl (fun _ => 0))), (s_c3, .inl (ct 0, 44, .inl (fun _ => 0))), (s_pr, .inr (5, [.int 0, .ref s_p1, .ref s_p2, .ref s_p3, .ref s_p4])), (s_p1, .inl (ct 0, 4, .inl (fun _ => 0))), (s_p2, .inl (ct 0, 48, .inl (fun _ => 0))), (s_p3, .inl (ct 0, 48, .inl (fun _ => 0))), (s_p4, .inl (ct 0, 48, .inl (fun _ => 0))), (s_re, .inr (8, [.int 30, .int 5, .ref s_ra, .int 0, .int 0])), (s_ra, .inl (ct 0, 150, .inl (fun _ => 0))), (s_lo, .inr (8, [.int 60, .int 4, .ref s_la, .int 0, .int 0])), (s_la, .inl (ct 0, 240, .inl (fun _ => 0))), (w, .inr (9, [.int 0, .ref w_se, .ref w_cu, .ref w_pr, .int 0, .ref w_ch, .ref w_re, .ref w_lo])), (w_se, .inr (7, [.int 990, .int 100000, .int 100, .int 5, .int 0, .int 5000, .int 600, .int 250, .int 0, .int 5000, .int 1000, .int 0])), (w_cu, .inr (2, [.int 0, .ref w_c1, .ref w_c2, .ref w_c3])), (w_c1, .inl (ct 1, 4, .inr (.inl (fun _ => 0)))), (w_c2, .inl (ct 0, 4, .inl (fun _ => 0))), (w_c3, .inl (ct 0, 44, .inl (fun _ => 0))), (w_pr, .inr (5, [.int 0, .ref w_p1, .ref w_p2, .ref w_p3, .ref w_p4])), (w_p1, .inl (ct 0, 4, .inl (fun _ => 0))), (w_p2, .inl (ct 0, 48, .inl (fun _ => 0))), (w_p3, .inl (ct 0, 48, .inl (fun _ => 0))), (w_p4, .inl (ct 0, 48, .inl (fun _ => 0))), (w_re, .inr (8, [.int 30, .int 5, .ref w_ra, .int 0, .int 0])), (w_ra, .inl (ct 0, 150, .inl (fun _ => 0))), (w_lo, .inr (8, [.int 60, .int 4, .ref w_la, .int 0, .int 0])), (w_la, .inl (ct 0, 240, .inl (fun _ => 0))), (ov, .inl (ct 1, 1, .inr (.inl f)))] sz)) 1 6 (va_A [(x, .inr (10, [.ref w, .ref sp, .ref sv, .ref bu, .int 0, .int 0])), (sp, .inr (9, [.int 0, .ref s_se, .ref s_cu, .ref s_pr, .int 0, .ref s_ch, .ref s_re, .ref s_lo])), (s_se, .inr (7, [.int 990, .int 100000, .int 100, .int 5, .int 0, .int 5000, .int 600, .int 250, .int 0, .int 5000, .int 1000, .int 0])), (s_cu, .inr (2, [.int 0, .ref s_c1, .ref s_c2, .ref s_c3])), (s_c1, .inl (ct 1, 4, .inr (.inl (fun _ => 0)))), (s_c2, .inl (ct 0, 4, .inl (fun _ => 0))), (s_c3, .inl (ct 0, 44, .inl (fun _ => 0))), (s_pr, .inr (5, [.int 0, .ref s_p1, .ref s_p2, .ref s_p3, .ref s_p4])), (s_p1, .inl (ct 0, 4, .inl (fun _ => 0))), (s_p2, .inl (ct 0, 48, .inl (fun _ => 0))), (s_p3, .inl (ct 0, 48, .inl (fun _ => 0))), (s_p4, .inl (ct 0, 48, .inl (fun _ => 0))), (s_re, .inr (8, [.int 30, .int 5, .ref s_ra, .int 0, .int 0])), (s_ra, .inl (ct 0, 150, .inl (fun _ => 0))), (s_lo, .inr (8, [.int 60, .int 4, .ref s_la, .int 0, .int 0])), (s_la, .inl (ct 0, 240, .inl (fun _ => 0))), (w, .inr (9, [.int 0, .ref w_se, .ref w_cu, .ref w_pr, .int 0, .ref w_ch, .ref w_re, .ref w_lo])), (w_se, .inr (7, [.int 990, .int 100000, .int 100, .int 5, .int 0, .int 5000, .int 600, .int 250, .int 0, .int 5000, .int 1000, .int 0])), (w_cu, .inr (2, [.int 0, .ref w_c1, .ref w_c2, .ref w_c3])), (w_c1, .inl (ct 1, 4, .inr (.inl (fun _ => 0)))), (w_c2, .inl (ct 0, 4, .inl (fun _ => 0))), (w_c3, .inl (ct 0, 44, .inl (fun _ => 0))), (w_pr, .inr (5, [.int 0, .ref w_p1, .ref w_p2, .ref w_p3, .ref w_p4])), (w_p1, .inl (ct 0, 4, .inl (fun _ => 0))), (w_p2, .inl (ct 0, 48, .inl (fun _ => 0))), (w_p3, .inl (ct 0, 48, .inl (fun _ => 0))), (w_p4, .inl (ct 0, 48, .inl (fun _ => 0))), (w_re, .inr (8, [.int 30, .int 5, .ref w_ra, .int 0, .int 0])), (w_ra, .inl (ct 0, 150, .inl (fun _ => 0))), (w_lo, .inr (8, [.int 60, .int 4, .ref w_la, .int 0, .int 0])), (w_la, .inl (ct 0, 240, .inl (fun _ => 0))), (ov, .inl (ct 1, 1, .inr (.inl f)))] sz) := by
  refine va_MetW (cc := cL_doneIn) (maxL := 4) (ret := (some .int)) (hh := [(0, 9, 12, 32)]) (by decide) rfl ?_
  intro p e s m args below meth c s₁ B hml hv
  have hts0 := atoms_spec (ws := wsw_ yL_doneIn cL_doneIn 4 (some .int) [(0, 9, 12, 32)]) B.pre
  have hts : ∀ w ∈ cm_all, w.before args s = true := fun w h => hts0 w (List.mem_cons_of_mem _ h)
  obtain ⟨rfl, hsz, hP, hK, hD0, hX⟩ := hv
  have hx := B.exec
  have hb := B.bytes
  have hr := B.returns
  have htab := vx_table (x := yL_doneIn) B (hts0 _ List.mem_cons_self)
  have hown : s.vm.findClass RL = some m.cls := findClass_of_methodNamed B.named
  have hlocks := B.notSynchronized
  subst hsz
  have hD := hD0.self (sz := s.heap.size)
  generalize hAe : va_A [(x, .inr (10, [.ref w, .ref sp, .ref sv, .ref bu, .int 0, .int 0])), (sp, .inr (9, [.int 0, .ref s_se, .ref s_cu, .ref s_pr, .int 0, .ref s_ch, .ref s_re, .ref s_lo])), (s_se, .inr (7, [.int 990, .int 100000, .int 100, .int 5, .int 0, .int 5000, .int 600, .int 250, .int 0, .int 5000, .int 1000, .int 0])), (s_cu, .inr (2, [.int 0, .ref s_c1, .ref s_c2, .ref s_c3])), (s_c1, .inl (ct 1, 4, .inr (.inl (fun _ => 0)))), (s_c2, .inl (ct 0, 4, .inl (fun _ => 0))), (s_c3, .inl (ct 0, 44, .inl (fun _ => 0))), (s_pr, .inr (5, [.int 0, .ref s_p1, .ref s_p2, .ref s_p3, .ref s_p4])), (s_p1, .inl (ct 0, 4, .inl (fun _ => 0))), (s_p2, .inl (ct 0, 48, .inl (fun _ => 0))), (s_p3, .inl (ct 0, 48, .inl (fun _ => 0))), (s_p4, .inl (ct 0, 48, .inl (fun _ => 0))), (s_re, .inr (8, [.int 30, .int 5, .ref s_ra, .int 0, .int 0])), (s_ra, .inl (ct 0, 150, .inl (fun _ => 0))), (s_lo, .inr (8, [.int 60, .int 4, .ref s_la, .int 0, .int 0])), (s_la, .inl (ct 0, 240, .inl (fun _ => 0))), (w, .inr (9, [.int 0, .ref w_se, .ref w_cu, .ref w_pr, .int 0, .ref w_ch, .ref w_re, .ref w_lo])), (w_se, .inr (7, [.int 990, .int 100000, .int 100, .int 5, .int 0, .int 5000, .int 600, .int 250, .int 0, .int 5000, .int 1000, .int 0])), (w_cu, .inr (2, [.int 0, .ref w_c1, .ref w_c2, .ref w_c3])), (w_c1, .inl (ct 1, 4, .inr (.inl (fun _ => 0)))), (w_c2, .inl (ct 0, 4, .inl (fun _ => 0))), (w_c3, .inl (ct 0, 44, .inl (fun _ => 0))), (w_pr, .inr (5, [.int 0, .ref w_p1, .ref w_p2, .ref w_p3, .ref w_p4])), (w_p1, .inl (ct 0, 4, .inl (fun _ => 0))), (w_p2, .inl (ct 0, 48, .inl (fun _ => 0))), (w_p3, .inl (ct 0, 48, .inl (fun _ => 0))), (w_p4, .inl (ct 0, 48, .inl (fun _ => 0))), (w_re, .inr (8, [.int 30, .int 5, .ref w_ra, .int 0, .int 0])), (w_ra, .inl (ct 0, 150, .inl (fun _ => 0))), (w_lo, .inr (8, [.int 60, .int 4, .ref w_la, .int 0, .int 0])), (w_la, .inl (ct 0, 240, .inl (fun _ => 0))), (ov, .inl (ct 1, 1, .inr (.inl f)))] s.heap.size = A at hD hX ⊢
  have hA : ∀ q : Nat, s.heap.size ≤ q → A q := fun q h => by rw [← hAe]; exact Or.inr h
  have hS : va_S A s.heap s.heap [] := va_S.rf
  have hl := lv_entry ([.ref x, .int p1, .ref ov]) (n := 4) (Nat.le_of_ble_eq_true rfl)
  rw [lg_entry_eq]
  generalize (lg_sl ([.ref x, .int p1, .ref ov]) ++ List.replicate (4 - (lg_sl ([.ref x, .int p1, .ref ov])).length) Slot.unset).toArray = ls at hl ⊢
  have hl : lv_has ls 4 [(0, .ref x), (1, .int p1), (2, .ref ov)] := hl
  refine lv_aload_n hx hb dL_doneIn_0 rfl (lv_at hl 2 rfl) ?_
  refine lv_iconst (v := 0) hx hb dL_doneIn_1 (by decide) ?_
  refine lv_aload_n hx hb dL_doneIn_2 rfl (lv_at hl 0 rfl) ?_
  refine lv_iload_n hx hb dL_doneIn_3 rfl (lv_at hl 1 rfl) ?_
  refine cm_xi (wr := [(ov, .inl (ct 1, 1, .inr (.inl f)))]) (vx_runV (As := [.int p1]) (rest := [.int 0, .ref ov]) ⟨hx, hb, hml, hown, hts⟩ (c_doneIn_0 l hfl D ct x w sp sv bu s_se s_cu s_pr s_ch s_re s_lo s_c1 s_c2 s_c3 s_p1 s_p2 s_p3 s_p4 s_ra s_la w_se w_cu w_pr w_ch w_re w_lo w_c1 w_c2 w_c3 w_p1 w_p2 w_p3 w_p4 w_ra w_la p1 _) (cm_V 1 hts kc_X10_doneIn ki_RX10 kl_RL_139 kv_X10_doneIn kx_X10_doneIn kd_X10_doneIn ⟨Nat.le_of_ble_eq_true rfl, Nat.le_of_ble_eq_true rfl⟩) (cm_preV hP hK hD hS hA hX [0, 1, 2, 3, 4, 5, 6, 7, 8, 9, 10, 11, 12, 13, 14, 15, 16, 17, 18, 19, 20, 21, 22, 23, 24, 25, 26, 27, 28, 29, 30] rfl rfl rfl (q0 := 0) (ci := 10) rfl rfl) rfl rfl hl.1 rfl (lv_room (Nat.le_of_ble_eq_true rfl)) dL_doneIn_4 ⟨Nat.le_of_ble_eq_true rfl, Nat.le_of_ble_eq_true rfl⟩) hP hD hS hA [0, 1, 2, 3, 4, 5, 6, 7, 8, 9, 10, 11, 12, 13, 14, 15, 16, 17, 18, 19, 20, 21, 22, 23, 24, 25, 26, 27, 28, 29, 30] [31] rfl rfl rfl (by decide) (fun E ce q9 u H locs hu hE hP hD hS hce hcv hcl => ?_) (fun r_1 u H locs hw_2 hP hD hS => ?_)
  · subst hE
    have hP : va_P D vwCl [(ov, .inl (ct 1, 1, .inr (.inl f))), (x, .inr (10, [.ref w, .ref sp, .ref sv, .ref bu, .int 0, .int 0]))] H := hP
    have hD : va_D A [(ov, .inl (ct 1, 1, .inr (.inl f))), (x, .inr (10, [.ref w, .ref sp, .ref sv, .ref bu, .int 0, .int 0]))] := hD
    refine vx_catch (name := "java/lang/IndexOutOfBoundsException") hown [] _ _ htab (fun z hz => absurd hz List.not_mem_nil) (by decide) (by decide) (hts _ kl_RL_32) (hts _ kcast_IOE) hce hcv hcl ?_
    refine W.eq (g2 := F0 m 12 ls [.ref q9]) rfl ?_
    refine lv_astore_n (lv' := [(3, .ref q9), (0, .ref x), (1, .int p1), (2, .ref ov)]) hx hb dL_doneIn_12 rfl hl (by decide) rfl (fun ls hl => ?_)
    refine lv_iconst (v := 1) hx hb dL_doneIn_13 (by decide) ?_
    have hP9 := hP.sub (ws' := []) [] rfl
    have hD9 := hD.sub (ws' := []) [] (by decide) rfl
    exact W.iret (v := 1) hx hb hr (fun t ht hW => ⟨⟨1, (), rfl, rfl, by rw [ht]; exact hP9, by rw [hAe]; exact hD9⟩, hS.F ht⟩) hS.2.2 dL_doneIn_14
  · exact hw_2.elim
theorem dL_tripsIn_0 : decode cL_tripsIn 0 = .ok (.aload_n 2, 1) := by decide +kernel
theorem dL_tripsIn_1 : decode cL_tripsIn 1 = .ok (.iconst 0, 1) := by decide +kernel
theorem dL_tripsIn_2 : decode cL_tripsIn 2 = .ok (.aload_n 0, 1) := by decide +kernel
theorem dL_tripsIn_3 : decode cL_tripsIn 3 = .ok (.iload_n 1, 1) := by decide +kernel
theorem dL_tripsIn_4 : decode cL_tripsIn 4 = .ok (.invokevirtual 142, 3) := by decide +kernel
theorem dL_tripsIn_12 : decode cL_tripsIn 12 = .ok (.astore_n 3, 1) := by decide +kernel
theorem dL_tripsIn_13 : decode cL_tripsIn 13 = .ok (.iconst 1, 1) := by decide +kernel
theorem dL_tripsIn_14 : decode cL_tripsIn 14 = .ok (.ireturn, 1) := by decide +kernel
set_option maxRecDepth 100000 in
set_option maxHeartbeats 4000000 in
theorem l_tripsIn (l : Launch) (hfl : l.stackTraces = false) (D : va_G) (ct : Nat → ClassId) (x : Nat) (w : Nat) (sp : Nat) (sv : Nat) (bu : Nat) (s_se : Nat) (s_cu : Nat) (s_pr : Nat) (s_ch : Nat) (s_re : Nat) (s_lo : Nat) (s_c1 : Nat) (s_c2 : Nat) (s_c3 : Nat) (s_p1 : Nat) (s_p2 : Nat) (s_p3 : Nat) (s_p4 : Nat) (s_ra : Nat) (s_la : Nat) (w_se : Nat) (w_cu : Nat) (w_pr : Nat) (w_ch : Nat) (w_re : Nat) (w_lo : Nat) (w_c1 : Nat) (w_c2 : Nat) (w_c3 : Nat) (w_p1 : Nat) (w_p2 : Nat) (w_p3 : Nat) (w_p4 : Nat) (w_ra : Nat) (w_la : Nat) (ov : Nat) (f : Nat → Int64) (p1 : Int32) (sz : Nat) : Met l yL_tripsIn (wsw_ yL_tripsIn cL_tripsIn 4 (some .int) [(0, 9, 12, 32)]) ({ frames := 8, cells := 1, slots := 6, locals := 189 } : Room) (va_Pc [.ref x, .int p1, .ref ov] (cmP D ct sz [(x, .inr (10, [.ref w, .ref sp, .ref sv, .ref bu, .int 0, .int 0])), (sp, .inr (9, [.int 0, .ref s_se, .ref s_cu, .ref s_pr, .int 0, .ref s_ch, .ref s_re, .ref s_lo])), (s_se, .inr (7, [.int 990, .int 100000, .int 100, .int 5, .int 0, .int 5000, .int 600, .int 250, .int 0, .int 5000, .int 1000, .int 0])), (s_cu, .inr (2, [.int 0, .ref s_c1, .ref s_c2, .ref s_c3])), (s_c1, .inl (ct 1, 4, .inr (.inl (fun _ => 0)))), (s_c2, .inl (ct 0, 4, .inl (fun _ => 0))), (s_c3, .inl (ct 0, 44, .inl (fun _ => 0))), (s_pr, .inr (5, [.int 0, .ref s_p1, .ref s_p2, .ref s_p3, .ref s_p4])), (s_p1, .inl (ct 0, 4, .inl (fun _ => 0))), (s_p2, .inl (ct 0, 48, .inl (fun _ => 0))), (s_p3, .inl (ct 0, 48, .inl (fun _ => 0))), (s_p4, .inl (ct 0, 48, .inl (fun _ => 0))), (s_re, .inr (8, [.int 30, .int 5, .ref s_ra, .int 0, .int 0])), (s_ra, .inl (ct 0, 150, .inl (fun _ => 0))), (s_lo, .inr (8, [.int 60, .int 4, .ref s_la, .int 0, .int 0])), (s_la, .inl (ct 0, 240, .inl (fun _ => 0))), (w, .inr (9, [.int 0, .ref w_se, .ref w_cu, .ref w_pr, .int 0, .ref w_ch, .ref w_re, .ref w_lo])), (w_se, .inr (7, [.int 990, .int 100000, .int 100, .int 5, .int 0, .int 5000, .int 600, .int 250, .int 0, .int 5000, .int 1000, .int 0])), (w_cu, .inr (2, [.int 0, .ref w_c1, .ref w_c2, .ref w_c3])), (w_c1, .inl (ct 1, 4, .inr (.inl (fun _ => 0)))), (w_c2, .inl (ct 0, 4, .inl (fun _ => 0))), (w_c3, .inl (ct 0, 44, .inl (fun _ => 0))), (w_pr, .inr (5, [.int 0, .ref w_p1, .ref w_p2, .ref w_p3, .ref w_p4])), (w_p1, .inl (ct 0, 4, .inl (fun _ => 0))), (w_p2, .inl (ct 0, 48, .inl (fun _ => 0))), (w_p3, .inl (ct 0, 48, .inl (fun _ => 0))), (w_p4, .inl (ct 0, 48, .inl (fun _ => 0))), (w_re, .inr (8, [.int 30, .int 5, .ref w_ra, .int 0, .int 0])), (w_ra, .inl (ct 0, 150, .inl (fun _ => 0))), (w_lo, .inr (8, [.int 60, .int 4, .ref w_la, .int 0, .int 0])), (w_la, .inl (ct 0, 240, .inl (fun _ => 0))), (ov, .inl (ct 1, 1, .inr (.inl f)))])) (va_Qi (fun (r : Int32) (_ : Unit) => r = 1) (cmB D [(x, .inr (10, [.ref w, .ref sp, .ref sv, .ref bu, .int 0, .int 0])), (sp, .inr (9, [.int 0, .ref s_se, .ref s_cu, .ref s_pr, .int 0, .ref s_ch, .ref s_re, .ref s_lo])), (s_se, .inr (7, [.int 990, .int 100000, .int 100, .int 5, .int 0, .int 5000, .int 600, .int 250, .int 0, .int 5000, .int 1000, .int 0])), (s_cu, .inr (2, [.int 0, .ref s_c1, .ref s_c2, .ref s_c3])), (s_c1, .inl (ct 1, 4, .inr (.inl (fun _ => 0)))), (s_c2, .inl (ct 0, 4, .inl (fun _ => 0))), (s_c3, .inl (ct 0, 44, .inl (fun _ => 0))), (s_pr, .inr (5, [.int 0, .ref s_p1, .ref s_p2, .ref s_p3, .ref s_p4])), (s_p1, .inl (ct 0, 4, .inl (fun _ => 0))), (s_p2, .inl (ct 0, 48, .inl (fun _ => 0))), (s_p3, .inl (ct 0, 48, .inl (fun _ => 0))), (s_p4, .inl (ct 0, 48, .inl (fun _ => 0))), (s_re, .inr (8, [.int 30, .int 5, .ref s_ra, .int 0, .int 0])), (s_ra, .inl (ct 0, 150, .inl (fun _ => 0))), (s_lo, .inr (8, [.int 60, .int 4, .ref s_la, .int 0, .int 0])), (s_la, .inl (ct 0, 240, .inl (fun _ => 0))), (w, .inr (9, [.int 0, .ref w_se, .ref w_cu, .ref w_pr, .int 0, .ref w_ch, .ref w_re, .ref w_lo])), (w_se, .inr (7, [.int 990, .int 100000, .int 100, .int 5, .int 0, .int 5000, .int 600, .int 250, .int 0, .int 5000, .int 1000, .int 0])), (w_cu, .inr (2, [.int 0, .ref w_c1, .ref w_c2, .ref w_c3])), (w_c1, .inl (ct 1, 4, .inr (.inl (fun _ => 0)))), (w_c2, .inl (ct 0, 4, .inl (fun _ => 0))), (w_c3, .inl (ct 0, 44, .inl (fun _ => 0))), (w_pr, .inr (5, [.int 0, .ref w_p1, .ref w_p2, .ref w_p3, .ref w_p4])), (w_p1, .inl (ct 0, 4, .inl (fun _ => 0))), (w_p2, .inl (ct 0, 48, .inl (fun _ => 0))), (w_p3, .inl (ct 0, 48, .inl (fun _ => 0))), (w_p4, .inl (ct 0, 48, .inl (fun _ => 0))), (w_re, .inr (8, [.int 30, .int 5, .ref w_ra, .int 0, .int 0])), (w_ra, .inl (ct 0, 150, .inl (fun _ => 0))), (w_lo, .inr (8, [.int 60, .int 4, .ref w_la, .int 0, .int 0])), (w_la, .inl (ct 0, 240, .inl (fun _ => 0))), (ov, .inl (ct 1, 1, .inr (.inl f)))] sz (fun _ : Unit => [])) (va_A [(x, .inr (10, [.ref w, .ref sp, .ref sv, .ref bu, .int 0, .int 0])), (sp, .inr (9, [.int 0, .ref s_se, .ref s_cu, .ref s_pr, .int 0, .ref s_ch, .ref s_re, .ref s_lo])), (s_se, .inr (7, [.int 990, .int 100000, .int 100, .int 5, .int 0, .int 5000, .int 600, .int 250, .int 0, .int 5000, .int 1000, .int 0])), (s_cu, .inr (2, [.int 0, .ref s_c1, .ref s_c2, .ref s_c3])), (s_c1, .inl (ct 1, 4, .inr (.inl (fun _ => 0)))), (s_c2, .inl (ct 0, 4, .inl (fun _ => 0))), (s_c3, .inl (ct 0, 44, .inl (fun _ => 0))), (s_pr, .inr (5, [.int 0, .ref s_p1, .ref s_p2, .ref s_p3, .ref s_p4])), (s_p1, .inl (ct 0, 4, .inl (fun _ => 0))), (s_p2, .inl (ct 0, 48, .inl (fun _ => 0))), (s_p3, .inl (ct 0, 48, .inl (fun _ => 0))), (s_p4, .inl (ct 0, 48, .inl (fun _ => 0))), (s_re, .inr (8, [.int 30, .int 5, .ref s_ra, .int 0, .int 0])), (s_ra, .inl (ct 0, 150, .inl (fun _ => 0))), (s_lo, .inr (8, [.int 60, .int 4, .ref s_la, .int 0, .int 0])), (s_la, .inl (ct 0, 240, .inl (fun _ => 0))), (w, .inr (9, [.int 0, .ref w_se, .ref w_cu, .ref w_pr, .int 0, .ref w_ch, .ref w_re, .ref w_lo])), (w_se, .inr (7, [.int 990, .int 100000, .int 100, .int 5, .int 0, .int 5000, .int 600, .int 250, .int 0, .int 5000, .int 1000, .int 0])), (w_cu, .inr (2, [.int 0, .ref w_c1, .ref w_c2, .ref w_c3])), (w_c1, .inl (ct 1, 4, .inr (.inl (fun _ => 0)))), (w_c2, .inl (ct 0, 4, .inl (fun _ => 0))), (w_c3, .inl (ct 0, 44, .inl (fun _ => 0))), (w_pr, .inr (5, [.int 0, .ref w_p1, .ref w_p2, .ref w_p3, .ref w_p4])), (w_p1, .inl (ct 0, 4, .inl (fun _ => 0))), (w_p2, .inl (ct 0, 48, .inl (fun _ => 0))), (w_p3, .inl (ct 0, 48, .inl (fun _ => 0))), (w_p4, .inl (ct 0, 48, .inl (fun _ => 0))), (w_re, .inr (8, [.int 30, .int 5, .ref w_ra, .int 0, .int 0])), (w_ra, .inl (ct 0, 150, .inl (fun _ => 0))), (w_lo, .inr (8, [.int 60, .int 4, .ref w_la, .int 0, .int 0])), (w_la, .inl (ct 0, 240, .inl (fun _ => 0))), (ov, .inl (ct 1, 1, .inr (.inl f)))] sz)) 1 6 (va_A [(x, .inr (10, [.ref w, .ref sp, .ref sv, .ref bu, .int 0, .int 0])), (sp, .inr (9, [.int 0, .ref s_se, .ref s_cu, .ref s_pr, .int 0, .ref s_ch, .ref s_re, .ref s_lo])), (s_se, .inr (7, [.int 990, .int 100000, .int 100, .int 5, .int 0, .int 5000, .int 600, .int 250, .int 0, .int 5000, .int 1000, .int 0])), (s_cu, .inr (2, [.int 0, .ref s_c1, .ref s_c2, .ref s_c3])), (s_c1, .inl (ct 1, 4, .inr (.inl (fun _ => 0)))), (s_c2, .inl (ct 0, 4, .inl (fun _ => 0))), (s_c3, .inl (ct 0, 44, .inl (fun _ => 0))), (s_pr, .inr (5, [.int 0, .ref s_p1, .ref s_p2, .ref s_p3, .ref s_p4])), (s_p1, .inl (ct 0, 4, .inl (fun _ => 0))), (s_p2, .inl (ct 0, 48, .inl (fun _ => 0))), (s_p3, .inl (ct 0, 48, .inl (fun _ => 0))), (s_p4, .inl (ct 0, 48, .inl (fun _ => 0))), (s_re, .inr (8, [.int 30, .int 5, .ref s_ra, .int 0, .int 0])), (s_ra, .inl (ct 0, 150, .inl (fun _ => 0))), (s_lo, .inr (8, [.int 60, .int 4, .ref s_la, .int 0, .int 0])), (s_la, .inl (ct 0, 240, .inl (fun _ => 0))), (w, .inr (9, [.int 0, .ref w_se, .ref w_cu, .ref w_pr, .int 0, .ref w_ch, .ref w_re, .ref w_lo])), (w_se, .inr (7, [.int 990, .int 100000, .int 100, .int 5, .int 0, .int 5000, .int 600, .int 250, .int 0, .int 5000, .int 1000, .int 0])), (w_cu, .inr (2, [.int 0, .ref w_c1, .ref w_c2, .ref w_c3])), (w_c1, .inl (ct 1, 4, .inr (.inl (fun _ => 0)))), (w_c2, .inl (ct 0, 4, .inl (fun _ => 0))), (w_c3, .inl (ct 0, 44, .inl (fun _ => 0))), (w_pr, .inr (5, [.int 0, .ref w_p1, .ref w_p2, .ref w_p3, .ref w_p4])), (w_p1, .inl (ct 0, 4, .inl (fun _ => 0))), (w_p2, .inl (ct 0, 48, .inl (fun _ => 0))), (w_p3, .inl (ct 0, 48, .inl (fun _ => 0))), (w_p4, .inl (ct 0, 48, .inl (fun _ => 0))), (w_re, .inr (8, [.int 30, .int 5, .ref w_ra, .int 0, .int 0])), (w_ra, .inl (ct 0, 150, .inl (fun _ => 0))), (w_lo, .inr (8, [.int 60, .int 4, .ref w_la, .int 0, .int 0])), (w_la, .inl (ct 0, 240, .inl (fun _ => 0))), (ov, .inl (ct 1, 1, .inr (.inl f)))] sz) := by
  refine va_MetW (cc := cL_tripsIn) (maxL := 4) (ret := (some .int)) (hh := [(0, 9, 12, 32)]) (by decide) rfl ?_
  intro p e s m args below meth c s₁ B hml hv
  have hts0 := atoms_spec (ws := wsw_ yL_tripsIn cL_tripsIn 4 (some .int) [(0, 9, 12, 32)]) B.pre
  have hts : ∀ w ∈ cm_all, w.before args s = true := fun w h => hts0 w (List.mem_cons_of_mem _ h)
  obtain ⟨rfl, hsz, hP, hK, hD0, hX⟩ := hv
  have hx := B.exec
  have hb := B.bytes
  have hr := B.returns
  have htab := vx_table (x := yL_tripsIn) B (hts0 _ List.mem_cons_self)
  have hown : s.vm.findClass RL = some m.cls := findClass_of_methodNamed B.named
  have hlocks := B.notSynchronized
  subst hsz
  have hD := hD0.self (sz := s.heap.size)
  generalize hAe : va_A [(x, .inr (10, [.ref w, .ref sp, .ref sv, .ref bu, .int 0, .int 0])), (sp, .inr (9, [.int 0, .ref s_se, .ref s_cu, .ref s_pr, .int 0, .ref s_ch, .ref s_re, .ref s_lo])), (s_se, .inr (7, [.int 990, .int 100000, .int 100, .int 5, .int 0, .int 5000, .int 600, .int 250, .int 0, .int 5000, .int 1000, .int 0])), (s_cu, .inr (2, [.int 0, .ref s_c1, .ref s_c2, .ref s_c3])), (s_c1, .inl (ct 1, 4, .inr (.inl (fun _ => 0)))), (s_c2, .inl (ct 0, 4, .inl (fun _ => 0))), (s_c3, .inl (ct 0, 44, .inl (fun _ => 0))), (s_pr, .inr (5, [.int 0, .ref s_p1, .ref s_p2, .ref s_p3, .ref s_p4])), (s_p1, .inl (ct 0, 4, .inl (fun _ => 0))), (s_p2, .inl (ct 0, 48, .inl (fun _ => 0))), (s_p3, .inl (ct 0, 48, .inl (fun _ => 0))), (s_p4, .inl (ct 0, 48, .inl (fun _ => 0))), (s_re, .inr (8, [.int 30, .int 5, .ref s_ra, .int 0, .int 0])), (s_ra, .inl (ct 0, 150, .inl (fun _ => 0))), (s_lo, .inr (8, [.int 60, .int 4, .ref s_la, .int 0, .int 0])), (s_la, .inl (ct 0, 240, .inl (fun _ => 0))), (w, .inr (9, [.int 0, .ref w_se, .ref w_cu, .ref w_pr, .int 0, .ref w_ch, .ref w_re, .ref w_lo])), (w_se, .inr (7, [.int 990, .int 100000, .int 100, .int 5, .int 0, .int 5000, .int 600, .int 250, .int 0, .int 5000, .int 1000, .int 0])), (w_cu, .inr (2, [.int 0, .ref w_c1, .ref w_c2, .ref w_c3])), (w_c1, .inl (ct 1, 4, .inr (.inl (fun _ => 0)))), (w_c2, .inl (ct 0, 4, .inl (fun _ => 0))), (w_c3, .inl (ct 0, 44, .inl (fun _ => 0))), (w_pr, .inr (5, [.int 0, .ref w_p1, .ref w_p2, .ref w_p3, .ref w_p4])), (w_p1, .inl (ct 0, 4, .inl (fun _ => 0))), (w_p2, .inl (ct 0, 48, .inl (fun _ => 0))), (w_p3, .inl (ct 0, 48, .inl (fun _ => 0))), (w_p4, .inl (ct 0, 48, .inl (fun _ => 0))), (w_re, .inr (8, [.int 30, .int 5, .ref w_ra, .int 0, .int 0])), (w_ra, .inl (ct 0, 150, .inl (fun _ => 0))), (w_lo, .inr (8, [.int 60, .int 4, .ref w_la, .int 0, .int 0])), (w_la, .inl (ct 0, 240, .inl (fun _ => 0))), (ov, .inl (ct 1, 1, .inr (.inl f)))] s.heap.size = A at hD hX ⊢
  have hA : ∀ q : Nat, s.heap.size ≤ q → A q := fun q h => by rw [← hAe]; exact Or.inr h
  have hS : va_S A s.heap s.heap [] := va_S.rf
  have hl := lv_entry ([.ref x, .int p1, .ref ov]) (n := 4) (Nat.le_of_ble_eq_true rfl)
  rw [lg_entry_eq]
  generalize (lg_sl ([.ref x, .int p1, .ref ov]) ++ List.replicate (4 - (lg_sl ([.ref x, .int p1, .ref ov])).length) Slot.unset).toArray = ls at hl ⊢
  have hl : lv_has ls 4 [(0, .ref x), (1, .int p1), (2, .ref ov)] := hl
  refine lv_aload_n hx hb dL_tripsIn_0 rfl (lv_at hl 2 rfl) ?_
  refine lv_iconst (v := 0) hx hb dL_tripsIn_1 (by decide) ?_
  refine lv_aload_n hx hb dL_tripsIn_2 rfl (lv_at hl 0 rfl) ?_
  refine lv_iload_n hx hb dL_tripsIn_3 rfl (lv_at hl 1 rfl) ?_
  refine cm_xi (wr := [(ov, .inl (ct 1, 1, .inr (.inl f)))]) (vx_runV (As := [.int p1]) (rest := [.int 0, .ref ov]) ⟨hx, hb, hml, hown, hts⟩ (c_tripsIn_0 l hfl D ct x w sp sv bu s_se s_cu s_pr s_ch s_re s_lo s_c1 s_c2 s_c3 s_p1 s_p2 s_p3 s_p4 s_ra s_la w_se w_cu w_pr w_ch w_re w_lo w_c1 w_c2 w_c3 w_p1 w_p2 w_p3 w_p4 w_ra w_la p1 _) (cm_V 1 hts kc_X10_tripsIn ki_RX10 kl_RL_142 kv_X10_tripsIn kx_X10_tripsIn kd_X10_tripsIn ⟨Nat.le_of_ble_eq_true rfl, Nat.le_of_ble_eq_true rfl⟩) (cm_preV hP hK hD hS hA hX [0, 1, 2, 3, 4, 5, 6, 7, 8, 9, 10, 11, 12, 13, 14, 15, 16, 17, 18, 19, 20, 21, 22, 23, 24, 25, 26, 27, 28, 29, 30] rfl rfl rfl (q0 := 0) (ci := 10) rfl rfl) rfl rfl hl.1 rfl (lv_room (Nat.le_of_ble_eq_true rfl)) dL_tripsIn_4 ⟨Nat.le_of_ble_eq_true rfl, Nat.le_of_ble_eq_true rfl⟩) hP hD hS hA [0, 1, 2, 3, 4, 5, 6, 7, 8, 9, 10, 11, 12, 13, 14, 15, 16, 17, 18, 19, 20, 21, 22, 23, 24, 25, 26, 27, 28, 29, 30] [31] rfl rfl rfl (by decide) (fun E ce q9 u H locs hu hE hP hD hS hce hcv hcl => ?_) (fun r_1 u H locs hw_2 hP hD hS => ?_)
  · subst hE
    have hP : va_P D vwCl [(ov, .inl (ct 1, 1, .inr (.inl f))), (x, .inr (10, [.ref w, .ref sp, .ref sv, .ref bu, .int 0, .int 0]))] H := hP
    have hD : va_D A [(ov, .inl (ct 1, 1, .inr (.inl f))), (x, .inr (10, [.ref w, .ref sp, .ref sv, .ref bu, .int 0, .int 0]))] := hD
    refine vx_catch (name := "java/lang/IndexOutOfBoundsException") hown [] _ _ htab (fun z hz => absurd hz List.not_mem_nil) (by decide) (by decide) (hts _ kl_RL_32) (hts _ kcast_IOE) hce hcv hcl ?_
    refine W.eq (g2 := F0 m 12 ls [.ref q9]) rfl ?_
    refine lv_astore_n (lv' := [(3, .ref q9), (0, .ref x), (1, .int p1), (2, .ref ov)]) hx hb dL_tripsIn_12 rfl hl (by decide) rfl (fun ls hl => ?_)
    refine lv_iconst (v := 1) hx hb dL_tripsIn_13 (by decide) ?_
    have hP9 := hP.sub (ws' := []) [] rfl
    have hD9 := hD.sub (ws' := []) [] (by decide) rfl
    exact W.iret (v := 1) hx hb hr (fun t ht hW => ⟨⟨1, (), rfl, rfl, by rw [ht]; exact hP9, by rw [hAe]; exact hD9⟩, hS.F ht⟩) hS.2.2 dL_tripsIn_14
  · exact hw_2.elim
theorem dL_valueAfter_0 : decode cL_valueAfter 0 = .ok (.aload 4, 2) := by decide +kernel
theorem dL_valueAfter_2 : decode cL_valueAfter 2 = .ok (.iconst 0, 1) := by decide +kernel
theorem dL_valueAfter_3 : decode cL_valueAfter 3 = .ok (.aload_n 0, 1) := by decide +kernel
theorem dL_valueAfter_4 : decode cL_valueAfter 4 = .ok (.iload_n 1, 1) := by decide +kernel
theorem dL_valueAfter_5 : decode cL_valueAfter 5 = .ok (.iload_n 2, 1) := by decide +kernel
theorem dL_valueAfter_6 : decode cL_valueAfter 6 = .ok (.iload_n 3, 1) := by decide +kernel
theorem dL_valueAfter_7 : decode cL_valueAfter 7 = .ok (.invokevirtual 145, 3) := by decide +kernel
theorem dL_valueAfter_15 : decode cL_valueAfter 15 = .ok (.astore 5, 2) := by decide +kernel
theorem dL_valueAfter_17 : decode cL_valueAfter 17 = .ok (.iconst 1, 1) := by decide +kernel
theorem dL_valueAfter_18 : decode cL_valueAfter 18 = .ok (.ireturn, 1) := by decide +kernel
set_option maxRecDepth 100000 in
set_option maxHeartbeats 4000000 in
theorem l_valueAfter (l : Launch) (hfl : l.stackTraces = false) (D : va_G) (ct : Nat → ClassId) (x : Nat) (w : Nat) (sp : Nat) (sv : Nat) (bu : Nat) (s_se : Nat) (s_cu : Nat) (s_pr : Nat) (s_ch : Nat) (s_re : Nat) (s_lo : Nat) (s_c1 : Nat) (s_c2 : Nat) (s_c3 : Nat) (s_p1 : Nat) (s_p2 : Nat) (s_p3 : Nat) (s_p4 : Nat) (s_ra : Nat) (s_la : Nat) (w_se : Nat) (w_cu : Nat) (w_pr : Nat) (w_ch : Nat) (w_re : Nat) (w_lo : Nat) (w_c1 : Nat) (w_c2 : Nat) (w_c3 : Nat) (w_p1 : Nat) (w_p2 : Nat) (w_p3 : Nat) (w_p4 : Nat) (w_ra : Nat) (w_la : Nat) (ov : Nat) (f : Nat → Int64) (p1 : Int32) (p2 : Int32) (p3 : Int32) (sz : Nat) : Met l yL_valueAfter (wsw_ yL_valueAfter cL_valueAfter 6 (some .int) [(0, 12, 15, 32), (0, 12, 19, 13)]) ({ frames := 8, cells := 1, slots := 6, locals := 193 } : Room) (va_Pc [.ref x, .int p1, .int p2, .int p3, .ref ov] (cmP D ct sz [(x, .inr (10, [.ref w, .ref sp, .ref sv, .ref bu, .int 0, .int 0])), (sp, .inr (9, [.int 0, .ref s_se, .ref s_cu, .ref s_pr, .int 0, .ref s_ch, .ref s_re, .ref s_lo])), (s_se, .inr (7, [.int 990, .int 100000, .int 100, .int 5, .int 0, .int 5000, .int 600, .int 250, .int 0, .int 5000, .int 1000, .int 0])), (s_cu, .inr (2, [.int 0, .ref s_c1, .ref s_c2, .ref s_c3])), (s_c1, .inl (ct 1, 4, .inr (.inl (fun _ => 0)))), (s_c2, .inl (ct 0, 4, .inl (fun _ => 0))), (s_c3, .inl (ct 0, 44, .inl (fun _ => 0))), (s_pr, .inr (5, [.int 0, .ref s_p1, .ref s_p2, .ref s_p3, .ref s_p4])), (s_p1, .inl (ct 0, 4, .inl (fun _ => 0))), (s_p2, .inl (ct 0, 48, .inl (fun _ => 0))), (s_p3, .inl (ct 0, 48, .inl (fun _ => 0))), (s_p4, .inl (ct 0, 48, .inl (fun _ => 0))), (s_re, .inr (8, [.int 30, .int 5, .ref s_ra, .int 0, .int 0])), (s_ra, .inl (ct 0, 150, .inl (fun _ => 0))), (s_lo, .inr (8, [.int 60, .int 4, .ref s_la, .int 0, .int 0])), (s_la, .inl (ct 0, 240, .inl (fun _ => 0))), (w, .inr (9, [.int 0, .ref w_se, .ref w_cu, .ref w_pr, .int 0, .ref w_ch, .ref w_re, .ref w_lo])), (w_se, .inr (7, [.int 990, .int 100000, .int 100, .int 5, .int 0, .int 5000, .int 600, .int 250, .int 0, .int 5000, .int 1000, .int 0])), (w_cu, .inr (2, [.int 0, .ref w_c1, .ref w_c2, .ref w_c3])), (w_c1, .inl (ct 1, 4, .inr (.inl (fun _ => 0)))), (w_c2, .inl (ct 0, 4, .inl (fun _ => 0))), (w_c3, .inl (ct 0, 44, .inl (fun _ => 0))), (w_pr, .inr (5, [.int 0, .ref w_p1, .ref w_p2, .ref w_p3, .ref w_p4])), (w_p1, .inl (ct 0, 4, .inl (fun _ => 0))), (w_p2, .inl (ct 0, 48, .inl (fun _ => 0))), (w_p3, .inl (ct 0, 48, .inl (fun _ => 0))), (w_p4, .inl (ct 0, 48, .inl (fun _ => 0))), (w_re, .inr (8, [.int 30, .int 5, .ref w_ra, .int 0, .int 0])), (w_ra, .inl (ct 0, 150, .inl (fun _ => 0))), (w_lo, .inr (8, [.int 60, .int 4, .ref w_la, .int 0, .int 0])), (w_la, .inl (ct 0, 240, .inl (fun _ => 0))), (ov, .inl (ct 1, 1, .inr (.inl f)))])) (va_Qi (fun (r : Int32) (_ : Unit) => r = 1) (cmB D [(x, .inr (10, [.ref w, .ref sp, .ref sv, .ref bu, .int 0, .int 0])), (sp, .inr (9, [.int 0, .ref s_se, .ref s_cu, .ref s_pr, .int 0, .ref s_ch, .ref s_re, .ref s_lo])), (s_se, .inr (7, [.int 990, .int 100000, .int 100, .int 5, .int 0, .int 5000, .int 600, .int 250, .int 0, .int 5000, .int 1000, .int 0])), (s_cu, .inr (2, [.int 0, .ref s_c1, .ref s_c2, .ref s_c3])), (s_c1, .inl (ct 1, 4, .inr (.inl (fun _ => 0)))), (s_c2, .inl (ct 0, 4, .inl (fun _ => 0))), (s_c3, .inl (ct 0, 44, .inl (fun _ => 0))), (s_pr, .inr (5, [.int 0, .ref s_p1, .ref s_p2, .ref s_p3, .ref s_p4])), (s_p1, .inl (ct 0, 4, .inl (fun _ => 0))), (s_p2, .inl (ct 0, 48, .inl (fun _ => 0))), (s_p3, .inl (ct 0, 48, .inl (fun _ => 0))), (s_p4, .inl (ct 0, 48, .inl (fun _ => 0))), (s_re, .inr (8, [.int 30, .int 5, .ref s_ra, .int 0, .int 0])), (s_ra, .inl (ct 0, 150, .inl (fun _ => 0))), (s_lo, .inr (8, [.int 60, .int 4, .ref s_la, .int 0, .int 0])), (s_la, .inl (ct 0, 240, .inl (fun _ => 0))), (w, .inr (9, [.int 0, .ref w_se, .ref w_cu, .ref w_pr, .int 0, .ref w_ch, .ref w_re, .ref w_lo])), (w_se, .inr (7, [.int 990, .int 100000, .int 100, .int 5, .int 0, .int 5000, .int 600, .int 250, .int 0, .int 5000, .int 1000, .int 0])), (w_cu, .inr (2, [.int 0, .ref w_c1, .ref w_c2, .ref w_c3])), (w_c1, .inl (ct 1, 4, .inr (.inl (fun _ => 0)))), (w_c2, .inl (ct 0, 4, .inl (fun _ => 0))), (w_c3, .inl (ct 0, 44, .inl (fun _ => 0))), (w_pr, .inr (5, [.int 0, .ref w_p1, .ref w_p2, .ref w_p3, .ref w_p4])), (w_p1, .inl (ct 0, 4, .inl (fun _ => 0))), (w_p2, .inl (ct 0, 48, .inl (fun _ => 0))), (w_p3, .inl (ct 0, 48, .inl (fun _ => 0))), (w_p4, .inl (ct 0, 48, .inl (fun _ => 0))), (w_re, .inr (8, [.int 30, .int 5, .ref w_ra, .int 0, .int 0])), (w_ra, .inl (ct 0, 150, .inl (fun _ => 0))), (w_lo, .inr (8, [.int 60, .int 4, .ref w_la, .int 0, .int 0])), (w_la, .inl (ct 0, 240, .inl (fun _ => 0))), (ov, .inl (ct 1, 1, .inr (.inl f)))] sz (fun _ : Unit => [])) (va_A [(x, .inr (10, [.ref w, .ref sp, .ref sv, .ref bu, .int 0, .int 0])), (sp, .inr (9, [.int 0, .ref s_se, .ref s_cu, .ref s_pr, .int 0, .ref s_ch, .ref s_re, .ref s_lo])), (s_se, .inr (7, [.int 990, .int 100000, .int 100, .int 5, .int 0, .int 5000, .int 600, .int 250, .int 0, .int 5000, .int 1000, .int 0])), (s_cu, .inr (2, [.int 0, .ref s_c1, .ref s_c2, .ref s_c3])), (s_c1, .inl (ct 1, 4, .inr (.inl (fun _ => 0)))), (s_c2, .inl (ct 0, 4, .inl (fun _ => 0))), (s_c3, .inl (ct 0, 44, .inl (fun _ => 0))), (s_pr, .inr (5, [.int 0, .ref s_p1, .ref s_p2, .ref s_p3, .ref s_p4])), (s_p1, .inl (ct 0, 4, .inl (fun _ => 0))), (s_p2, .inl (ct 0, 48, .inl (fun _ => 0))), (s_p3, .inl (ct 0, 48, .inl (fun _ => 0))), (s_p4, .inl (ct 0, 48, .inl (fun _ => 0))), (s_re, .inr (8, [.int 30, .int 5, .ref s_ra, .int 0, .int 0])), (s_ra, .inl (ct 0, 150, .inl (fun _ => 0))), (s_lo, .inr (8, [.int 60, .int 4, .ref s_la, .int 0, .int 0])), (s_la, .inl (ct 0, 240, .inl (fun _ => 0))), (w, .inr (9, [.int 0, .ref w_se, .ref w_cu, .ref w_pr, .int 0, .ref w_ch, .ref w_re, .ref w_lo])), (w_se, .inr (7, [.int 990, .int 100000, .int 100, .int 5, .int 0, .int 5000, .int 600, .int 250, .int 0, .int 5000, .int 1000, .int 0])), (w_cu, .inr (2, [.int 0, .ref w_c1, .ref w_c2, .ref w_c3])), (w_c1, .inl (ct 1, 4, .inr (.inl (fun _ => 0)))), (w_c2, .inl (ct 0, 4, .inl (fun _ => 0))), (w_c3, .inl (ct 0, 44, .inl (fun _ => 0))), (w_pr, .inr (5, [.int 0, .ref w_p1, .ref w_p2, .ref w_p3, .ref w_p4])), (w_p1, .inl (ct 0, 4, .inl (fun _ => 0))), (w_p2, .inl (ct 0, 48, .inl (fun _ => 0))), (w_p3, .inl (ct 0, 48, .inl (fun _ => 0))), (w_p4, .inl (ct 0, 48, .inl (fun _ => 0))), (w_re, .inr (8, [.int 30, .int 5, .ref w_ra, .int 0, .int 0])), (w_ra, .inl (ct 0, 150, .inl (fun _ => 0))), (w_lo, .inr (8, [.int 60, .int 4, .ref w_la, .int 0, .int 0])), (w_la, .inl (ct 0, 240, .inl (fun _ => 0))), (ov, .inl (ct 1, 1, .inr (.inl f)))] sz)) 1 6 (va_A [(x, .inr (10, [.ref w, .ref sp, .ref sv, .ref bu, .int 0, .int 0])), (sp, .inr (9, [.int 0, .ref s_se, .ref s_cu, .ref s_pr, .int 0, .ref s_ch, .ref s_re, .ref s_lo])), (s_se, .inr (7, [.int 990, .int 100000, .int 100, .int 5, .int 0, .int 5000, .int 600, .int 250, .int 0, .int 5000, .int 1000, .int 0])), (s_cu, .inr (2, [.int 0, .ref s_c1, .ref s_c2, .ref s_c3])), (s_c1, .inl (ct 1, 4, .inr (.inl (fun _ => 0)))), (s_c2, .inl (ct 0, 4, .inl (fun _ => 0))), (s_c3, .inl (ct 0, 44, .inl (fun _ => 0))), (s_pr, .inr (5, [.int 0, .ref s_p1, .ref s_p2, .ref s_p3, .ref s_p4])), (s_p1, .inl (ct 0, 4, .inl (fun _ => 0))), (s_p2, .inl (ct 0, 48, .inl (fun _ => 0))), (s_p3, .inl (ct 0, 48, .inl (fun _ => 0))), (s_p4, .inl (ct 0, 48, .inl (fun _ => 0))), (s_re, .inr (8, [.int 30, .int 5, .ref s_ra, .int 0, .int 0])), (s_ra, .inl (ct 0, 150, .inl (fun _ => 0))), (s_lo, .inr (8, [.int 60, .int 4, .ref s_la, .int 0, .int 0])), (s_la, .inl (ct 0, 240, .inl (fun _ => 0))), (w, .inr (9, [.int 0, .ref w_se, .ref w_cu, .ref w_pr, .int 0, .ref w_ch, .ref w_re, .ref w_lo])), (w_se, .inr (7, [.int 990, .int 100000, .int 100, .int 5, .int 0, .int 5000, .int 600, .int 250, .int 0, .int 5000, .int 1000, .int 0])), (w_cu, .inr (2, [.int 0, .ref w_c1, .ref w_c2, .ref w_c3])), (w_c1, .inl (ct 1, 4, .inr (.inl (fun _ => 0)))), (w_c2, .inl (ct 0, 4, .inl (fun _ => 0))), (w_c3, .inl (ct 0, 44, .inl (fun _ => 0))), (w_pr, .inr (5, [.int 0, .ref w_p1, .ref w_p2, .ref w_p3, .ref w_p4])), (w_p1, .inl (ct 0, 4, .inl (fun _ => 0))), (w_p2, .inl (ct 0, 48, .inl (fun _ => 0))), (w_p3, .inl (ct 0, 48, .inl (fun _ => 0))), (w_p4, .inl (ct 0, 48, .inl (fun _ => 0))), (w_re, .inr (8, [.int 30, .int 5, .ref w_ra, .int 0, .int 0])), (w_ra, .inl (ct 0, 150, .inl (fun _ => 0))), (w_lo, .inr (8, [.int 60, .int 4, .ref w_la, .int 0, .int 0])), (w_la, .inl (ct 0, 240, .inl (fun _ => 0))), (ov, .inl (ct 1, 1, .inr (.inl f)))] sz) := by
  refine va_MetW (cc := cL_valueAfter) (maxL := 6) (ret := (some .int)) (hh := [(0, 12, 15, 32), (0, 12, 19, 13)]) (by decide) rfl ?_
  intro p e s m args below meth c s₁ B hml hv
  have hts0 := atoms_spec (ws := wsw_ yL_valueAfter cL_valueAfter 6 (some .int) [(0, 12, 15, 32), (0, 12, 19, 13)]) B.pre
  have hts : ∀ w ∈ cm_all, w.before args s = true := fun w h => hts0 w (List.mem_cons_of_mem _ h)
  obtain ⟨rfl, hsz, hP, hK, hD0, hX⟩ := hv
  have hx := B.exec
  have hb := B.bytes
  have hr := B.returns
  have htab := vx_table (x := yL_valueAfter) B (hts0 _ List.mem_cons_self)
  have hown : s.vm.findClass RL = some m.cls := findClass_of_methodNamed B.named
  have hlocks := B.notSynchronized
  subst hsz
  have hD := hD0.self (sz := s.heap.size)
  generalize hAe : va_A [(x, .inr (10, [.ref w, .ref sp, .ref sv, .ref bu, .int 0, .int 0])), (sp, .inr (9, [.int 0, .ref s_se, .ref s_cu, .ref s_pr, .int 0, .ref s_ch, .ref s_re, .ref s_lo])), (s_se, .inr (7, [.int 990, .int 100000, .int 100, .int 5, .int 0, .int 5000, .int 600, .int 250, .int 0, .int 5000, .int 1000, .int 0])), (s_cu, .inr (2, [.int 0, .ref s_c1, .ref s_c2, .ref s_c3])), (s_c1, .inl (ct 1, 4, .inr (.inl (fun _ => 0)))), (s_c2, .inl (ct 0, 4, .inl (fun _ => 0))), (s_c3, .inl (ct 0, 44, .inl (fun _ => 0))), (s_pr, .inr (5, [.int 0, .ref s_p1, .ref s_p2, .ref s_p3, .ref s_p4])), (s_p1, .inl (ct 0, 4, .inl (fun _ => 0))), (s_p2, .inl (ct 0, 48, .inl (fun _ => 0))), (s_p3, .inl (ct 0, 48, .inl (fun _ => 0))), (s_p4, .inl (ct 0, 48, .inl (fun _ => 0))), (s_re, .inr (8, [.int 30, .int 5, .ref s_ra, .int 0, .int 0])), (s_ra, .inl (ct 0, 150, .inl (fun _ => 0))), (s_lo, .inr (8, [.int 60, .int 4, .ref s_la, .int 0, .int 0])), (s_la, .inl (ct 0, 240, .inl (fun _ => 0))), (w, .inr (9, [.int 0, .ref w_se, .ref w_cu, .ref w_pr, .int 0, .ref w_ch, .ref w_re, .ref w_lo])), (w_se, .inr (7, [.int 990, .int 100000, .int 100, .int 5, .int 0, .int 5000, .int 600, .int 250, .int 0, .int 5000, .int 1000, .int 0])), (w_cu, .inr (2, [.int 0, .ref w_c1, .ref w_c2, .ref w_c3])), (w_c1, .inl (ct 1, 4, .inr (.inl (fun _ => 0)))), (w_c2, .inl (ct 0, 4, .inl (fun _ => 0))), (w_c3, .inl (ct 0, 44, .inl (fun _ => 0))), (w_pr, .inr (5, [.int 0, .ref w_p1, .ref w_p2, .ref w_p3, .ref w_p4])), (w_p1, .inl (ct 0, 4, .inl (fun _ => 0))), (w_p2, .inl (ct 0, 48, .inl (fun _ => 0))), (w_p3, .inl (ct 0, 48, .inl (fun _ => 0))), (w_p4, .inl (ct 0, 48, .inl (fun _ => 0))), (w_re, .inr (8, [.int 30, .int 5, .ref w_ra, .int 0, .int 0])), (w_ra, .inl (ct 0, 150, .inl (fun _ => 0))), (w_lo, .inr (8, [.int 60, .int 4, .ref w_la, .int 0, .int 0])), (w_la, .inl (ct 0, 240, .inl (fun _ => 0))), (ov, .inl (ct 1, 1, .inr (.inl f)))] s.heap.size = A at hD hX ⊢
  have hA : ∀ q : Nat, s.heap.size ≤ q → A q := fun q h => by rw [← hAe]; exact Or.inr h
  have hS : va_S A s.heap s.heap [] := va_S.rf
  have hl := lv_entry ([.ref x, .int p1, .int p2, .int p3, .ref ov]) (n := 6) (Nat.le_of_ble_eq_true rfl)
  rw [lg_entry_eq]
  generalize (lg_sl ([.ref x, .int p1, .int p2, .int p3, .ref ov]) ++ List.replicate (6 - (lg_sl ([.ref x, .int p1, .int p2, .int p3, .ref ov])).length) Slot.unset).toArray = ls at hl ⊢
  have hl : lv_has ls 6 [(0, .ref x), (1, .int p1), (2, .int p2), (3, .int p3), (4, .ref ov)] := hl
  refine lv_aload hx hb dL_valueAfter_0 (lv_at hl 4 rfl) ?_
  refine lv_iconst (v := 0) hx hb dL_valueAfter_2 (by decide) ?_
  refine lv_aload_n hx hb dL_valueAfter_3 rfl (lv_at hl 0 rfl) ?_
  refine lv_iload_n hx hb dL_valueAfter_4 rfl (lv_at hl 1 rfl) ?_
  refine lv_iload_n hx hb dL_valueAfter_5 rfl (lv_at hl 2 rfl) ?_
  refine lv_iload_n hx hb dL_valueAfter_6 rfl (lv_at hl 3 rfl) ?_
  refine cm_xi (wr := [(ov, .inl (ct 1, 1, .inr (.inl f)))]) (vx_runV (As := [.int p1, .int p2, .int p3]) (rest := [.int 0, .ref ov]) ⟨hx, hb, hml, hown, hts⟩ (c_valueAfter_0 l hfl D ct x w sp sv bu s_se s_cu s_pr s_ch s_re s_lo s_c1 s_c2 s_c3 s_p1 s_p2 s_p3 s_p4 s_ra s_la w_se w_cu w_pr w_ch w_re w_lo w_c1 w_c2 w_c3 w_p1 w_p2 w_p3 w_p4 w_ra w_la p1 p2 p3 _) (cm_V 3 hts kc_X10_valueAfter ki_RX10 kl_RL_145 kv_X10_valueAfter kx_X10_valueAfter kd_X10_valueAfter ⟨Nat.le_of_ble_eq_true rfl, Nat.le_of_ble_eq_true rfl⟩) (cm_preV hP hK hD hS hA hX [0, 1, 2, 3, 4, 5, 6, 7, 8, 9, 10, 11, 12, 13, 14, 15, 16, 17, 18, 19, 20, 21, 22, 23, 24, 25, 26, 27, 28, 29, 30] rfl rfl rfl (q0 := 0) (ci := 10) rfl rfl) rfl rfl hl.1 rfl (lv_room (Nat.le_of_ble_eq_true rfl)) dL_valueAfter_7 ⟨Nat.le_of_ble_eq_true rfl, Nat.le_of_ble_eq_true rfl⟩) hP hD hS hA [0, 1, 2, 3, 4, 5, 6, 7, 8, 9, 10, 11, 12, 13, 14, 15, 16, 17, 18, 19, 20, 21, 22, 23, 24, 25, 26, 27, 28, 29, 30] [31] rfl rfl rfl (by decide) (fun E ce q9 u H locs hu hE hP hD hS hce hcv hcl => ?_) (fun r_1 u H locs hw_2 hP hD hS => ?_)
  · subst hE
    have hP : va_P D vwCl [(ov, .inl (ct 1, 1, .inr (.inl f))), (x, .inr (10, [.ref w, .ref sp, .ref sv, .ref bu, .int 0, .int 0]))] H := hP
    have hD : va_D A [(ov, .inl (ct 1, 1, .inr (.inl f))), (x, .inr (10, [.ref w, .ref sp, .ref sv, .ref bu, .int 0, .int 0]))] := hD
    refine vx_catch (name := "java/lang/IndexOutOfBoundsException") hown [] _ _ htab (fun z hz => absurd hz List.not_mem_nil) (by decide) (by decide) (hts _ kl_RL_32) (hts _ kcast_IOE) hce hcv hcl ?_
    refine W.eq (g2 := F0 m 15 ls [.ref q9]) rfl ?_
    refine lv_astore (lv' := [(5, .ref q9), (0, .ref x), (1, .int p1), (2, .int p2), (3, .int p3), (4, .ref ov)]) hx hb dL_valueAfter_15 hl (by decide) rfl (fun ls hl => ?_)
    refine lv_iconst (v := 1) hx hb dL_valueAfter_17 (by decide) ?_
    have hP9 := hP.sub (ws' := []) [] rfl
    have hD9 := hD.sub (ws' := []) [] (by decide) rfl
    exact W.iret (v := 1) hx hb hr (fun t ht hW => ⟨⟨1, (), rfl, rfl, by rw [ht]; exact hP9, by rw [hAe]; exact hD9⟩, hS.F ht⟩) hS.2.2 dL_valueAfter_18
  · exact hw_2.elim
theorem dL_peakTemperature_0 : decode cL_peakTemperature 0 = .ok (.aload_n 3, 1) := by decide +kernel
theorem dL_peakTemperature_1 : decode cL_peakTemperature 1 = .ok (.iconst 0, 1) := by decide +kernel
theorem dL_peakTemperature_2 : decode cL_peakTemperature 2 = .ok (.aload_n 0, 1) := by decide +kernel
theorem dL_peakTemperature_3 : decode cL_peakTemperature 3 = .ok (.iload_n 1, 1) := by decide +kernel
theorem dL_peakTemperature_4 : decode cL_peakTemperature 4 = .ok (.iload_n 2, 1) := by decide +kernel
theorem dL_peakTemperature_5 : decode cL_peakTemperature 5 = .ok (.invokevirtual 148, 3) := by decide +kernel
theorem dL_peakTemperature_13 : decode cL_peakTemperature 13 = .ok (.astore 4, 2) := by decide +kernel
theorem dL_peakTemperature_15 : decode cL_peakTemperature 15 = .ok (.iconst 1, 1) := by decide +kernel
theorem dL_peakTemperature_16 : decode cL_peakTemperature 16 = .ok (.ireturn, 1) := by decide +kernel
set_option maxRecDepth 100000 in
set_option maxHeartbeats 4000000 in
theorem l_peakTemperature (l : Launch) (hfl : l.stackTraces = false) (D : va_G) (ct : Nat → ClassId) (x : Nat) (w : Nat) (sp : Nat) (sv : Nat) (bu : Nat) (s_se : Nat) (s_cu : Nat) (s_pr : Nat) (s_ch : Nat) (s_re : Nat) (s_lo : Nat) (s_c1 : Nat) (s_c2 : Nat) (s_c3 : Nat) (s_p1 : Nat) (s_p2 : Nat) (s_p3 : Nat) (s_p4 : Nat) (s_ra : Nat) (s_la : Nat) (w_se : Nat) (w_cu : Nat) (w_pr : Nat) (w_ch : Nat) (w_re : Nat) (w_lo : Nat) (w_c1 : Nat) (w_c2 : Nat) (w_c3 : Nat) (w_p1 : Nat) (w_p2 : Nat) (w_p3 : Nat) (w_p4 : Nat) (w_ra : Nat) (w_la : Nat) (ov : Nat) (f : Nat → Int64) (p1 : Int32) (p2 : Int32) (sz : Nat) : Met l yL_peakTemperature (wsw_ yL_peakTemperature cL_peakTemperature 5 (some .int) [(0, 10, 13, 32), (0, 10, 17, 13)]) ({ frames := 8, cells := 1, slots := 6, locals := 193 } : Room) (va_Pc [.ref x, .int p1, .int p2, .ref ov] (cmP D ct sz [(x, .inr (10, [.ref w, .ref sp, .ref sv, .ref bu, .int 0, .int 0])), (sp, .inr (9, [.int 0, .ref s_se, .ref s_cu, .ref s_pr, .int 0, .ref s_ch, .ref s_re, .ref s_lo])), (s_se, .inr (7, [.int 990, .int 100000, .int 100, .int 5, .int 0, .int 5000, .int 600, .int 250, .int 0, .int 5000, .int 1000, .int 0])), (s_cu, .inr (2, [.int 0, .ref s_c1, .ref s_c2, .ref s_c3])), (s_c1, .inl (ct 1, 4, .inr (.inl (fun _ => 0)))), (s_c2, .inl (ct 0, 4, .inl (fun _ => 0))), (s_c3, .inl (ct 0, 44, .inl (fun _ => 0))), (s_pr, .inr (5, [.int 0, .ref s_p1, .ref s_p2, .ref s_p3, .ref s_p4])), (s_p1, .inl (ct 0, 4, .inl (fun _ => 0))), (s_p2, .inl (ct 0, 48, .inl (fun _ => 0))), (s_p3, .inl (ct 0, 48, .inl (fun _ => 0))), (s_p4, .inl (ct 0, 48, .inl (fun _ => 0))), (s_re, .inr (8, [.int 30, .int 5, .ref s_ra, .int 0, .int 0])), (s_ra, .inl (ct 0, 150, .inl (fun _ => 0))), (s_lo, .inr (8, [.int 60, .int 4, .ref s_la, .int 0, .int 0])), (s_la, .inl (ct 0, 240, .inl (fun _ => 0))), (w, .inr (9, [.int 0, .ref w_se, .ref w_cu, .ref w_pr, .int 0, .ref w_ch, .ref w_re, .ref w_lo])), (w_se, .inr (7, [.int 990, .int 100000, .int 100, .int 5, .int 0, .int 5000, .int 600, .int 250, .int 0, .int 5000, .int 1000, .int 0])), (w_cu, .inr (2, [.int 0, .ref w_c1, .ref w_c2, .ref w_c3])), (w_c1, .inl (ct 1, 4, .inr (.inl (fun _ => 0)))), (w_c2, .inl (ct 0, 4, .inl (fun _ => 0))), (w_c3, .inl (ct 0, 44, .inl (fun _ => 0))), (w_pr, .inr (5, [.int 0, .ref w_p1, .ref w_p2, .ref w_p3, .ref w_p4])), (w_p1, .inl (ct 0, 4, .inl (fun _ => 0))), (w_p2, .inl (ct 0, 48, .inl (fun _ => 0))), (w_p3, .inl (ct 0, 48, .inl (fun _ => 0))), (w_p4, .inl (ct 0, 48, .inl (fun _ => 0))), (w_re, .inr (8, [.int 30, .int 5, .ref w_ra, .int 0, .int 0])), (w_ra, .inl (ct 0, 150, .inl (fun _ => 0))), (w_lo, .inr (8, [.int 60, .int 4, .ref w_la, .int 0, .int 0])), (w_la, .inl (ct 0, 240, .inl (fun _ => 0))), (ov, .inl (ct 1, 1, .inr (.inl f)))])) (va_Qi (fun (r : Int32) (_ : Unit) => r = 1) (cmB D [(x, .inr (10, [.ref w, .ref sp, .ref sv, .ref bu, .int 0, .int 0])), (sp, .inr (9, [.int 0, .ref s_se, .ref s_cu, .ref s_pr, .int 0, .ref s_ch, .ref s_re, .ref s_lo])), (s_se, .inr (7, [.int 990, .int 100000, .int 100, .int 5, .int 0, .int 5000, .int 600, .int 250, .int 0, .int 5000, .int 1000, .int 0])), (s_cu, .inr (2, [.int 0, .ref s_c1, .ref s_c2, .ref s_c3])), (s_c1, .inl (ct 1, 4, .inr (.inl (fun _ => 0)))), (s_c2, .inl (ct 0, 4, .inl (fun _ => 0))), (s_c3, .inl (ct 0, 44, .inl (fun _ => 0))), (s_pr, .inr (5, [.int 0, .ref s_p1, .ref s_p2, .ref s_p3, .ref s_p4])), (s_p1, .inl (ct 0, 4, .inl (fun _ => 0))), (s_p2, .inl (ct 0, 48, .inl (fun _ => 0))), (s_p3, .inl (ct 0, 48, .inl (fun _ => 0))), (s_p4, .inl (ct 0, 48, .inl (fun _ => 0))), (s_re, .inr (8, [.int 30, .int 5, .ref s_ra, .int 0, .int 0])), (s_ra, .inl (ct 0, 150, .inl (fun _ => 0))), (s_lo, .inr (8, [.int 60, .int 4, .ref s_la, .int 0, .int 0])), (s_la, .inl (ct 0, 240, .inl (fun _ => 0))), (w, .inr (9, [.int 0, .ref w_se, .ref w_cu, .ref w_pr, .int 0, .ref w_ch, .ref w_re, .ref w_lo])), (w_se, .inr (7, [.int 990, .int 100000, .int 100, .int 5, .int 0, .int 5000, .int 600, .int 250, .int 0, .int 5000, .int 1000, .int 0])), (w_cu, .inr (2, [.int 0, .ref w_c1, .ref w_c2, .ref w_c3])), (w_c1, .inl (ct 1, 4, .inr (.inl (fun _ => 0)))), (w_c2, .inl (ct 0, 4, .inl (fun _ => 0))), (w_c3, .inl (ct 0, 44, .inl (fun _ => 0))), (w_pr, .inr (5, [.int 0, .ref w_p1, .ref w_p2, .ref w_p3, .ref w_p4])), (w_p1, .inl (ct 0, 4, .inl (fun _ => 0))), (w_p2, .inl (ct 0, 48, .inl (fun _ => 0))), (w_p3, .inl (ct 0, 48, .inl (fun _ => 0))), (w_p4, .inl (ct 0, 48, .inl (fun _ => 0))), (w_re, .inr (8, [.int 30, .int 5, .ref w_ra, .int 0, .int 0])), (w_ra, .inl (ct 0, 150, .inl (fun _ => 0))), (w_lo, .inr (8, [.int 60, .int 4, .ref w_la, .int 0, .int 0])), (w_la, .inl (ct 0, 240, .inl (fun _ => 0))), (ov, .inl (ct 1, 1, .inr (.inl f)))] sz (fun _ : Unit => [])) (va_A [(x, .inr (10, [.ref w, .ref sp, .ref sv, .ref bu, .int 0, .int 0])), (sp, .inr (9, [.int 0, .ref s_se, .ref s_cu, .ref s_pr, .int 0, .ref s_ch, .ref s_re, .ref s_lo])), (s_se, .inr (7, [.int 990, .int 100000, .int 100, .int 5, .int 0, .int 5000, .int 600, .int 250, .int 0, .int 5000, .int 1000, .int 0])), (s_cu, .inr (2, [.int 0, .ref s_c1, .ref s_c2, .ref s_c3])), (s_c1, .inl (ct 1, 4, .inr (.inl (fun _ => 0)))), (s_c2, .inl (ct 0, 4, .inl (fun _ => 0))), (s_c3, .inl (ct 0, 44, .inl (fun _ => 0))), (s_pr, .inr (5, [.int 0, .ref s_p1, .ref s_p2, .ref s_p3, .ref s_p4])), (s_p1, .inl (ct 0, 4, .inl (fun _ => 0))), (s_p2, .inl (ct 0, 48, .inl (fun _ => 0))), (s_p3, .inl (ct 0, 48, .inl (fun _ => 0))), (s_p4, .inl (ct 0, 48, .inl (fun _ => 0))), (s_re, .inr (8, [.int 30, .int 5, .ref s_ra, .int 0, .int 0])), (s_ra, .inl (ct 0, 150, .inl (fun _ => 0))), (s_lo, .inr (8, [.int 60, .int 4, .ref s_la, .int 0, .int 0])), (s_la, .inl (ct 0, 240, .inl (fun _ => 0))), (w, .inr (9, [.int 0, .ref w_se, .ref w_cu, .ref w_pr, .int 0, .ref w_ch, .ref w_re, .ref w_lo])), (w_se, .inr (7, [.int 990, .int 100000, .int 100, .int 5, .int 0, .int 5000, .int 600, .int 250, .int 0, .int 5000, .int 1000, .int 0])), (w_cu, .inr (2, [.int 0, .ref w_c1, .ref w_c2, .ref w_c3])), (w_c1, .inl (ct 1, 4, .inr (.inl (fun _ => 0)))), (w_c2, .inl (ct 0, 4, .inl (fun _ => 0))), (w_c3, .inl (ct 0, 44, .inl (fun _ => 0))), (w_pr, .inr (5, [.int 0, .ref w_p1, .ref w_p2, .ref w_p3, .ref w_p4])), (w_p1, .inl (ct 0, 4, .inl (fun _ => 0))), (w_p2, .inl (ct 0, 48, .inl (fun _ => 0))), (w_p3, .inl (ct 0, 48, .inl (fun _ => 0))), (w_p4, .inl (ct 0, 48, .inl (fun _ => 0))), (w_re, .inr (8, [.int 30, .int 5, .ref w_ra, .int 0, .int 0])), (w_ra, .inl (ct 0, 150, .inl (fun _ => 0))), (w_lo, .inr (8, [.int 60, .int 4, .ref w_la, .int 0, .int 0])), (w_la, .inl (ct 0, 240, .inl (fun _ => 0))), (ov, .inl (ct 1, 1, .inr (.inl f)))] sz)) 1 6 (va_A [(x, .inr (10, [.ref w, .ref sp, .ref sv, .ref bu, .int 0, .int 0])), (sp, .inr (9, [.int 0, .ref s_se, .ref s_cu, .ref s_pr, .int 0, .ref s_ch, .ref s_re, .ref s_lo])), (s_se, .inr (7, [.int 990, .int 100000, .int 100, .int 5, .int 0, .int 5000, .int 600, .int 250, .int 0, .int 5000, .int 1000, .int 0])), (s_cu, .inr (2, [.int 0, .ref s_c1, .ref s_c2, .ref s_c3])), (s_c1, .inl (ct 1, 4, .inr (.inl (fun _ => 0)))), (s_c2, .inl (ct 0, 4, .inl (fun _ => 0))), (s_c3, .inl (ct 0, 44, .inl (fun _ => 0))), (s_pr, .inr (5, [.int 0, .ref s_p1, .ref s_p2, .ref s_p3, .ref s_p4])), (s_p1, .inl (ct 0, 4, .inl (fun _ => 0))), (s_p2, .inl (ct 0, 48, .inl (fun _ => 0))), (s_p3, .inl (ct 0, 48, .inl (fun _ => 0))), (s_p4, .inl (ct 0, 48, .inl (fun _ => 0))), (s_re, .inr (8, [.int 30, .int 5, .ref s_ra, .int 0, .int 0])), (s_ra, .inl (ct 0, 150, .inl (fun _ => 0))), (s_lo, .inr (8, [.int 60, .int 4, .ref s_la, .int 0, .int 0])), (s_la, .inl (ct 0, 240, .inl (fun _ => 0))), (w, .inr (9, [.int 0, .ref w_se, .ref w_cu, .ref w_pr, .int 0, .ref w_ch, .ref w_re, .ref w_lo])), (w_se, .inr (7, [.int 990, .int 100000, .int 100, .int 5, .int 0, .int 5000, .int 600, .int 250, .int 0, .int 5000, .int 1000, .int 0])), (w_cu, .inr (2, [.int 0, .ref w_c1, .ref w_c2, .ref w_c3])), (w_c1, .inl (ct 1, 4, .inr (.inl (fun _ => 0)))), (w_c2, .inl (ct 0, 4, .inl (fun _ => 0))), (w_c3, .inl (ct 0, 44, .inl (fun _ => 0))), (w_pr, .inr (5, [.int 0, .ref w_p1, .ref w_p2, .ref w_p3, .ref w_p4])), (w_p1, .inl (ct 0, 4, .inl (fun _ => 0))), (w_p2, .inl (ct 0, 48, .inl (fun _ => 0))), (w_p3, .inl (ct 0, 48, .inl (fun _ => 0))), (w_p4, .inl (ct 0, 48, .inl (fun _ => 0))), (w_re, .inr (8, [.int 30, .int 5, .ref w_ra, .int 0, .int 0])), (w_ra, .inl (ct 0, 150, .inl (fun _ => 0))), (w_lo, .inr (8, [.int 60, .int 4, .ref w_la, .int 0, .int 0])), (w_la, .inl (ct 0, 240, .inl (fun _ => 0))), (ov, .inl (ct 1, 1, .inr (.inl f)))] sz) := by
  refine va_MetW (cc := cL_peakTemperature) (maxL := 5) (ret := (some .int)) (hh := [(0, 10, 13, 32), (0, 10, 17, 13)]) (by decide) rfl ?_
  intro p e s m args below meth c s₁ B hml hv
  have hts0 := atoms_spec (ws := wsw_ yL_peakTemperature cL_peakTemperature 5 (some .int) [(0, 10, 13, 32), (0, 10, 17, 13)]) B.pre
  have hts : ∀ w ∈ cm_all, w.before args s = true := fun w h => hts0 w (List.mem_cons_of_mem _ h)
  obtain ⟨rfl, hsz, hP, hK, hD0, hX⟩ := hv
  have hx := B.exec
  have hb := B.bytes
  have hr := B.returns
  have htab := vx_table (x := yL_peakTemperature) B (hts0 _ List.mem_cons_self)
  have hown : s.vm.findClass RL = some m.cls := findClass_of_methodNamed B.named
  have hlocks := B.notSynchronized
  subst hsz
  have hD := hD0.self (sz := s.heap.size)
  generalize hAe : va_A [(x, .inr (10, [.ref w, .ref sp, .ref sv, .ref bu, .int 0, .int 0])), (sp, .inr (9, [.int 0, .ref s_se, .ref s_cu, .ref s_pr, .int 0, .ref s_ch, .ref s_re, .ref s_lo])), (s_se, .inr (7, [.int 990, .int 100000, .int 100, .int 5, .int 0, .int 5000, .int 600, .int 250, .int 0, .int 5000, .int 1000, .int 0])), (s_cu, .inr (2, [.int 0, .ref s_c1, .ref s_c2, .ref s_c3])), (s_c1, .inl (ct 1, 4, .inr (.inl (fun _ => 0)))), (s_c2, .inl (ct 0, 4, .inl (fun _ => 0))), (s_c3, .inl (ct 0, 44, .inl (fun _ => 0))), (s_pr, .inr (5, [.int 0, .ref s_p1, .ref s_p2, .ref s_p3, .ref s_p4])), (s_p1, .inl (ct 0, 4, .inl (fun _ => 0))), (s_p2, .inl (ct 0, 48, .inl (fun _ => 0))), (s_p3, .inl (ct 0, 48, .inl (fun _ => 0))), (s_p4, .inl (ct 0, 48, .inl (fun _ => 0))), (s_re, .inr (8, [.int 30, .int 5, .ref s_ra, .int 0, .int 0])), (s_ra, .inl (ct 0, 150, .inl (fun _ => 0))), (s_lo, .inr (8, [.int 60, .int 4, .ref s_la, .int 0, .int 0])), (s_la, .inl (ct 0, 240, .inl (fun _ => 0))), (w, .inr (9, [.int 0, .ref w_se, .ref w_cu, .ref w_pr, .int 0, .ref w_ch, .ref w_re, .ref w_lo])), (w_se, .inr (7, [.int 990, .int 100000, .int 100, .int 5, .int 0, .int 5000, .int 600, .int 250, .int 0, .int 5000, .int 1000, .int 0])), (w_cu, .inr (2, [.int 0, .ref w_c1, .ref w_c2, .ref w_c3])), (w_c1, .inl (ct 1, 4, .inr (.inl (fun _ => 0)))), (w_c2, .inl (ct 0, 4, .inl (fun _ => 0))), (w_c3, .inl (ct 0, 44, .inl (fun _ => 0))), (w_pr, .inr (5, [.int 0, .ref w_p1, .ref w_p2, .ref w_p3, .ref w_p4])), (w_p1, .inl (ct 0, 4, .inl (fun _ => 0))), (w_p2, .inl (ct 0, 48, .inl (fun _ => 0))), (w_p3, .inl (ct 0, 48, .inl (fun _ => 0))), (w_p4, .inl (ct 0, 48, .inl (fun _ => 0))), (w_re, .inr (8, [.int 30, .int 5, .ref w_ra, .int 0, .int 0])), (w_ra, .inl (ct 0, 150, .inl (fun _ => 0))), (w_lo, .inr (8, [.int 60, .int 4, .ref w_la, .int 0, .int 0])), (w_la, .inl (ct 0, 240, .inl (fun _ => 0))), (ov, .inl (ct 1, 1, .inr (.inl f)))] s.heap.size = A at hD hX ⊢
  have hA : ∀ q : Nat, s.heap.size ≤ q → A q := fun q h => by rw [← hAe]; exact Or.inr h
  have hS : va_S A s.heap s.heap [] := va_S.rf
  have hl := lv_entry ([.ref x, .int p1, .int p2, .ref ov]) (n := 5) (Nat.le_of_ble_eq_true rfl)
  rw [lg_entry_eq]
  generalize (lg_sl ([.ref x, .int p1, .int p2, .ref ov]) ++ List.replicate (5 - (lg_sl ([.ref x, .int p1, .int p2, .ref ov])).length) Slot.unset).toArray = ls at hl ⊢
  have hl : lv_has ls 5 [(0, .ref x), (1, .int p1), (2, .int p2), (3, .ref ov)] := hl
  refine lv_aload_n hx hb dL_peakTemperature_0 rfl (lv_at hl 3 rfl) ?_
  refine lv_iconst (v := 0) hx hb dL_peakTemperature_1 (by decide) ?_
  refine lv_aload_n hx hb dL_peakTemperature_2 rfl (lv_at hl 0 rfl) ?_
  refine lv_iload_n hx hb dL_peakTemperature_3 rfl (lv_at hl 1 rfl) ?_
  refine lv_iload_n hx hb dL_peakTemperature_4 rfl (lv_at hl 2 rfl) ?_
  refine cm_xi (wr := [(ov, .inl (ct 1, 1, .inr (.inl f)))]) (vx_runV (As := [.int p1, .int p2]) (rest := [.int 0, .ref ov]) ⟨hx, hb, hml, hown, hts⟩ (c_peakTemperature_0 l hfl D ct x w sp sv bu s_se s_cu s_pr s_ch s_re s_lo s_c1 s_c2 s_c3 s_p1 s_p2 s_p3 s_p4 s_ra s_la w_se w_cu w_pr w_ch w_re w_lo w_c1 w_c2 w_c3 w_p1 w_p2 w_p3 w_p4 w_ra w_la p1 p2 _) (cm_V 2 hts kc_X10_peakTemperature ki_RX10 kl_RL_148 kv_X10_peakTemperature kx_X10_peakTemperature kd_X10_peakTemperature ⟨Nat.le_of_ble_eq_true rfl, Nat.le_of_ble_eq_true rfl⟩) (cm_preV hP hK hD hS hA hX [0, 1, 2, 3, 4, 5, 6, 7, 8, 9, 10, 11, 12, 13, 14, 15, 16, 17, 18, 19, 20, 21, 22, 23, 24, 25, 26, 27, 28, 29, 30] rfl rfl rfl (q0 := 0) (ci := 10) rfl rfl) rfl rfl hl.1 rfl (lv_room (Nat.le_of_ble_eq_true rfl)) dL_peakTemperature_5 ⟨Nat.le_of_ble_eq_true rfl, Nat.le_of_ble_eq_true rfl⟩) hP hD hS hA [0, 1, 2, 3, 4, 5, 6, 7, 8, 9, 10, 11, 12, 13, 14, 15, 16, 17, 18, 19, 20, 21, 22, 23, 24, 25, 26, 27, 28, 29, 30] [31] rfl rfl rfl (by decide) (fun E ce q9 u H locs hu hE hP hD hS hce hcv hcl => ?_) (fun r_1 u H locs hw_2 hP hD hS => ?_)
  · subst hE
    have hP : va_P D vwCl [(ov, .inl (ct 1, 1, .inr (.inl f))), (x, .inr (10, [.ref w, .ref sp, .ref sv, .ref bu, .int 0, .int 0]))] H := hP
    have hD : va_D A [(ov, .inl (ct 1, 1, .inr (.inl f))), (x, .inr (10, [.ref w, .ref sp, .ref sv, .ref bu, .int 0, .int 0]))] := hD
    refine vx_catch (name := "java/lang/IndexOutOfBoundsException") hown [] _ _ htab (fun z hz => absurd hz List.not_mem_nil) (by decide) (by decide) (hts _ kl_RL_32) (hts _ kcast_IOE) hce hcv hcl ?_
    refine W.eq (g2 := F0 m 13 ls [.ref q9]) rfl ?_
    refine lv_astore (lv' := [(4, .ref q9), (0, .ref x), (1, .int p1), (2, .int p2), (3, .ref ov)]) hx hb dL_peakTemperature_13 hl (by decide) rfl (fun ls hl => ?_)
    refine lv_iconst (v := 1) hx hb dL_peakTemperature_15 (by decide) ?_
    have hP9 := hP.sub (ws' := []) [] rfl
    have hD9 := hD.sub (ws' := []) [] (by decide) rfl
    exact W.iret (v := 1) hx hb hr (fun t ht hW => ⟨⟨1, (), rfl, rfl, by rw [ht]; exact hP9, by rw [hAe]; exact hD9⟩, hS.F ht⟩) hS.2.2 dL_peakTemperature_16
  · exact hw_2.elim
theorem dL_settledIn_0 : decode cL_settledIn 0 = .ok (.aload_n 2, 1) := by decide +kernel
theorem dL_settledIn_1 : decode cL_settledIn 1 = .ok (.iconst 0, 1) := by decide +kernel
theorem dL_settledIn_2 : decode cL_settledIn 2 = .ok (.aload_n 0, 1) := by decide +kernel
theorem dL_settledIn_3 : decode cL_settledIn 3 = .ok (.iload_n 1, 1) := by decide +kernel
theorem dL_settledIn_4 : decode cL_settledIn 4 = .ok (.invokevirtual 151, 3) := by decide +kernel
theorem dL_settledIn_12 : decode cL_settledIn 12 = .ok (.astore_n 3, 1) := by decide +kernel
theorem dL_settledIn_13 : decode cL_settledIn 13 = .ok (.iconst 1, 1) := by decide +kernel
theorem dL_settledIn_14 : decode cL_settledIn 14 = .ok (.ireturn, 1) := by decide +kernel
set_option maxRecDepth 100000 in
set_option maxHeartbeats 4000000 in
theorem l_settledIn (l : Launch) (hfl : l.stackTraces = false) (D : va_G) (ct : Nat → ClassId) (x : Nat) (w : Nat) (sp : Nat) (sv : Nat) (bu : Nat) (s_se : Nat) (s_cu : Nat) (s_pr : Nat) (s_ch : Nat) (s_re : Nat) (s_lo : Nat) (s_c1 : Nat) (s_c2 : Nat) (s_c3 : Nat) (s_p1 : Nat) (s_p2 : Nat) (s_p3 : Nat) (s_p4 : Nat) (s_ra : Nat) (s_la : Nat) (w_se : Nat) (w_cu : Nat) (w_pr : Nat) (w_ch : Nat) (w_re : Nat) (w_lo : Nat) (w_c1 : Nat) (w_c2 : Nat) (w_c3 : Nat) (w_p1 : Nat) (w_p2 : Nat) (w_p3 : Nat) (w_p4 : Nat) (w_ra : Nat) (w_la : Nat) (ov : Nat) (f : Nat → Int64) (p1 : Int32) (sz : Nat) : Met l yL_settledIn (wsw_ yL_settledIn cL_settledIn 4 (some .int) [(0, 9, 12, 32)]) ({ frames := 8, cells := 1, slots := 6, locals := 191 } : Room) (va_Pc [.ref x, .int p1, .ref ov] (cmP D ct sz [(x, .inr (10, [.ref w, .ref sp, .ref sv, .ref bu, .int 0, .int 0])), (sp, .inr (9, [.int 0, .ref s_se, .ref s_cu, .ref s_pr, .int 0, .ref s_ch, .ref s_re, .ref s_lo])), (s_se, .inr (7, [.int 990, .int 100000, .int 100, .int 5, .int 0, .int 5000, .int 600, .int 250, .int 0, .int 5000, .int 1000, .int 0])), (s_cu, .inr (2, [.int 0, .ref s_c1, .ref s_c2, .ref s_c3])), (s_c1, .inl (ct 1, 4, .inr (.inl (fun _ => 0)))), (s_c2, .inl (ct 0, 4, .inl (fun _ => 0))), (s_c3, .inl (ct 0, 44, .inl (fun _ => 0))), (s_pr, .inr (5, [.int 0, .ref s_p1, .ref s_p2, .ref s_p3, .ref s_p4])), (s_p1, .inl (ct 0, 4, .inl (fun _ => 0))), (s_p2, .inl (ct 0, 48, .inl (fun _ => 0))), (s_p3, .inl (ct 0, 48, .inl (fun _ => 0))), (s_p4, .inl (ct 0, 48, .inl (fun _ => 0))), (s_re, .inr (8, [.int 30, .int 5, .ref s_ra, .int 0, .int 0])), (s_ra, .inl (ct 0, 150, .inl (fun _ => 0))), (s_lo, .inr (8, [.int 60, .int 4, .ref s_la, .int 0, .int 0])), (s_la, .inl (ct 0, 240, .inl (fun _ => 0))), (w, .inr (9, [.int 0, .ref w_se, .ref w_cu, .ref w_pr, .int 0, .ref w_ch, .ref w_re, .ref w_lo])), (w_se, .inr (7, [.int 990, .int 100000, .int 100, .int 5, .int 0, .int 5000, .int 600, .int 250, .int 0, .int 5000, .int 1000, .int 0])), (w_cu, .inr (2, [.int 0, .ref w_c1, .ref w_c2, .ref w_c3])), (w_c1, .inl (ct 1, 4, .inr (.inl (fun _ => 0)))), (w_c2, .inl (ct 0, 4, .inl (fun _ => 0))), (w_c3, .inl (ct 0, 44, .inl (fun _ => 0))), (w_pr, .inr (5, [.int 0, .ref w_p1, .ref w_p2, .ref w_p3, .ref w_p4])), (w_p1, .inl (ct 0, 4, .inl (fun _ => 0))), (w_p2, .inl (ct 0, 48, .inl (fun _ => 0))), (w_p3, .inl (ct 0, 48, .inl (fun _ => 0))), (w_p4, .inl (ct 0, 48, .inl (fun _ => 0))), (w_re, .inr (8, [.int 30, .int 5, .ref w_ra, .int 0, .int 0])), (w_ra, .inl (ct 0, 150, .inl (fun _ => 0))), (w_lo, .inr (8, [.int 60, .int 4, .ref w_la, .int 0, .int 0])), (w_la, .inl (ct 0, 240, .inl (fun _ => 0))), (ov, .inl (ct 1, 1, .inr (.inl f)))])) (va_Qi (fun (r : Int32) (_ : Unit) => r = 1) (cmB D [(x, .inr (10, [.ref w, .ref sp, .ref sv, .ref bu, .int 0, .int 0])), (sp, .inr (9, [.int 0, .ref s_se, .ref s_cu, .ref s_pr, .int 0, .ref s_ch, .ref s_re, .ref s_lo])), (s_se, .inr (7, [.int 990, .int 100000, .int 100, .int 5, .int 0, .int 5000, .int 600, .int 250, .int 0, .int 5000, .int 1000, .int 0])), (s_cu, .inr (2, [.int 0, .ref s_c1, .ref s_c2, .ref s_c3])), (s_c1, .inl (ct 1, 4, .inr (.inl (fun _ => 0)))), (s_c2, .inl (ct 0, 4, .inl (fun _ => 0))), (s_c3, .inl (ct 0, 44, .inl (fun _ => 0))), (s_pr, .inr (5, [.int 0, .ref s_p1, .ref s_p2, .ref s_p3, .ref s_p4])), (s_p1, .inl (ct 0, 4, .inl (fun _ => 0))), (s_p2, .inl (ct 0, 48, .inl (fun _ => 0))), (s_p3, .inl (ct 0, 48, .inl (fun _ => 0))), (s_p4, .inl (ct 0, 48, .inl (fun _ => 0))), (s_re, .inr (8, [.int 30, .int 5, .ref s_ra, .int 0, .int 0])), (s_ra, .inl (ct 0, 150, .inl (fun _ => 0))), (s_lo, .inr (8, [.int 60, .int 4, .ref s_la, .int 0, .int 0])), (s_la, .inl (ct 0, 240, .inl (fun _ => 0))), (w, .inr (9, [.int 0, .ref w_se, .ref w_cu, .ref w_pr, .int 0, .ref w_ch, .ref w_re, .ref w_lo])), (w_se, .inr (7, [.int 990, .int 100000, .int 100, .int 5, .int 0, .int 5000, .int 600, .int 250, .int 0, .int 5000, .int 1000, .int 0])), (w_cu, .inr (2, [.int 0, .ref w_c1, .ref w_c2, .ref w_c3])), (w_c1, .inl (ct 1, 4, .inr (.inl (fun _ => 0)))), (w_c2, .inl (ct 0, 4, .inl (fun _ => 0))), (w_c3, .inl (ct 0, 44, .inl (fun _ => 0))), (w_pr, .inr (5, [.int 0, .ref w_p1, .ref w_p2, .ref w_p3, .ref w_p4])), (w_p1, .inl (ct 0, 4, .inl (fun _ => 0))), (w_p2, .inl (ct 0, 48, .inl (fun _ => 0))), (w_p3, .inl (ct 0, 48, .inl (fun _ => 0))), (w_p4, .inl (ct 0, 48, .inl (fun _ => 0))), (w_re, .inr (8, [.int 30, .int 5, .ref w_ra, .int 0, .int 0])), (w_ra, .inl (ct 0, 150, .inl (fun _ => 0))), (w_lo, .inr (8, [.int 60, .int 4, .ref w_la, .int 0, .int 0])), (w_la, .inl (ct 0, 240, .inl (fun _ => 0))), (ov, .inl (ct 1, 1, .inr (.inl f)))] sz (fun _ : Unit => [])) (va_A [(x, .inr (10, [.ref w, .ref sp, .ref sv, .ref bu, .int 0, .int 0])), (sp, .inr (9, [.int 0, .ref s_se, .ref s_cu, .ref s_pr, .int 0, .ref s_ch, .ref s_re, .ref s_lo])), (s_se, .inr (7, [.int 990, .int 100000, .int 100, .int 5, .int 0, .int 5000, .int 600, .int 250, .int 0, .int 5000, .int 1000, .int 0])), (s_cu, .inr (2, [.int 0, .ref s_c1, .ref s_c2, .ref s_c3])), (s_c1, .inl (ct 1, 4, .inr (.inl (fun _ => 0)))), (s_c2, .inl (ct 0, 4, .inl (fun _ => 0))), (s_c3, .inl (ct 0, 44, .inl (fun _ => 0))), (s_pr, .inr (5, [.int 0, .ref s_p1, .ref s_p2, .ref s_p3, .ref s_p4])), (s_p1, .inl (ct 0, 4, .inl (fun _ => 0))), (s_p2, .inl (ct 0, 48, .inl (fun _ => 0))), (s_p3, .inl (ct 0, 48, .inl (fun _ => 0))), (s_p4, .inl (ct 0, 48, .inl (fun _ => 0))), (s_re, .inr (8, [.int 30, .int 5, .ref s_ra, .int 0, .int 0])), (s_ra, .inl (ct 0, 150, .inl (fun _ => 0))), (s_lo, .inr (8, [.int 60, .int 4, .ref s_la, .int 0, .int 0])), (s_la, .inl (ct 0, 240, .inl (fun _ => 0))), (w, .inr (9, [.int 0, .ref w_se, .ref w_cu, .ref w_pr, .int 0, .ref w_ch, .ref w_re, .ref w_lo])), (w_se, .inr (7, [.int 990, .int 100000, .int 100, .int 5, .int 0, .int 5000, .int 600, .int 250, .int 0, .int 5000, .int 1000, .int 0])), (w_cu, .inr (2, [.int 0, .ref w_c1, .ref w_c2, .ref w_c3])), (w_c1, .inl (ct 1, 4, .inr (.inl (fun _ => 0)))), (w_c2, .inl (ct 0, 4, .inl (fun _ => 0))), (w_c3, .inl (ct 0, 44, .inl (fun _ => 0))), (w_pr, .inr (5, [.int 0, .ref w_p1, .ref w_p2, .ref w_p3, .ref w_p4])), (w_p1, .inl (ct 0, 4, .inl (fun _ => 0))), (w_p2, .inl (ct 0, 48, .inl (fun _ => 0))), (w_p3, .inl (ct 0, 48, .inl (fun _ => 0))), (w_p4, .inl (ct 0, 48, .inl (fun _ => 0))), (w_re, .inr (8, [.int 30, .int 5, .ref w_ra, .int 0, .int 0])), (w_ra, .inl (ct 0, 150, .inl (fun _ => 0))), (w_lo, .inr (8, [.int 60, .int 4, .ref w_la, .int 0, .int 0])), (w_la, .inl (ct 0, 240, .inl (fun _ => 0))), (ov, .inl (ct 1, 1, .inr (.inl f)))] sz)) 1 6 (va_A [(x, .inr (10, [.ref w, .ref sp, .ref sv, .ref bu, .int 0, .int 0])), (sp, .inr (9, [.int 0, .ref s_se, .ref s_cu, .ref s_pr, .int 0, .ref s_ch, .ref s_re, .ref s_lo])), (s_se, .inr (7, [.int 990, .int 100000, .int 100, .int 5, .int 0, .int 5000, .int 600, .int 250, .int 0, .int 5000, .int 1000, .int 0])), (s_cu, .inr (2, [.int 0, .ref s_c1, .ref s_c2, .ref s_c3])), (s_c1, .inl (ct 1, 4, .inr (.inl (fun _ => 0)))), (s_c2, .inl (ct 0, 4, .inl (fun _ => 0))), (s_c3, .inl (ct 0, 44, .inl (fun _ => 0))), (s_pr, .inr (5, [.int 0, .ref s_p1, .ref s_p2, .ref s_p3, .ref s_p4])), (s_p1, .inl (ct 0, 4, .inl (fun _ => 0))), (s_p2, .inl (ct 0, 48, .inl (fun _ => 0))), (s_p3, .inl (ct 0, 48, .inl (fun _ => 0))), (s_p4, .inl (ct 0, 48, .inl (fun _ => 0))), (s_re, .inr (8, [.int 30, .int 5, .ref s_ra, .int 0, .int 0])), (s_ra, .inl (ct 0, 150, .inl (fun _ => 0))), (s_lo, .inr (8, [.int 60, .int 4, .ref s_la, .int 0, .int 0])), (s_la, .inl (ct 0, 240, .inl (fun _ => 0))), (w, .inr (9, [.int 0, .ref w_se, .ref w_cu, .ref w_pr, .int 0, .ref w_ch, .ref w_re, .ref w_lo])), (w_se, .inr (7, [.int 990, .int 100000, .int 100, .int 5, .int 0, .int 5000, .int 600, .int 250, .int 0, .int 5000, .int 1000, .int 0])), (w_cu, .inr (2, [.int 0, .ref w_c1, .ref w_c2, .ref w_c3])), (w_c1, .inl (ct 1, 4, .inr (.inl (fun _ => 0)))), (w_c2, .inl (ct 0, 4, .inl (fun _ => 0))), (w_c3, .inl (ct 0, 44, .inl (fun _ => 0))), (w_pr, .inr (5, [.int 0, .ref w_p1, .ref w_p2, .ref w_p3, .ref w_p4])), (w_p1, .inl (ct 0, 4, .inl (fun _ => 0))), (w_p2, .inl (ct 0, 48, .inl (fun _ => 0))), (w_p3, .inl (ct 0, 48, .inl (fun _ => 0))), (w_p4, .inl (ct 0, 48, .inl (fun _ => 0))), (w_re, .inr (8, [.int 30, .int 5, .ref w_ra, .int 0, .int 0])), (w_ra, .inl (ct 0, 150, .inl (fun _ => 0))), (w_lo, .inr (8, [.int 60, .int 4, .ref w_la, .int 0, .int 0])), (w_la, .inl (ct 0, 240, .inl (fun _ => 0))), (ov, .inl (ct 1, 1, .inr (.inl f)))] sz) := by
  refine va_MetW (cc := cL_settledIn) (maxL := 4) (ret := (some .int)) (hh := [(0, 9, 12, 32)]) (by decide) rfl ?_
  intro p e s m args below meth c s₁ B hml hv
  have hts0 := atoms_spec (ws := wsw_ yL_settledIn cL_settledIn 4 (some .int) [(0, 9, 12, 32)]) B.pre
  have hts : ∀ w ∈ cm_all, w.before args s = true := fun w h => hts0 w (List.mem_cons_of_mem _ h)
  obtain ⟨rfl, hsz, hP, hK, hD0, hX⟩ := hv
  have hx := B.exec
  have hb := B.bytes
  have hr := B.returns
  have htab := vx_table (x := yL_settledIn) B (hts0 _ List.mem_cons_self)
  have hown : s.vm.findClass RL = some m.cls := findClass_of_methodNamed B.named
  have hlocks := B.notSynchronized
  subst hsz
  have hD := hD0.self (sz := s.heap.size)
  generalize hAe : va_A [(x, .inr (10, [.ref w, .ref sp, .ref sv, .ref bu, .int 0, .int 0])), (sp, .inr (9, [.int 0, .ref s_se, .ref s_cu, .ref s_pr, .int 0, .ref s_ch, .ref s_re, .ref s_lo])), (s_se, .inr (7, [.int 990, .int 100000, .int 100, .int 5, .int 0, .int 5000, .int 600, .int 250, .int 0, .int 5000, .int 1000, .int 0])), (s_cu, .inr (2, [.int 0, .ref s_c1, .ref s_c2, .ref s_c3])), (s_c1, .inl (ct 1, 4, .inr (.inl (fun _ => 0)))), (s_c2, .inl (ct 0, 4, .inl (fun _ => 0))), (s_c3, .inl (ct 0, 44, .inl (fun _ => 0))), (s_pr, .inr (5, [.int 0, .ref s_p1, .ref s_p2, .ref s_p3, .ref s_p4])), (s_p1, .inl (ct 0, 4, .inl (fun _ => 0))), (s_p2, .inl (ct 0, 48, .inl (fun _ => 0))), (s_p3, .inl (ct 0, 48, .inl (fun _ => 0))), (s_p4, .inl (ct 0, 48, .inl (fun _ => 0))), (s_re, .inr (8, [.int 30, .int 5, .ref s_ra, .int 0, .int 0])), (s_ra, .inl (ct 0, 150, .inl (fun _ => 0))), (s_lo, .inr (8, [.int 60, .int 4, .ref s_la, .int 0, .int 0])), (s_la, .inl (ct 0, 240, .inl (fun _ => 0))), (w, .inr (9, [.int 0, .ref w_se, .ref w_cu, .ref w_pr, .int 0, .ref w_ch, .ref w_re, .ref w_lo])), (w_se, .inr (7, [.int 990, .int 100000, .int 100, .int 5, .int 0, .int 5000, .int 600, .int 250, .int 0, .int 5000, .int 1000, .int 0])), (w_cu, .inr (2, [.int 0, .ref w_c1, .ref w_c2, .ref w_c3])), (w_c1, .inl (ct 1, 4, .inr (.inl (fun _ => 0)))), (w_c2, .inl (ct 0, 4, .inl (fun _ => 0))), (w_c3, .inl (ct 0, 44, .inl (fun _ => 0))), (w_pr, .inr (5, [.int 0, .ref w_p1, .ref w_p2, .ref w_p3, .ref w_p4])), (w_p1, .inl (ct 0, 4, .inl (fun _ => 0))), (w_p2, .inl (ct 0, 48, .inl (fun _ => 0))), (w_p3, .inl (ct 0, 48, .inl (fun _ => 0))), (w_p4, .inl (ct 0, 48, .inl (fun _ => 0))), (w_re, .inr (8, [.int 30, .int 5, .ref w_ra, .int 0, .int 0])), (w_ra, .inl (ct 0, 150, .inl (fun _ => 0))), (w_lo, .inr (8, [.int 60, .int 4, .ref w_la, .int 0, .int 0])), (w_la, .inl (ct 0, 240, .inl (fun _ => 0))), (ov, .inl (ct 1, 1, .inr (.inl f)))] s.heap.size = A at hD hX ⊢
  have hA : ∀ q : Nat, s.heap.size ≤ q → A q := fun q h => by rw [← hAe]; exact Or.inr h
  have hS : va_S A s.heap s.heap [] := va_S.rf
  have hl := lv_entry ([.ref x, .int p1, .ref ov]) (n := 4) (Nat.le_of_ble_eq_true rfl)
  rw [lg_entry_eq]
  generalize (lg_sl ([.ref x, .int p1, .ref ov]) ++ List.replicate (4 - (lg_sl ([.ref x, .int p1, .ref ov])).length) Slot.unset).toArray = ls at hl ⊢
  have hl : lv_has ls 4 [(0, .ref x), (1, .int p1), (2, .ref ov)] := hl
  refine lv_aload_n hx hb dL_settledIn_0 rfl (lv_at hl 2 rfl) ?_
  refine lv_iconst (v := 0) hx hb dL_settledIn_1 (by decide) ?_
  refine lv_aload_n hx hb dL_settledIn_2 rfl (lv_at hl 0 rfl) ?_
  refine lv_iload_n hx hb dL_settledIn_3 rfl (lv_at hl 1 rfl) ?_
  refine cm_xi (wr := [(ov, .inl (ct 1, 1, .inr (.inl f)))]) (vx_runV (As := [.int p1]) (rest := [.int 0, .ref ov]) ⟨hx, hb, hml, hown, hts⟩ (c_settledIn_0 l hfl D ct x w sp sv bu s_se s_cu s_pr s_ch s_re s_lo s_c1 s_c2 s_c3 s_p1 s_p2 s_p3 s_p4 s_ra s_la w_se w_cu w_pr w_ch w_re w_lo w_c1 w_c2 w_c3 w_p1 w_p2 w_p3 w_p4 w_ra w_la p1 _) (cm_V 1 hts kc_X10_settledIn ki_RX10 kl_RL_151 kv_X10_settledIn kx_X10_settledIn kd_X10_settledIn ⟨Nat.le_of_ble_eq_true rfl, Nat.le_of_ble_eq_true rfl⟩) (cm_preV hP hK hD hS hA hX [0, 1, 2, 3, 4, 5, 6, 7, 8, 9, 10, 11, 12, 13, 14, 15, 16, 17, 18, 19, 20, 21, 22, 23, 24, 25, 26, 27, 28, 29, 30] rfl rfl rfl (q0 := 0) (ci := 10) rfl rfl) rfl rfl hl.1 rfl (lv_room (Nat.le_of_ble_eq_true rfl)) dL_settledIn_4 ⟨Nat.le_of_ble_eq_true rfl, Nat.le_of_ble_eq_true rfl⟩) hP hD hS hA [0, 1, 2, 3, 4, 5, 6, 7, 8, 9, 10, 11, 12, 13, 14, 15, 16, 17, 18, 19, 20, 21, 22, 23, 24, 25, 26, 27, 28, 29, 30] [31] rfl rfl rfl (by decide) (fun E ce q9 u H locs hu hE hP hD hS hce hcv hcl => ?_) (fun r_1 u H locs hw_2 hP hD hS => ?_)
  · subst hE
    have hP : va_P D vwCl [(ov, .inl (ct 1, 1, .inr (.inl f))), (x, .inr (10, [.ref w, .ref sp, .ref sv, .ref bu, .int 0, .int 0]))] H := hP
    have hD : va_D A [(ov, .inl (ct 1, 1, .inr (.inl f))), (x, .inr (10, [.ref w, .ref sp, .ref sv, .ref bu, .int 0, .int 0]))] := hD
    refine vx_catch (name := "java/lang/IndexOutOfBoundsException") hown [] _ _ htab (fun z hz => absurd hz List.not_mem_nil) (by decide) (by decide) (hts _ kl_RL_32) (hts _ kcast_IOE) hce hcv hcl ?_
    refine W.eq (g2 := F0 m 12 ls [.ref q9]) rfl ?_
    refine lv_astore_n (lv' := [(3, .ref q9), (0, .ref x), (1, .int p1), (2, .ref ov)]) hx hb dL_settledIn_12 rfl hl (by decide) rfl (fun ls hl => ?_)
    refine lv_iconst (v := 1) hx hb dL_settledIn_13 (by decide) ?_
    have hP9 := hP.sub (ws' := []) [] rfl
    have hD9 := hD.sub (ws' := []) [] (by decide) rfl
    exact W.iret (v := 1) hx hb hr (fun t ht hW => ⟨⟨1, (), rfl, rfl, by rw [ht]; exact hP9, by rw [hAe]; exact hD9⟩, hS.F ht⟩) hS.2.2 dL_settledIn_14
  · exact hw_2.elim
