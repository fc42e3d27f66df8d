theorem dL_count_0 : decode cL_count 0 = .ok (.aload_n 2, 1) := by decide +kernel
theorem dL_count_1 : decode cL_count 1 = .ok (.iconst 0, 1) := by decide +kernel
theorem dL_count_2 : decode cL_count 2 = .ok (.aload_n 0, 1) := by decide +kernel
theorem dL_count_3 : decode cL_count 3 = .ok (.iload_n 1, 1) := by decide +kernel
theorem dL_count_4 : decode cL_count 4 = .ok (.invokevirtual 7, 3) := by decide +kernel
theorem dL_count_7 : decode cL_count 7 = .ok (.i2l, 1) := by decide +kernel
theorem dL_count_8 : decode cL_count 8 = .ok (.lastore, 1) := by decide +kernel
theorem dL_count_9 : decode cL_count 9 = .ok (.goto 6, 3) := by decide +kernel
theorem dL_count_12 : decode cL_count 12 = .ok (.astore_n 3, 1) := by decide +kernel
theorem dL_count_13 : decode cL_count 13 = .ok (.iconst 1, 1) := by decide +kernel
theorem dL_count_14 : decode cL_count 14 = .ok (.ireturn, 1) := by decide +kernel
theorem dL_count_15 : decode cL_count 15 = .ok (.iconst 0, 1) := by decide +kernel
theorem dL_count_16 : decode cL_count 16 = .ok (.ireturn, 1) := by decide +kernel
set_option maxRecDepth 100000 in
set_option maxHeartbeats 4000000 in
theorem l_count (l : Launch) (hfl : l.stackTraces = false) (D : va_G) (ct : Nat → ClassId) (x : Nat) (w : Nat) (sp : Nat) (sv : Nat) (bu : Nat) (w_se : Nat) (w_cu : Nat) (w_pr : Nat) (w_ch : Nat) (w_re : Nat) (w_lo : Nat) (w_c1 : Nat) (w_c2 : Nat) (w_c3 : Nat) (w_p1 : Nat) (w_p2 : Nat) (w_p3 : Nat) (w_p4 : Nat) (ov : Nat) (f : Nat → Int64) (p1 : Int32) (sz : Nat) : Met l yL_count (wsw_ yL_count cL_count 4 (some .int) [(0, 9, 12, 13)]) ({ frames := 8, cells := 1, slots := 6, locals := 133 } : Room) (va_Pc [.ref x, .int p1, .ref ov] (cmP D ct sz [(x, .inr (10, [.ref w, .ref sp, .ref sv, .ref bu, .int 0, .int 0])), (w, .inr (9, [.int 0, .ref w_se, .ref w_cu, .ref w_pr, .int 0, .ref w_ch, .ref w_re, .ref w_lo])), (w_cu, .inr (2, [.int 0, .ref w_c1, .ref w_c2, .ref w_c3])), (w_pr, .inr (5, [.int 0, .ref w_p1, .ref w_p2, .ref w_p3, .ref w_p4])), (ov, .inl (ct 1, 1, .inr (.inl f)))])) (va_Qi (fun (r : Int32) (g : (Nat → Int64)) => (r = 0 ∧ (0 ≤ p1 ∧ p1 ≤ 2) ∧ g (0 : Int32).toNatClampNeg = 0) ∨ (r = 1 ∧ (p1 < 0 ∨ 2 < p1))) (cmB D [(x, .inr (10, [.ref w, .ref sp, .ref sv, .ref bu, .int 0, .int 0])), (w, .inr (9, [.int 0, .ref w_se, .ref w_cu, .ref w_pr, .int 0, .ref w_ch, .ref w_re, .ref w_lo])), (w_cu, .inr (2, [.int 0, .ref w_c1, .ref w_c2, .ref w_c3])), (w_pr, .inr (5, [.int 0, .ref w_p1, .ref w_p2, .ref w_p3, .ref w_p4])), (ov, .inl (ct 1, 1, .inr (.inl f)))] sz (fun g : (Nat → Int64) => [(ov, .inl (ct 1, 1, .inr (.inl g)))])) (va_A [(x, .inr (10, [.ref w, .ref sp, .ref sv, .ref bu, .int 0, .int 0])), (w, .inr (9, [.int 0, .ref w_se, .ref w_cu, .ref w_pr, .int 0, .ref w_ch, .ref w_re, .ref w_lo])), (w_cu, .inr (2, [.int 0, .ref w_c1, .ref w_c2, .ref w_c3])), (w_pr, .inr (5, [.int 0, .ref w_p1, .ref w_p2, .ref w_p3, .ref w_p4])), (ov, .inl (ct 1, 1, .inr (.inl f)))] sz)) 1 6 (va_A [(x, .inr (10, [.ref w, .ref sp, .ref sv, .ref bu, .int 0, .int 0])), (w, .inr (9, [.int 0, .ref w_se, .ref w_cu, .ref w_pr, .int 0, .ref w_ch, .ref w_re, .ref w_lo])), (w_cu, .inr (2, [.int 0, .ref w_c1, .ref w_c2, .ref w_c3])), (w_pr, .inr (5, [.int 0, .ref w_p1, .ref w_p2, .ref w_p3, .ref w_p4])), (ov, .inl (ct 1, 1, .inr (.inl f)))] sz) := by
  refine va_MetW (cc := cL_count) (maxL := 4) (ret := (some .int)) (hh := [(0, 9, 12, 13)]) (by decide) rfl ?_
  intro p e s m args below meth c s₁ B hml hv
  have hts0 := atoms_spec (ws := wsw_ yL_count cL_count 4 (some .int) [(0, 9, 12, 13)]) B.pre
  have hts : ∀ w ∈ cm_all, w.before args s = true := fun w h => hts0 w (List.mem_cons_of_mem _ h)
  obtain ⟨rfl, hsz, hP, hK, hD0, hX⟩ := hv
  have hx := B.exec
  have hb := B.bytes
  have hr := B.returns
  have htab := vx_table (x := yL_count) B (hts0 _ List.mem_cons_self)
  have hown : s.vm.findClass RL = some m.cls := findClass_of_methodNamed B.named
  have hlocks := B.notSynchronized
  subst hsz
  have hD := hD0.self (sz := s.heap.size)
  generalize hAe : va_A [(x, .inr (10, [.ref w, .ref sp, .ref sv, .ref bu, .int 0, .int 0])), (w, .inr (9, [.int 0, .ref w_se, .ref w_cu, .ref w_pr, .int 0, .ref w_ch, .ref w_re, .ref w_lo])), (w_cu, .inr (2, [.int 0, .ref w_c1, .ref w_c2, .ref w_c3])), (w_pr, .inr (5, [.int 0, .ref w_p1, .ref w_p2, .ref w_p3, .ref w_p4])), (ov, .inl (ct 1, 1, .inr (.inl f)))] s.heap.size = A at hD hX ⊢
  have hA : ∀ q : Nat, s.heap.size ≤ q → A q := fun q h => by rw [← hAe]; exact Or.inr h
  have hS : va_S A s.heap s.heap [] := va_S.rf
  have hl := lv_entry ([.ref x, .int p1, .ref ov]) (n := 4) (Nat.le_of_ble_eq_true rfl)
  rw [lg_entry_eq]
  generalize (lg_sl ([.ref x, .int p1, .ref ov]) ++ List.replicate (4 - (lg_sl ([.ref x, .int p1, .ref ov])).length) Slot.unset).toArray = ls at hl ⊢
  have hl : lv_has ls 4 [(0, .ref x), (1, .int p1), (2, .ref ov)] := hl
  refine lv_aload_n hx hb dL_count_0 rfl (lv_at hl 2 rfl) ?_
  refine lv_iconst (v := 0) hx hb dL_count_1 (by decide) ?_
  refine lv_aload_n hx hb dL_count_2 rfl (lv_at hl 0 rfl) ?_
  refine lv_iload_n hx hb dL_count_3 rfl (lv_at hl 1 rfl) ?_
  refine cm_xi (wr := [(ov, .inl (ct 1, 1, .inr (.inl f)))]) (vx_runV (As := [.int p1]) (rest := [.int 0, .ref ov]) ⟨hx, hb, hml, hown, hts⟩ (c_count_0 l hfl D ct x w sp sv bu w_se w_cu w_pr w_ch w_re w_lo w_c1 w_c2 w_c3 w_p1 w_p2 w_p3 w_p4 p1 _) (cm_V 1 hts kc_X10_count ki_RX10 kl_RL_7 kv_X10_count kx_X10_count kd_X10_count ⟨Nat.le_of_ble_eq_true rfl, Nat.le_of_ble_eq_true rfl⟩) (cm_preV hP hK hD hS hA hX [0, 1, 2, 3] rfl rfl rfl (q0 := 0) (ci := 10) rfl rfl) rfl rfl hl.1 rfl (lv_room (Nat.le_of_ble_eq_true rfl)) dL_count_4 ⟨Nat.le_of_ble_eq_true rfl, Nat.le_of_ble_eq_true rfl⟩) hP hD hS hA [0, 1, 2, 3] [4] rfl rfl rfl (by decide) (fun E ce q9 u H locs hu hE hP hD hS hce hcv hcl => ?_) (fun r_1 u H locs hw_2 hP hD hS => ?_)
  · subst hE
    have hu : p1 < 0 ∨ 2 < p1 := hu
    have hP : va_P D vwCl [(ov, .inl (ct 1, 1, .inr (.inl f))), (x, .inr (10, [.ref w, .ref sp, .ref sv, .ref bu, .int 0, .int 0])), (w, .inr (9, [.int 0, .ref w_se, .ref w_cu, .ref w_pr, .int 0, .ref w_ch, .ref w_re, .ref w_lo])), (w_cu, .inr (2, [.int 0, .ref w_c1, .ref w_c2, .ref w_c3])), (w_pr, .inr (5, [.int 0, .ref w_p1, .ref w_p2, .ref w_p3, .ref w_p4]))] H := hP
    have hD : va_D A [(ov, .inl (ct 1, 1, .inr (.inl f))), (x, .inr (10, [.ref w, .ref sp, .ref sv, .ref bu, .int 0, .int 0])), (w, .inr (9, [.int 0, .ref w_se, .ref w_cu, .ref w_pr, .int 0, .ref w_ch, .ref w_re, .ref w_lo])), (w_cu, .inr (2, [.int 0, .ref w_c1, .ref w_c2, .ref w_c3])), (w_pr, .inr (5, [.int 0, .ref w_p1, .ref w_p2, .ref w_p3, .ref w_p4]))] := hD
    refine vx_catch (name := "java/lang/IllegalArgumentException") hown [] _ _ htab (fun z hz => absurd hz List.not_mem_nil) (by decide) (by decide) (hts _ kl_RL_13) (hts _ kcast_IAE) hce hcv hcl ?_
    refine W.eq (g2 := F0 m 12 ls [.ref q9]) rfl ?_
    refine lv_astore_n (lv' := [(3, .ref q9), (0, .ref x), (1, .int p1), (2, .ref ov)]) hx hb dL_count_12 rfl hl (by decide) rfl (fun ls hl => ?_)
    refine lv_iconst (v := 1) hx hb dL_count_13 (by decide) ?_
    have hP9 := hP.sub (ws' := [(ov, .inl (ct 1, 1, .inr (.inl f)))]) [0] rfl
    have hD9 := hD.sub (ws' := [(ov, .inl (ct 1, 1, .inr (.inl f)))]) [0] (by decide) rfl
    exact W.iret (v := 1) hx hb hr (fun t ht hW => ⟨⟨1, f, rfl, (Or.inr ⟨rfl, hu⟩), by rw [ht]; exact hP9, by rw [hAe]; exact hD9⟩, hS.F ht⟩) hS.2.2 dL_count_14
  · have hw_2 : r_1 = 0 ∧ 0 ≤ p1 ∧ p1 ≤ 2 := hw_2
    obtain ⟨rfl, hw_2⟩ := hw_2
    have hP : va_P D vwCl [(ov, .inl (ct 1, 1, .inr (.inl f))), (x, .inr (10, [.ref w, .ref sp, .ref sv, .ref bu, .int 0, .int 0])), (w, .inr (9, [.int 0, .ref w_se, .ref w_cu, .ref w_pr, .int 0, .ref w_ch, .ref w_re, .ref w_lo])), (w_cu, .inr (2, [.int 0, .ref w_c1, .ref w_c2, .ref w_c3])), (w_pr, .inr (5, [.int 0, .ref w_p1, .ref w_p2, .ref w_p3, .ref w_p4]))] H := hP
    have hD : va_D A [(ov, .inl (ct 1, 1, .inr (.inl f))), (x, .inr (10, [.ref w, .ref sp, .ref sv, .ref bu, .int 0, .int 0])), (w, .inr (9, [.int 0, .ref w_se, .ref w_cu, .ref w_pr, .int 0, .ref w_ch, .ref w_re, .ref w_lo])), (w_cu, .inr (2, [.int 0, .ref w_c1, .ref w_c2, .ref w_c3])), (w_pr, .inr (5, [.int 0, .ref w_p1, .ref w_p2, .ref w_p3, .ref w_p4]))] := hD
    refine W.widen (k := 1) (n := 6) (Nat.le_of_ble_eq_true rfl) (Nat.le_of_ble_eq_true rfl) ?_
    refine lv_i2l (v := 0) hx hb dL_count_7 (by decide) ?_
    refine va_last hx hb hK hP hD hS 0 1 rfl rfl (cm_vin (by decide)) dL_count_8 (fun H locs hP hD hS => ?_)
    have hP : va_P D vwCl [(ov, .inl (ct 1, 1, .inr (.inl (vp_updL f (0 : Int32).toNatClampNeg 0)))), (x, .inr (10, [.ref w, .ref sp, .ref sv, .ref bu, .int 0, .int 0])), (w, .inr (9, [.int 0, .ref w_se, .ref w_cu, .ref w_pr, .int 0, .ref w_ch, .ref w_re, .ref w_lo])), (w_cu, .inr (2, [.int 0, .ref w_c1, .ref w_c2, .ref w_c3])), (w_pr, .inr (5, [.int 0, .ref w_p1, .ref w_p2, .ref w_p3, .ref w_p4]))] H := hP
    have hD : va_D A [(ov, .inl (ct 1, 1, .inr (.inl (vp_updL f (0 : Int32).toNatClampNeg 0)))), (x, .inr (10, [.ref w, .ref sp, .ref sv, .ref bu, .int 0, .int 0])), (w, .inr (9, [.int 0, .ref w_se, .ref w_cu, .ref w_pr, .int 0, .ref w_ch, .ref w_re, .ref w_lo])), (w_cu, .inr (2, [.int 0, .ref w_c1, .ref w_c2, .ref w_c3])), (w_pr, .inr (5, [.int 0, .ref w_p1, .ref w_p2, .ref w_p3, .ref w_p4]))] := hD
    refine lv_goto (tgt := 15) hx hb dL_count_9 (by decide) ?_
    refine lv_iconst (v := 0) hx hb dL_count_15 (by decide) ?_
    have hP9 := hP.sub (ws' := [(ov, .inl (ct 1, 1, .inr (.inl (vp_updL f (0 : Int32).toNatClampNeg 0))))]) [0] rfl
    have hD9 := hD.sub (ws' := [(ov, .inl (ct 1, 1, .inr (.inl (vp_updL f (0 : Int32).toNatClampNeg 0))))]) [0] (by decide) rfl
    exact W.iret (v := 0) hx hb hr (fun t ht hW => ⟨⟨0, (vp_updL f (0 : Int32).toNatClampNeg 0), rfl, (Or.inl ⟨rfl, hw_2.2, pk_uLs⟩), by rw [ht]; exact hP9, by rw [hAe]; exact hD9⟩, hS.F ht⟩) hS.2.2 dL_count_16
theorem dL_setting_0 : decode cL_setting 0 = .ok (.aload_n 2, 1) := by decide +kernel
theorem dL_setting_1 : decode cL_setting 1 = .ok (.iconst 0, 1) := by decide +kernel
theorem dL_setting_2 : decode cL_setting 2 = .ok (.aload_n 0, 1) := by decide +kernel
theorem dL_setting_3 : decode cL_setting 3 = .ok (.iload_n 1, 1) := by decide +kernel
theorem dL_setting_4 : decode cL_setting 4 = .ok (.invokevirtual 15, 3) := by decide +kernel
theorem dL_setting_7 : decode cL_setting 7 = .ok (.i2l, 1) := by decide +kernel
theorem dL_setting_8 : decode cL_setting 8 = .ok (.lastore, 1) := by decide +kernel
theorem dL_setting_9 : decode cL_setting 9 = .ok (.goto 6, 3) := by decide +kernel
theorem dL_setting_12 : decode cL_setting 12 = .ok (.astore_n 3, 1) := by decide +kernel
theorem dL_setting_13 : decode cL_setting 13 = .ok (.iconst 1, 1) := by decide +kernel
theorem dL_setting_14 : decode cL_setting 14 = .ok (.ireturn, 1) := by decide +kernel
theorem dL_setting_15 : decode cL_setting 15 = .ok (.iconst 0, 1) := by decide +kernel
theorem dL_setting_16 : decode cL_setting 16 = .ok (.ireturn, 1) := by decide +kernel
set_option maxRecDepth 100000 in
set_option maxHeartbeats 4000000 in
theorem l_setting (l : Launch) (hfl : l.stackTraces = false) (D : va_G) (ct : Nat → ClassId) (x : Nat) (w : Nat) (sp : Nat) (sv : Nat) (bu : Nat) (w_se : Nat) (w_cu : Nat) (w_pr : Nat) (w_ch : Nat) (w_re : Nat) (w_lo : Nat) (ov : Nat) (f : Nat → Int64) (p1 : Int32) (sz : Nat) : Met l yL_setting (wsw_ yL_setting cL_setting 4 (some .int) [(0, 9, 12, 13)]) ({ frames := 8, cells := 1, slots := 6, locals := 134 } : Room) (va_Pc [.ref x, .int p1, .ref ov] (cmP D ct sz [(x, .inr (10, [.ref w, .ref sp, .ref sv, .ref bu, .int 0, .int 0])), (w, .inr (9, [.int 0, .ref w_se, .ref w_cu, .ref w_pr, .int 0, .ref w_ch, .ref w_re, .ref w_lo])), (w_se, .inr (7, [.int 990, .int 100000, .int 100, .int 5, .int 0, .int 5000, .int 600, .int 250, .int 0, .int 5000, .int 1000, .int 0])), (ov, .inl (ct 1, 1, .inr (.inl f)))])) (va_Qi (fun (r : Int32) (g : (Nat → Int64)) => (r = 0 ∧ (0 ≤ p1 ∧ p1 ≤ 7) ∧ g (0 : Int32).toNatClampNeg = (cm_set0 p1).toInt64) ∨ (r = 1 ∧ (p1 < 0 ∨ 7 < p1))) (cmB D [(x, .inr (10, [.ref w, .ref sp, .ref sv, .ref bu, .int 0, .int 0])), (w, .inr (9, [.int 0, .ref w_se, .ref w_cu, .ref w_pr, .int 0, .ref w_ch, .ref w_re, .ref w_lo])), (w_se, .inr (7, [.int 990, .int 100000, .int 100, .int 5, .int 0, .int 5000, .int 600, .int 250, .int 0, .int 5000, .int 1000, .int 0])), (ov, .inl (ct 1, 1, .inr (.inl f)))] sz (fun g : (Nat → Int64) => [(ov, .inl (ct 1, 1, .inr (.inl g)))])) (va_A [(x, .inr (10, [.ref w, .ref sp, .ref sv, .ref bu, .int 0, .int 0])), (w, .inr (9, [.int 0, .ref w_se, .ref w_cu, .ref w_pr, .int 0, .ref w_ch, .ref w_re, .ref w_lo])), (w_se, .inr (7, [.int 990, .int 100000, .int 100, .int 5, .int 0, .int 5000, .int 600, .int 250, .int 0, .int 5000, .int 1000, .int 0])), (ov, .inl (ct 1, 1, .inr (.inl f)))] sz)) 1 6 (va_A [(x, .inr (10, [.ref w, .ref sp, .ref sv, .ref bu, .int 0, .int 0])), (w, .inr (9, [.int 0, .ref w_se, .ref w_cu, .ref w_pr, .int 0, .ref w_ch, .ref w_re, .ref w_lo])), (w_se, .inr (7, [.int 990, .int 100000, .int 100, .int 5, .int 0, .int 5000, .int 600, .int 250, .int 0, .int 5000, .int 1000, .int 0])), (ov, .inl (ct 1, 1, .inr (.inl f)))] sz) := by
  refine va_MetW (cc := cL_setting) (maxL := 4) (ret := (some .int)) (hh := [(0, 9, 12, 13)]) (by decide) rfl ?_
  intro p e s m args below meth c s₁ B hml hv
  have hts0 := atoms_spec (ws := wsw_ yL_setting cL_setting 4 (some .int) [(0, 9, 12, 13)]) B.pre
  have hts : ∀ w ∈ cm_all, w.before args s = true := fun w h => hts0 w (List.mem_cons_of_mem _ h)
  obtain ⟨rfl, hsz, hP, hK, hD0, hX⟩ := hv
  have hx := B.exec
  have hb := B.bytes
  have hr := B.returns
  have htab := vx_table (x := yL_setting) B (hts0 _ List.mem_cons_self)
  have hown : s.vm.findClass RL = some m.cls := findClass_of_methodNamed B.named
  have hlocks := B.notSynchronized
  subst hsz
  have hD := hD0.self (sz := s.heap.size)
  generalize hAe : va_A [(x, .inr (10, [.ref w, .ref sp, .ref sv, .ref bu, .int 0, .int 0])), (w, .inr (9, [.int 0, .ref w_se, .ref w_cu, .ref w_pr, .int 0, .ref w_ch, .ref w_re, .ref w_lo])), (w_se, .inr (7, [.int 990, .int 100000, .int 100, .int 5, .int 0, .int 5000, .int 600, .int 250, .int 0, .int 5000, .int 1000, .int 0])), (ov, .inl (ct 1, 1, .inr (.inl f)))] s.heap.size = A at hD hX ⊢
  have hA : ∀ q : Nat, s.heap.size ≤ q → A q := fun q h => by rw [← hAe]; exact Or.inr h
  have hS : va_S A s.heap s.heap [] := va_S.rf
  have hl := lv_entry ([.ref x, .int p1, .ref ov]) (n := 4) (Nat.le_of_ble_eq_true rfl)
  rw [lg_entry_eq]
  generalize (lg_sl ([.ref x, .int p1, .ref ov]) ++ List.replicate (4 - (lg_sl ([.ref x, .int p1, .ref ov])).length) Slot.unset).toArray = ls at hl ⊢
  have hl : lv_has ls 4 [(0, .ref x), (1, .int p1), (2, .ref ov)] := hl
  refine lv_aload_n hx hb dL_setting_0 rfl (lv_at hl 2 rfl) ?_
  refine lv_iconst (v := 0) hx hb dL_setting_1 (by decide) ?_
  refine lv_aload_n hx hb dL_setting_2 rfl (lv_at hl 0 rfl) ?_
  refine lv_iload_n hx hb dL_setting_3 rfl (lv_at hl 1 rfl) ?_
  refine cm_xi (wr := [(ov, .inl (ct 1, 1, .inr (.inl f)))]) (vx_runV (As := [.int p1]) (rest := [.int 0, .ref ov]) ⟨hx, hb, hml, hown, hts⟩ (c_setting_0 l hfl D ct x w sp sv bu w_se w_cu w_pr w_ch w_re w_lo p1 _) (cm_V 1 hts kc_X10_setting ki_RX10 kl_RL_15 kv_X10_setting kx_X10_setting kd_X10_setting ⟨Nat.le_of_ble_eq_true rfl, Nat.le_of_ble_eq_true rfl⟩) (cm_preV hP hK hD hS hA hX [0, 1, 2] rfl rfl rfl (q0 := 0) (ci := 10) rfl rfl) rfl rfl hl.1 rfl (lv_room (Nat.le_of_ble_eq_true rfl)) dL_setting_4 ⟨Nat.le_of_ble_eq_true rfl, Nat.le_of_ble_eq_true rfl⟩) hP hD hS hA [0, 1, 2] [3] rfl rfl rfl (by decide) (fun E ce q9 u H locs hu hE hP hD hS hce hcv hcl => ?_) (fun r_1 u H locs hw_2 hP hD hS => ?_)
  · subst hE
    have hu : p1 < 0 ∨ 7 < p1 := hu
    have hP : va_P D vwCl [(ov, .inl (ct 1, 1, .inr (.inl f))), (x, .inr (10, [.ref w, .ref sp, .ref sv, .ref bu, .int 0, .int 0])), (w, .inr (9, [.int 0, .ref w_se, .ref w_cu, .ref w_pr, .int 0, .ref w_ch, .ref w_re, .ref w_lo])), (w_se, .inr (7, [.int 990, .int 100000, .int 100, .int 5, .int 0, .int 5000, .int 600, .int 250, .int 0, .int 5000, .int 1000, .int 0]))] H := hP
    have hD : va_D A [(ov, .inl (ct 1, 1, .inr (.inl f))), (x, .inr (10, [.ref w, .ref sp, .ref sv, .ref bu, .int 0, .int 0])), (w, .inr (9, [.int 0, .ref w_se, .ref w_cu, .ref w_pr, .int 0, .ref w_ch, .ref w_re, .ref w_lo])), (w_se, .inr (7, [.int 990, .int 100000, .int 100, .int 5, .int 0, .int 5000, .int 600, .int 250, .int 0, .int 5000, .int 1000, .int 0]))] := hD
    refine vx_catch (name := "java/lang/IllegalArgumentException") hown [] _ _ htab (fun z hz => absurd hz List.not_mem_nil) (by decide) (by decide) (hts _ kl_RL_13) (hts _ kcast_IAE) hce hcv hcl ?_
    refine W.eq (g2 := F0 m 12 ls [.ref q9]) rfl ?_
    refine lv_astore_n (lv' := [(3, .ref q9), (0, .ref x), (1, .int p1), (2, .ref ov)]) hx hb dL_setting_12 rfl hl (by decide) rfl (fun ls hl => ?_)
    refine lv_iconst (v := 1) hx hb dL_setting_13 (by decide) ?_
    have hP9 := hP.sub (ws' := [(ov, .inl (ct 1, 1, .inr (.inl f)))]) [0] rfl
    have hD9 := hD.sub (ws' := [(ov, .inl (ct 1, 1, .inr (.inl f)))]) [0] (by decide) rfl
    exact W.iret (v := 1) hx hb hr (fun t ht hW => ⟨⟨1, f, rfl, (Or.inr ⟨rfl, hu⟩), by rw [ht]; exact hP9, by rw [hAe]; exact hD9⟩, hS.F ht⟩) hS.2.2 dL_setting_14
  · have hw_2 : r_1 = (cm_set0 p1) ∧ 0 ≤ p1 ∧ p1 ≤ 7 := hw_2
    obtain ⟨rfl, hw_2⟩ := hw_2
    have hP : va_P D vwCl [(ov, .inl (ct 1, 1, .inr (.inl f))), (x, .inr (10, [.ref w, .ref sp, .ref sv, .ref bu, .int 0, .int 0])), (w, .inr (9, [.int 0, .ref w_se, .ref w_cu, .ref w_pr, .int 0, .ref w_ch, .ref w_re, .ref w_lo])), (w_se, .inr (7, [.int 990, .int 100000, .int 100, .int 5, .int 0, .int 5000, .int 600, .int 250, .int 0, .int 5000, .int 1000, .int 0]))] H := hP
    have hD : va_D A [(ov, .inl (ct 1, 1, .inr (.inl f))), (x, .inr (10, [.ref w, .ref sp, .ref sv, .ref bu, .int 0, .int 0])), (w, .inr (9, [.int 0, .ref w_se, .ref w_cu, .ref w_pr, .int 0, .ref w_ch, .ref w_re, .ref w_lo])), (w_se, .inr (7, [.int 990, .int 100000, .int 100, .int 5, .int 0, .int 5000, .int 600, .int 250, .int 0, .int 5000, .int 1000, .int 0]))] := hD
    refine W.widen (k := 1) (n := 6) (Nat.le_of_ble_eq_true rfl) (Nat.le_of_ble_eq_true rfl) ?_
    refine lv_i2l hx hb dL_setting_7 rfl ?_
    refine va_last hx hb hK hP hD hS 0 1 rfl rfl (cm_vin (by decide)) dL_setting_8 (fun H locs hP hD hS => ?_)
    have hP : va_P D vwCl [(ov, .inl (ct 1, 1, .inr (.inl (vp_updL f (0 : Int32).toNatClampNeg ((cm_set0 p1).toInt64))))), (x, .inr (10, [.ref w, .ref sp, .ref sv, .ref bu, .int 0, .int 0])), (w, .inr (9, [.int 0, .ref w_se, .ref w_cu, .ref w_pr, .int 0, .ref w_ch, .ref w_re, .ref w_lo])), (w_se, .inr (7, [.int 990, .int 100000, .int 100, .int 5, .int 0, .int 5000, .int 600, .int 250, .int 0, .int 5000, .int 1000, .int 0]))] H := hP
    have hD : va_D A [(ov, .inl (ct 1, 1, .inr (.inl (vp_updL f (0 : Int32).toNatClampNeg ((cm_set0 p1).toInt64))))), (x, .inr (10, [.ref w, .ref sp, .ref sv, .ref bu, .int 0, .int 0])), (w, .inr (9, [.int 0, .ref w_se, .ref w_cu, .ref w_pr, .int 0, .ref w_ch, .ref w_re, .ref w_lo])), (w_se, .inr (7, [.int 990, .int 100000, .int 100, .int 5, .int 0, .int 5000, .int 600, .int 250, .int 0, .int 5000, .int 1000, .int 0]))] := hD
    refine lv_goto (tgt := 15) hx hb dL_setting_9 (by decide) ?_
    refine lv_iconst (v := 0) hx hb dL_setting_15 (by decide) ?_
    have hP9 := hP.sub (ws' := [(ov, .inl (ct 1, 1, .inr (.inl (vp_updL f (0 : Int32).toNatClampNeg ((cm_set0 p1).toInt64)))))]) [0] rfl
    have hD9 := hD.sub (ws' := [(ov, .inl (ct 1, 1, .inr (.inl (vp_updL f (0 : Int32).toNatClampNeg ((cm_set0 p1).toInt64)))))]) [0] (by decide) rfl
    exact W.iret (v := 0) hx hb hr (fun t ht hW => ⟨⟨0, (vp_updL f (0 : Int32).toNatClampNeg ((cm_set0 p1).toInt64)), rfl, (Or.inl ⟨rfl, hw_2.2, pk_uLs⟩), by rw [ht]; exact hP9, by rw [hAe]; exact hD9⟩, hS.F ht⟩) hS.2.2 dL_setting_16
theorem dL_setAmbient_0 : decode cL_setAmbient 0 = .ok (.aload_n 2, 1) := by decide +kernel
theorem dL_setAmbient_1 : decode cL_setAmbient 1 = .ok (.iconst 0, 1) := by decide +kernel
theorem dL_setAmbient_2 : decode cL_setAmbient 2 = .ok (.aload_n 0, 1) := by decide +kernel
theorem dL_setAmbient_3 : decode cL_setAmbient 3 = .ok (.iload_n 1, 1) := by decide +kernel
theorem dL_setAmbient_4 : decode cL_setAmbient 4 = .ok (.invokevirtual 18, 3) := by decide +kernel
theorem dL_setAmbient_7 : decode cL_setAmbient 7 = .ok (.i2l, 1) := by decide +kernel
theorem dL_setAmbient_8 : decode cL_setAmbient 8 = .ok (.lastore, 1) := by decide +kernel
theorem dL_setAmbient_9 : decode cL_setAmbient 9 = .ok (.goto 6, 3) := by decide +kernel
theorem dL_setAmbient_12 : decode cL_setAmbient 12 = .ok (.astore_n 3, 1) := by decide +kernel
theorem dL_setAmbient_13 : decode cL_setAmbient 13 = .ok (.iconst 1, 1) := by decide +kernel
theorem dL_setAmbient_14 : decode cL_setAmbient 14 = .ok (.ireturn, 1) := by decide +kernel
theorem dL_setAmbient_15 : decode cL_setAmbient 15 = .ok (.iconst 0, 1) := by decide +kernel
theorem dL_setAmbient_16 : decode cL_setAmbient 16 = .ok (.ireturn, 1) := by decide +kernel
set_option maxRecDepth 100000 in
set_option maxHeartbeats 4000000 in
theorem l_setAmbient (l : Launch) (hfl : l.stackTraces = false) (D : va_G) (ct : Nat → ClassId) (x : Nat) (w : Nat) (sp : Nat) (sv : Nat) (bu : Nat) (w_se : Nat) (w_cu : Nat) (w_pr : Nat) (w_ch : Nat) (w_re : Nat) (w_lo : Nat) (ov : Nat) (f : Nat → Int64) (p1 : Int32) (sz : Nat) : Met l yL_setAmbient (wsw_ yL_setAmbient cL_setAmbient 4 (some .int) [(0, 9, 12, 13)]) ({ frames := 8, cells := 1, slots := 6, locals := 134 } : Room) (va_Pc [.ref x, .int p1, .ref ov] (cmP D ct sz [(x, .inr (10, [.ref w, .ref sp, .ref sv, .ref bu, .int 0, .int 0])), (w, .inr (9, [.int 0, .ref w_se, .ref w_cu, .ref w_pr, .int 0, .ref w_ch, .ref w_re, .ref w_lo])), (w_se, .inr (7, [.int 990, .int 100000, .int 100, .int 5, .int 0, .int 5000, .int 600, .int 250, .int 0, .int 5000, .int 1000, .int 0])), (ov, .inl (ct 1, 1, .inr (.inl f)))])) (va_Qi (fun (r : Int32) (g : (Nat → Int64)) => (r = 0 ∧ (0 ≤ p1 ∧ p1 ≤ 500) ∧ g (0 : Int32).toNatClampNeg = 250) ∨ (r = 1 ∧ (p1 < 0 ∨ 500 < p1))) (cmB D [(x, .inr (10, [.ref w, .ref sp, .ref sv, .ref bu, .int 0, .int 0])), (w, .inr (9, [.int 0, .ref w_se, .ref w_cu, .ref w_pr, .int 0, .ref w_ch, .ref w_re, .ref w_lo])), (w_se, .inr (7, [.int 990, .int 100000, .int 100, .int 5, .int 0, .int 5000, .int 600, .int 250, .int 0, .int 5000, .int 1000, .int 0])), (ov, .inl (ct 1, 1, .inr (.inl f)))] sz (fun g : (Nat → Int64) => [(ov, .inl (ct 1, 1, .inr (.inl g)))])) (va_A [(x, .inr (10, [.ref w, .ref sp, .ref sv, .ref bu, .int 0, .int 0])), (w, .inr (9, [.int 0, .ref w_se, .ref w_cu, .ref w_pr, .int 0, .ref w_ch, .ref w_re, .ref w_lo])), (w_se, .inr (7, [.int 990, .int 100000, .int 100, .int 5, .int 0, .int 5000, .int 600, .int 250, .int 0, .int 5000, .int 1000, .int 0])), (ov, .inl (ct 1, 1, .inr (.inl f)))] sz)) 1 6 (va_A [(x, .inr (10, [.ref w, .ref sp, .ref sv, .ref bu, .int 0, .int 0])), (w, .inr (9, [.int 0, .ref w_se, .ref w_cu, .ref w_pr, .int 0, .ref w_ch, .ref w_re, .ref w_lo])), (w_se, .inr (7, [.int 990, .int 100000, .int 100, .int 5, .int 0, .int 5000, .int 600, .int 250, .int 0, .int 5000, .int 1000, .int 0])), (ov, .inl (ct 1, 1, .inr (.inl f)))] sz) := by
  refine va_MetW (cc := cL_setAmbient) (maxL := 4) (ret := (some .int)) (hh := [(0, 9, 12, 13)]) (by decide) rfl ?_
  intro p e s m args below meth c s₁ B hml hv
  have hts0 := atoms_spec (ws := wsw_ yL_setAmbient cL_setAmbient 4 (some .int) [(0, 9, 12, 13)]) B.pre
  have hts : ∀ w ∈ cm_all, w.before args s = true := fun w h => hts0 w (List.mem_cons_of_mem _ h)
  obtain ⟨rfl, hsz, hP, hK, hD0, hX⟩ := hv
  have hx := B.exec
  have hb := B.bytes
  have hr := B.returns
  have htab := vx_table (x := yL_setAmbient) B (hts0 _ List.mem_cons_self)
  have hown : s.vm.findClass RL = some m.cls := findClass_of_methodNamed B.named
  have hlocks := B.notSynchronized
  subst hsz
  have hD := hD0.self (sz := s.heap.size)
  generalize hAe : va_A [(x, .inr (10, [.ref w, .ref sp, .ref sv, .ref bu, .int 0, .int 0])), (w, .inr (9, [.int 0, .ref w_se, .ref w_cu, .ref w_pr, .int 0, .ref w_ch, .ref w_re, .ref w_lo])), (w_se, .inr (7, [.int 990, .int 100000, .int 100, .int 5, .int 0, .int 5000, .int 600, .int 250, .int 0, .int 5000, .int 1000, .int 0])), (ov, .inl (ct 1, 1, .inr (.inl f)))] s.heap.size = A at hD hX ⊢
  have hA : ∀ q : Nat, s.heap.size ≤ q → A q := fun q h => by rw [← hAe]; exact Or.inr h
  have hS : va_S A s.heap s.heap [] := va_S.rf
  have hl := lv_entry ([.ref x, .int p1, .ref ov]) (n := 4) (Nat.le_of_ble_eq_true rfl)
  rw [lg_entry_eq]
  generalize (lg_sl ([.ref x, .int p1, .ref ov]) ++ List.replicate (4 - (lg_sl ([.ref x, .int p1, .ref ov])).length) Slot.unset).toArray = ls at hl ⊢
  have hl : lv_has ls 4 [(0, .ref x), (1, .int p1), (2, .ref ov)] := hl
  refine lv_aload_n hx hb dL_setAmbient_0 rfl (lv_at hl 2 rfl) ?_
  refine lv_iconst (v := 0) hx hb dL_setAmbient_1 (by decide) ?_
  refine lv_aload_n hx hb dL_setAmbient_2 rfl (lv_at hl 0 rfl) ?_
  refine lv_iload_n hx hb dL_setAmbient_3 rfl (lv_at hl 1 rfl) ?_
  refine cm_xi (wr := [(ov, .inl (ct 1, 1, .inr (.inl f)))]) (vx_runV (As := [.int p1]) (rest := [.int 0, .ref ov]) ⟨hx, hb, hml, hown, hts⟩ (c_setAmbient_0 l hfl D ct x w sp sv bu w_se w_cu w_pr w_ch w_re w_lo p1 _) (cm_V 1 hts kc_X10_setAmbient ki_RX10 kl_RL_18 kv_X10_setAmbient kx_X10_setAmbient kd_X10_setAmbient ⟨Nat.le_of_ble_eq_true rfl, Nat.le_of_ble_eq_true rfl⟩) (cm_preV hP hK hD hS hA hX [0, 1, 2] rfl rfl rfl (q0 := 0) (ci := 10) rfl rfl) rfl rfl hl.1 rfl (lv_room (Nat.le_of_ble_eq_true rfl)) dL_setAmbient_4 ⟨Nat.le_of_ble_eq_true rfl, Nat.le_of_ble_eq_true rfl⟩) hP hD hS hA [0, 1, 2] [3] rfl rfl rfl (by decide) (fun E ce q9 u H locs hu hE hP hD hS hce hcv hcl => ?_) (fun r_1 u H locs hw_2 hP hD hS => ?_)
  · subst hE
    have hu : p1 < 0 ∨ 500 < p1 := hu
    have hP : va_P D vwCl [(ov, .inl (ct 1, 1, .inr (.inl f))), (x, .inr (10, [.ref w, .ref sp, .ref sv, .ref bu, .int 0, .int 0])), (w, .inr (9, [.int 0, .ref w_se, .ref w_cu, .ref w_pr, .int 0, .ref w_ch, .ref w_re, .ref w_lo])), (w_se, .inr (7, [.int 990, .int 100000, .int 100, .int 5, .int 0, .int 5000, .int 600, .int 250, .int 0, .int 5000, .int 1000, .int 0]))] H := hP
    have hD : va_D A [(ov, .inl (ct 1, 1, .inr (.inl f))), (x, .inr (10, [.ref w, .ref sp, .ref sv, .ref bu, .int 0, .int 0])), (w, .inr (9, [.int 0, .ref w_se, .ref w_cu, .ref w_pr, .int 0, .ref w_ch, .ref w_re, .ref w_lo])), (w_se, .inr (7, [.int 990, .int 100000, .int 100, .int 5, .int 0, .int 5000, .int 600, .int 250, .int 0, .int 5000, .int 1000, .int 0]))] := hD
    refine vx_catch (name := "java/lang/IllegalArgumentException") hown [] _ _ htab (fun z hz => absurd hz List.not_mem_nil) (by decide) (by decide) (hts _ kl_RL_13) (hts _ kcast_IAE) hce hcv hcl ?_
    refine W.eq (g2 := F0 m 12 ls [.ref q9]) rfl ?_
    refine lv_astore_n (lv' := [(3, .ref q9), (0, .ref x), (1, .int p1), (2, .ref ov)]) hx hb dL_setAmbient_12 rfl hl (by decide) rfl (fun ls hl => ?_)
    refine lv_iconst (v := 1) hx hb dL_setAmbient_13 (by decide) ?_
    have hP9 := hP.sub (ws' := [(ov, .inl (ct 1, 1, .inr (.inl f)))]) [0] rfl
    have hD9 := hD.sub (ws' := [(ov, .inl (ct 1, 1, .inr (.inl f)))]) [0] (by decide) rfl
    exact W.iret (v := 1) hx hb hr (fun t ht hW => ⟨⟨1, f, rfl, (Or.inr ⟨rfl, hu⟩), by rw [ht]; exact hP9, by rw [hAe]; exact hD9⟩, hS.F ht⟩) hS.2.2 dL_setAmbient_14
  · have hw_2 : r_1 = 250 ∧ 0 ≤ p1 ∧ p1 ≤ 500 := hw_2
    obtain ⟨rfl, hw_2⟩ := hw_2
    have hP : va_P D vwCl [(ov, .inl (ct 1, 1, .inr (.inl f))), (x, .inr (10, [.ref w, .ref sp, .ref sv, .ref bu, .int 0, .int 0])), (w, .inr (9, [.int 0, .ref w_se, .ref w_cu, .ref w_pr, .int 0, .ref w_ch, .ref w_re, .ref w_lo])), (w_se, .inr (7, [.int 990, .int 100000, .int 100, .int 5, .int 0, .int 5000, .int 600, .int p1, .int 0, .int 5000, .int 1000, .int 0]))] H := hP
    have hD : va_D A [(ov, .inl (ct 1, 1, .inr (.inl f))), (x, .inr (10, [.ref w, .ref sp, .ref sv, .ref bu, .int 0, .int 0])), (w, .inr (9, [.int 0, .ref w_se, .ref w_cu, .ref w_pr, .int 0, .ref w_ch, .ref w_re, .ref w_lo])), (w_se, .inr (7, [.int 990, .int 100000, .int 100, .int 5, .int 0, .int 5000, .int 600, .int p1, .int 0, .int 5000, .int 1000, .int 0]))] := hD
    refine W.widen (k := 1) (n := 6) (Nat.le_of_ble_eq_true rfl) (Nat.le_of_ble_eq_true rfl) ?_
    refine lv_i2l (v := 250) hx hb dL_setAmbient_7 (by decide) ?_
    refine va_last hx hb hK hP hD hS 0 1 rfl rfl (cm_vin (by decide)) dL_setAmbient_8 (fun H locs hP hD hS => ?_)
    have hP : va_P D vwCl [(ov, .inl (ct 1, 1, .inr (.inl (vp_updL f (0 : Int32).toNatClampNeg 250)))), (x, .inr (10, [.ref w, .ref sp, .ref sv, .ref bu, .int 0, .int 0])), (w, .inr (9, [.int 0, .ref w_se, .ref w_cu, .ref w_pr, .int 0, .ref w_ch, .ref w_re, .ref w_lo])), (w_se, .inr (7, [.int 990, .int 100000, .int 100, .int 5, .int 0, .int 5000, .int 600, .int p1, .int 0, .int 5000, .int 1000, .int 0]))] H := hP
    have hD : va_D A [(ov, .inl (ct 1, 1, .inr (.inl (vp_updL f (0 : Int32).toNatClampNeg 250)))), (x, .inr (10, [.ref w, .ref sp, .ref sv, .ref bu, .int 0, .int 0])), (w, .inr (9, [.int 0, .ref w_se, .ref w_cu, .ref w_pr, .int 0, .ref w_ch, .ref w_re, .ref w_lo])), (w_se, .inr (7, [.int 990, .int 100000, .int 100, .int 5, .int 0, .int 5000, .int 600, .int p1, .int 0, .int 5000, .int 1000, .int 0]))] := hD
    refine lv_goto (tgt := 15) hx hb dL_setAmbient_9 (by decide) ?_
    refine lv_iconst (v := 0) hx hb dL_setAmbient_15 (by decide) ?_
    have hP9 := hP.sub (ws' := [(ov, .inl (ct 1, 1, .inr (.inl (vp_updL f (0 : Int32).toNatClampNeg 250))))]) [0] rfl
    have hD9 := hD.sub (ws' := [(ov, .inl (ct 1, 1, .inr (.inl (vp_updL f (0 : Int32).toNatClampNeg 250))))]) [0] (by decide) rfl
    exact W.iret (v := 0) hx hb hr (fun t ht hW => ⟨⟨0, (vp_updL f (0 : Int32).toNatClampNeg 250), rfl, (Or.inl ⟨rfl, hw_2.2, pk_uLs⟩), by rw [ht]; exact hP9, by rw [hAe]; exact hD9⟩, hS.F ht⟩) hS.2.2 dL_setAmbient_16
theorem dL_setLimits_0 : decode cL_setLimits 0 = .ok (.aload_n 3, 1) := by decide +kernel
theorem dL_setLimits_1 : decode cL_setLimits 1 = .ok (.iconst 0, 1) := by decide +kernel
theorem dL_setLimits_2 : decode cL_setLimits 2 = .ok (.aload_n 0, 1) := by decide +kernel
theorem dL_setLimits_3 : decode cL_setLimits 3 = .ok (.iload_n 1, 1) := by decide +kernel
theorem dL_setLimits_4 : decode cL_setLimits 4 = .ok (.iload_n 2, 1) := by decide +kernel
theorem dL_setLimits_5 : decode cL_setLimits 5 = .ok (.invokevirtual 21, 3) := by decide +kernel
theorem dL_setLimits_8 : decode cL_setLimits 8 = .ok (.i2l, 1) := by decide +kernel
theorem dL_setLimits_9 : decode cL_setLimits 9 = .ok (.lastore, 1) := by decide +kernel
theorem dL_setLimits_10 : decode cL_setLimits 10 = .ok (.goto 7, 3) := by decide +kernel
theorem dL_setLimits_13 : decode cL_setLimits 13 = .ok (.astore 4, 2) := by decide +kernel
theorem dL_setLimits_15 : decode cL_setLimits 15 = .ok (.iconst 1, 1) := by decide +kernel
theorem dL_setLimits_16 : decode cL_setLimits 16 = .ok (.ireturn, 1) := by decide +kernel
theorem dL_setLimits_17 : decode cL_setLimits 17 = .ok (.iconst 0, 1) := by decide +kernel
theorem dL_setLimits_18 : decode cL_setLimits 18 = .ok (.ireturn, 1) := by decide +kernel
set_option maxRecDepth 100000 in
set_option maxHeartbeats 4000000 in
theorem l_setLimits (l : Launch) (hfl : l.stackTraces = false) (D : va_G) (ct : Nat → ClassId) (x : Nat) (w : Nat) (sp : Nat) (sv : Nat) (bu : Nat) (w_se : Nat) (w_cu : Nat) (w_pr : Nat) (w_ch : Nat) (w_re : Nat) (w_lo : Nat) (ov : Nat) (f : Nat → Int64) (p1 : Int32) (p2 : Int32) (sz : Nat) : Met l yL_setLimits (wsw_ yL_setLimits cL_setLimits 5 (some .int) [(0, 10, 13, 13)]) ({ frames := 8, cells := 2, slots := 12, locals := 137 } : Room) (va_Pc [.ref x, .int p1, .int p2, .ref ov] (cmP D ct sz [(x, .inr (10, [.ref w, .ref sp, .ref sv, .ref bu, .int 0, .int 0])), (w, .inr (9, [.int 0, .ref w_se, .ref w_cu, .ref w_pr, .int 0, .ref w_ch, .ref w_re, .ref w_lo])), (w_se, .inr (7, [.int 990, .int 100000, .int 100, .int 5, .int 0, .int 5000, .int 600, .int 250, .int 0, .int 5000, .int 1000, .int 0])), (ov, .inl (ct 1, 1, .inr (.inl f)))])) (va_Qi (fun (r : Int32) (g : (Nat → Int64)) => (r = 0 ∧ ((0 ≤ p1 ∧ p1 ≤ 5000) ∧ (p1 ≤ p2 ∧ p2 ≤ 5000)) ∧ g (0 : Int32).toNatClampNeg = 0) ∨ (r = 1 ∧ (p1 < 0 ∨ 5000 < p1 ∨ p2 < p1 ∨ 5000 < p2))) (cmB D [(x, .inr (10, [.ref w, .ref sp, .ref sv, .ref bu, .int 0, .int 0])), (w, .inr (9, [.int 0, .ref w_se, .ref w_cu, .ref w_pr, .int 0, .ref w_ch, .ref w_re, .ref w_lo])), (w_se, .inr (7, [.int 990, .int 100000, .int 100, .int 5, .int 0, .int 5000, .int 600, .int 250, .int 0, .int 5000, .int 1000, .int 0])), (ov, .inl (ct 1, 1, .inr (.inl f)))] sz (fun g : (Nat → Int64) => [(ov, .inl (ct 1, 1, .inr (.inl g)))])) (va_A [(x, .inr (10, [.ref w, .ref sp, .ref sv, .ref bu, .int 0, .int 0])), (w, .inr (9, [.int 0, .ref w_se, .ref w_cu, .ref w_pr, .int 0, .ref w_ch, .ref w_re, .ref w_lo])), (w_se, .inr (7, [.int 990, .int 100000, .int 100, .int 5, .int 0, .int 5000, .int 600, .int 250, .int 0, .int 5000, .int 1000, .int 0])), (ov, .inl (ct 1, 1, .inr (.inl f)))] sz)) 2 12 (va_A [(x, .inr (10, [.ref w, .ref sp, .ref sv, .ref bu, .int 0, .int 0])), (w, .inr (9, [.int 0, .ref w_se, .ref w_cu, .ref w_pr, .int 0, .ref w_ch, .ref w_re, .ref w_lo])), (w_se, .inr (7, [.int 990, .int 100000, .int 100, .int 5, .int 0, .int 5000, .int 600, .int 250, .int 0, .int 5000, .int 1000, .int 0])), (ov, .inl (ct 1, 1, .inr (.inl f)))] sz) := by
  refine va_MetW (cc := cL_setLimits) (maxL := 5) (ret := (some .int)) (hh := [(0, 10, 13, 13)]) (by decide) rfl ?_
  intro p e s m args below meth c s₁ B hml hv
  have hts0 := atoms_spec (ws := wsw_ yL_setLimits cL_setLimits 5 (some .int) [(0, 10, 13, 13)]) B.pre
  have hts : ∀ w ∈ cm_all, w.before args s = true := fun w h => hts0 w (List.mem_cons_of_mem _ h)
  obtain ⟨rfl, hsz, hP, hK, hD0, hX⟩ := hv
  have hx := B.exec
  have hb := B.bytes
  have hr := B.returns
  have htab := vx_table (x := yL_setLimits) B (hts0 _ List.mem_cons_self)
  have hown : s.vm.findClass RL = some m.cls := findClass_of_methodNamed B.named
  have hlocks := B.notSynchronized
  subst hsz
  have hD := hD0.self (sz := s.heap.size)
  generalize hAe : va_A [(x, .inr (10, [.ref w, .ref sp, .ref sv, .ref bu, .int 0, .int 0])), (w, .inr (9, [.int 0, .ref w_se, .ref w_cu, .ref w_pr, .int 0, .ref w_ch, .ref w_re, .ref w_lo])), (w_se, .inr (7, [.int 990, .int 100000, .int 100, .int 5, .int 0, .int 5000, .int 600, .int 250, .int 0, .int 5000, .int 1000, .int 0])), (ov, .inl (ct 1, 1, .inr (.inl f)))] s.heap.size = A at hD hX ⊢
  have hA : ∀ q : Nat, s.heap.size ≤ q → A q := fun q h => by rw [← hAe]; exact Or.inr h
  have hS : va_S A s.heap s.heap [] := va_S.rf
  have hl := lv_entry ([.ref x, .int p1, .int p2, .ref ov]) (n := 5) (Nat.le_of_ble_eq_true rfl)
  rw [lg_entry_eq]
  generalize (lg_sl ([.ref x, .int p1, .int p2, .ref ov]) ++ List.replicate (5 - (lg_sl ([.ref x, .int p1, .int p2, .ref ov])).length) Slot.unset).toArray = ls at hl ⊢
  have hl : lv_has ls 5 [(0, .ref x), (1, .int p1), (2, .int p2), (3, .ref ov)] := hl
  refine lv_aload_n hx hb dL_setLimits_0 rfl (lv_at hl 3 rfl) ?_
  refine lv_iconst (v := 0) hx hb dL_setLimits_1 (by decide) ?_
  refine lv_aload_n hx hb dL_setLimits_2 rfl (lv_at hl 0 rfl) ?_
  refine lv_iload_n hx hb dL_setLimits_3 rfl (lv_at hl 1 rfl) ?_
  refine lv_iload_n hx hb dL_setLimits_4 rfl (lv_at hl 2 rfl) ?_
  refine cm_xi (wr := [(ov, .inl (ct 1, 1, .inr (.inl f)))]) (vx_runV (As := [.int p1, .int p2]) (rest := [.int 0, .ref ov]) ⟨hx, hb, hml, hown, hts⟩ (c_setLimits_0 l hfl D ct x w sp sv bu w_se w_cu w_pr w_ch w_re w_lo p1 p2 _) (cm_V 2 hts kc_X10_setLimits ki_RX10 kl_RL_21 kv_X10_setLimits kx_X10_setLimits kd_X10_setLimits ⟨Nat.le_of_ble_eq_true rfl, Nat.le_of_ble_eq_true rfl⟩) (cm_preV hP hK hD hS hA hX [0, 1, 2] rfl rfl rfl (q0 := 0) (ci := 10) rfl rfl) rfl rfl hl.1 rfl (lv_room (Nat.le_of_ble_eq_true rfl)) dL_setLimits_5 ⟨Nat.le_of_ble_eq_true rfl, Nat.le_of_ble_eq_true rfl⟩) hP hD hS hA [0, 1, 2] [3] rfl rfl rfl (by decide) (fun E ce q9 u H locs hu hE hP hD hS hce hcv hcl => ?_) (fun r_1 u H locs hw_2 hP hD hS => ?_)
  · subst hE
    have hu : p1 < 0 ∨ 5000 < p1 ∨ p2 < p1 ∨ 5000 < p2 := hu
    have hP : va_P D vwCl [(ov, .inl (ct 1, 1, .inr (.inl f))), (x, .inr (10, [.ref w, .ref sp, .ref sv, .ref bu, .int 0, .int 0])), (w, .inr (9, [.int 0, .ref w_se, .ref w_cu, .ref w_pr, .int 0, .ref w_ch, .ref w_re, .ref w_lo])), (w_se, .inr (7, [.int 990, .int 100000, .int 100, .int 5, .int 0, .int 5000, .int 600, .int 250, .int 0, .int 5000, .int 1000, .int 0]))] H := hP
    have hD : va_D A [(ov, .inl (ct 1, 1, .inr (.inl f))), (x, .inr (10, [.ref w, .ref sp, .ref sv, .ref bu, .int 0, .int 0])), (w, .inr (9, [.int 0, .ref w_se, .ref w_cu, .ref w_pr, .int 0, .ref w_ch, .ref w_re, .ref w_lo])), (w_se, .inr (7, [.int 990, .int 100000, .int 100, .int 5, .int 0, .int 5000, .int 600, .int 250, .int 0, .int 5000, .int 1000, .int 0]))] := hD
    refine vx_catch (name := "java/lang/IllegalArgumentException") hown [] _ _ htab (fun z hz => absurd hz List.not_mem_nil) (by decide) (by decide) (hts _ kl_RL_13) (hts _ kcast_IAE) hce hcv hcl ?_
    refine W.eq (g2 := F0 m 13 ls [.ref q9]) rfl ?_
    refine lv_astore (lv' := [(4, .ref q9), (0, .ref x), (1, .int p1), (2, .int p2), (3, .ref ov)]) hx hb dL_setLimits_13 hl (by decide) rfl (fun ls hl => ?_)
    refine lv_iconst (v := 1) hx hb dL_setLimits_15 (by decide) ?_
    have hP9 := hP.sub (ws' := [(ov, .inl (ct 1, 1, .inr (.inl f)))]) [0] rfl
    have hD9 := hD.sub (ws' := [(ov, .inl (ct 1, 1, .inr (.inl f)))]) [0] (by decide) rfl
    exact W.iret (v := 1) hx hb hr (fun t ht hW => ⟨⟨1, f, rfl, (Or.inr ⟨rfl, hu⟩), by rw [ht]; exact hP9, by rw [hAe]; exact hD9⟩, hS.F ht⟩) hS.2.2 dL_setLimits_16
  · have hw_2 : r_1 = 0 ∧ (0 ≤ p1 ∧ p1 ≤ 5000) ∧ (p1 ≤ p2 ∧ p2 ≤ 5000) := hw_2
    obtain ⟨rfl, hw_2⟩ := hw_2
    have hP : va_P D vwCl [(ov, .inl (ct 1, 1, .inr (.inl f))), (x, .inr (10, [.ref w, .ref sp, .ref sv, .ref bu, .int 0, .int 0])), (w, .inr (9, [.int 0, .ref w_se, .ref w_cu, .ref w_pr, .int 0, .ref w_ch, .ref w_re, .ref w_lo])), (w_se, .inr (7, [.int 990, .int 100000, .int 100, .int 5, .int p1, .int p2, .int 600, .int 250, .int 0, .int 5000, .int 1000, .int 0]))] H := hP
    have hD : va_D A [(ov, .inl (ct 1, 1, .inr (.inl f))), (x, .inr (10, [.ref w, .ref sp, .ref sv, .ref bu, .int 0, .int 0])), (w, .inr (9, [.int 0, .ref w_se, .ref w_cu, .ref w_pr, .int 0, .ref w_ch, .ref w_re, .ref w_lo])), (w_se, .inr (7, [.int 990, .int 100000, .int 100, .int 5, .int p1, .int p2, .int 600, .int 250, .int 0, .int 5000, .int 1000, .int 0]))] := hD
    refine W.widen (k := 2) (n := 12) (Nat.le_of_ble_eq_true rfl) (Nat.le_of_ble_eq_true rfl) ?_
    refine lv_i2l (v := 0) hx hb dL_setLimits_8 (by decide) ?_
    refine va_last hx hb hK hP hD hS 0 1 rfl rfl (cm_vin (by decide)) dL_setLimits_9 (fun H locs hP hD hS => ?_)
    have hP : va_P D vwCl [(ov, .inl (ct 1, 1, .inr (.inl (vp_updL f (0 : Int32).toNatClampNeg 0)))), (x, .inr (10, [.ref w, .ref sp, .ref sv, .ref bu, .int 0, .int 0])), (w, .inr (9, [.int 0, .ref w_se, .ref w_cu, .ref w_pr, .int 0, .ref w_ch, .ref w_re, .ref w_lo])), (w_se, .inr (7, [.int 990, .int 100000, .int 100, .int 5, .int p1, .int p2, .int 600, .int 250, .int 0, .int 5000, .int 1000, .int 0]))] H := hP
    have hD : va_D A [(ov, .inl (ct 1, 1, .inr (.inl (vp_updL f (0 : Int32).toNatClampNeg 0)))), (x, .inr (10, [.ref w, .ref sp, .ref sv, .ref bu, .int 0, .int 0])), (w, .inr (9, [.int 0, .ref w_se, .ref w_cu, .ref w_pr, .int 0, .ref w_ch, .ref w_re, .ref w_lo])), (w_se, .inr (7, [.int 990, .int 100000, .int 100, .int 5, .int p1, .int p2, .int 600, .int 250, .int 0, .int 5000, .int 1000, .int 0]))] := hD
    refine lv_goto (tgt := 17) hx hb dL_setLimits_10 (by decide) ?_
    refine lv_iconst (v := 0) hx hb dL_setLimits_17 (by decide) ?_
    have hP9 := hP.sub (ws' := [(ov, .inl (ct 1, 1, .inr (.inl (vp_updL f (0 : Int32).toNatClampNeg 0))))]) [0] rfl
    have hD9 := hD.sub (ws' := [(ov, .inl (ct 1, 1, .inr (.inl (vp_updL f (0 : Int32).toNatClampNeg 0))))]) [0] (by decide) rfl
    exact W.iret (v := 0) hx hb hr (fun t ht hW => ⟨⟨0, (vp_updL f (0 : Int32).toNatClampNeg 0), rfl, (Or.inl ⟨rfl, hw_2.2, pk_uLs⟩), by rw [ht]; exact hP9, by rw [hAe]; exact hD9⟩, hS.F ht⟩) hS.2.2 dL_setLimits_18
theorem dL_setDerate_0 : decode cL_setDerate 0 = .ok (.aload_n 2, 1) := by decide +kernel
theorem dL_setDerate_1 : decode cL_setDerate 1 = .ok (.iconst 0, 1) := by decide +kernel
theorem dL_setDerate_2 : decode cL_setDerate 2 = .ok (.aload_n 0, 1) := by decide +kernel
theorem dL_setDerate_3 : decode cL_setDerate 3 = .ok (.iload_n 1, 1) := by decide +kernel
theorem dL_setDerate_4 : decode cL_setDerate 4 = .ok (.invokevirtual 25, 3) := by decide +kernel
theorem dL_setDerate_7 : decode cL_setDerate 7 = .ok (.i2l, 1) := by decide +kernel
theorem dL_setDerate_8 : decode cL_setDerate 8 = .ok (.lastore, 1) := by decide +kernel
theorem dL_setDerate_9 : decode cL_setDerate 9 = .ok (.goto 6, 3) := by decide +kernel
theorem dL_setDerate_12 : decode cL_setDerate 12 = .ok (.astore_n 3, 1) := by decide +kernel
theorem dL_setDerate_13 : decode cL_setDerate 13 = .ok (.iconst 1, 1) := by decide +kernel
theorem dL_setDerate_14 : decode cL_setDerate 14 = .ok (.ireturn, 1) := by decide +kernel
theorem dL_setDerate_15 : decode cL_setDerate 15 = .ok (.iconst 0, 1) := by decide +kernel
theorem dL_setDerate_16 : decode cL_setDerate 16 = .ok (.ireturn, 1) := by decide +kernel
set_option maxRecDepth 100000 in
set_option maxHeartbeats 4000000 in
theorem l_setDerate (l : Launch) (hfl : l.stackTraces = false) (D : va_G) (ct : Nat → ClassId) (x : Nat) (w : Nat) (sp : Nat) (sv : Nat) (bu : Nat) (w_se : Nat) (w_cu : Nat) (w_pr : Nat) (w_ch : Nat) (w_re : Nat) (w_lo : Nat) (ov : Nat) (f : Nat → Int64) (p1 : Int32) (sz : Nat) : Met l yL_setDerate (wsw_ yL_setDerate cL_setDerate 4 (some .int) [(0, 9, 12, 13)]) ({ frames := 8, cells := 1, slots := 6, locals := 134 } : Room) (va_Pc [.ref x, .int p1, .ref ov] (cmP D ct sz [(x, .inr (10, [.ref w, .ref sp, .ref sv, .ref bu, .int 0, .int 0])), (w, .inr (9, [.int 0, .ref w_se, .ref w_cu, .ref w_pr, .int 0, .ref w_ch, .ref w_re, .ref w_lo])), (w_se, .inr (7, [.int 990, .int 100000, .int 100, .int 5, .int 0, .int 5000, .int 600, .int 250, .int 0, .int 5000, .int 1000, .int 0])), (ov, .inl (ct 1, 1, .inr (.inl f)))])) (va_Qi (fun (r : Int32) (g : (Nat → Int64)) => (r = 0 ∧ (0 ≤ p1 ∧ p1 ≤ 200) ∧ g (0 : Int32).toNatClampNeg = 0) ∨ (r = 1 ∧ (p1 < 0 ∨ 200 < p1))) (cmB D [(x, .inr (10, [.ref w, .ref sp, .ref sv, .ref bu, .int 0, .int 0])), (w, .inr (9, [.int 0, .ref w_se, .ref w_cu, .ref w_pr, .int 0, .ref w_ch, .ref w_re, .ref w_lo])), (w_se, .inr (7, [.int 990, .int 100000, .int 100, .int 5, .int 0, .int 5000, .int 600, .int 250, .int 0, .int 5000, .int 1000, .int 0])), (ov, .inl (ct 1, 1, .inr (.inl f)))] sz (fun g : (Nat → Int64) => [(ov, .inl (ct 1, 1, .inr (.inl g)))])) (va_A [(x, .inr (10, [.ref w, .ref sp, .ref sv, .ref bu, .int 0, .int 0])), (w, .inr (9, [.int 0, .ref w_se, .ref w_cu, .ref w_pr, .int 0, .ref w_ch, .ref w_re, .ref w_lo])), (w_se, .inr (7, [.int 990, .int 100000, .int 100, .int 5, .int 0, .int 5000, .int 600, .int 250, .int 0, .int 5000, .int 1000, .int 0])), (ov, .inl (ct 1, 1, .inr (.inl f)))] sz)) 1 6 (va_A [(x, .inr (10, [.ref w, .ref sp, .ref sv, .ref bu, .int 0, .int 0])), (w, .inr (9, [.int 0, .ref w_se, .ref w_cu, .ref w_pr, .int 0, .ref w_ch, .ref w_re, .ref w_lo])), (w_se, .inr (7, [.int 990, .int 100000, .int 100, .int 5, .int 0, .int 5000, .int 600, .int 250, .int 0, .int 5000, .int 1000, .int 0])), (ov, .inl (ct 1, 1, .inr (.inl f)))] sz) := by
  refine va_MetW (cc := cL_setDerate) (maxL := 4) (ret := (some .int)) (hh := [(0, 9, 12, 13)]) (by decide) rfl ?_
  intro p e s m args below meth c s₁ B hml hv
  have hts0 := atoms_spec (ws := wsw_ yL_setDerate cL_setDerate 4 (some .int) [(0, 9, 12, 13)]) B.pre
  have hts : ∀ w ∈ cm_all, w.before args s = true := fun w h => hts0 w (List.mem_cons_of_mem _ h)
  obtain ⟨rfl, hsz, hP, hK, hD0, hX⟩ := hv
  have hx := B.exec
  have hb := B.bytes
  have hr := B.returns
  have htab := vx_table (x := yL_setDerate) B (hts0 _ List.mem_cons_self)
  have hown : s.vm.findClass RL = some m.cls := findClass_of_methodNamed B.named
  have hlocks := B.notSynchronized
  subst hsz
  have hD := hD0.self (sz := s.heap.size)
  generalize hAe : va_A [(x, .inr (10, [.ref w, .ref sp, .ref sv, .ref bu, .int 0, .int 0])), (w, .inr (9, [.int 0, .ref w_se, .ref w_cu, .ref w_pr, .int 0, .ref w_ch, .ref w_re, .ref w_lo])), (w_se, .inr (7, [.int 990, .int 100000, .int 100, .int 5, .int 0, .int 5000, .int 600, .int 250, .int 0, .int 5000, .int 1000, .int 0])), (ov, .inl (ct 1, 1, .inr (.inl f)))] s.heap.size = A at hD hX ⊢
  have hA : ∀ q : Nat, s.heap.size ≤ q → A q := fun q h => by rw [← hAe]; exact Or.inr h
  have hS : va_S A s.heap s.heap [] := va_S.rf
  have hl := lv_entry ([.ref x, .int p1, .ref ov]) (n := 4) (Nat.le_of_ble_eq_true rfl)
  rw [lg_entry_eq]
  generalize (lg_sl ([.ref x, .int p1, .ref ov]) ++ List.replicate (4 - (lg_sl ([.ref x, .int p1, .ref ov])).length) Slot.unset).toArray = ls at hl ⊢
  have hl : lv_has ls 4 [(0, .ref x), (1, .int p1), (2, .ref ov)] := hl
  refine lv_aload_n hx hb dL_setDerate_0 rfl (lv_at hl 2 rfl) ?_
  refine lv_iconst (v := 0) hx hb dL_setDerate_1 (by decide) ?_
  refine lv_aload_n hx hb dL_setDerate_2 rfl (lv_at hl 0 rfl) ?_
  refine lv_iload_n hx hb dL_setDerate_3 rfl (lv_at hl 1 rfl) ?_
  refine cm_xi (wr := [(ov, .inl (ct 1, 1, .inr (.inl f)))]) (vx_runV (As := [.int p1]) (rest := [.int 0, .ref ov]) ⟨hx, hb, hml, hown, hts⟩ (c_setDerate_0 l hfl D ct x w sp sv bu w_se w_cu w_pr w_ch w_re w_lo p1 _) (cm_V 1 hts kc_X10_setDerate ki_RX10 kl_RL_25 kv_X10_setDerate kx_X10_setDerate kd_X10_setDerate ⟨Nat.le_of_ble_eq_true rfl, Nat.le_of_ble_eq_true rfl⟩) (cm_preV hP hK hD hS hA hX [0, 1, 2] rfl rfl rfl (q0 := 0) (ci := 10) rfl rfl) rfl rfl hl.1 rfl (lv_room (Nat.le_of_ble_eq_true rfl)) dL_setDerate_4 ⟨Nat.le_of_ble_eq_true rfl, Nat.le_of_ble_eq_true rfl⟩) hP hD hS hA [0, 1, 2] [3] rfl rfl rfl (by decide) (fun E ce q9 u H locs hu hE hP hD hS hce hcv hcl => ?_) (fun r_1 u H locs hw_2 hP hD hS => ?_)
  · subst hE
    have hu : p1 < 0 ∨ 200 < p1 := hu
    have hP : va_P D vwCl [(ov, .inl (ct 1, 1, .inr (.inl f))), (x, .inr (10, [.ref w, .ref sp, .ref sv, .ref bu, .int 0, .int 0])), (w, .inr (9, [.int 0, .ref w_se, .ref w_cu, .ref w_pr, .int 0, .ref w_ch, .ref w_re, .ref w_lo])), (w_se, .inr (7, [.int 990, .int 100000, .int 100, .int 5, .int 0, .int 5000, .int 600, .int 250, .int 0, .int 5000, .int 1000, .int 0]))] H := hP
    have hD : va_D A [(ov, .inl (ct 1, 1, .inr (.inl f))), (x, .inr (10, [.ref w, .ref sp, .ref sv, .ref bu, .int 0, .int 0])), (w, .inr (9, [.int 0, .ref w_se, .ref w_cu, .ref w_pr, .int 0, .ref w_ch, .ref w_re, .ref w_lo])), (w_se, .inr (7, [.int 990, .int 100000, .int 100, .int 5, .int 0, .int 5000, .int 600, .int 250, .int 0, .int 5000, .int 1000, .int 0]))] := hD
    refine vx_catch (name := "java/lang/IllegalArgumentException") hown [] _ _ htab (fun z hz => absurd hz List.not_mem_nil) (by decide) (by decide) (hts _ kl_RL_13) (hts _ kcast_IAE) hce hcv hcl ?_
    refine W.eq (g2 := F0 m 12 ls [.ref q9]) rfl ?_
    refine lv_astore_n (lv' := [(3, .ref q9), (0, .ref x), (1, .int p1), (2, .ref ov)]) hx hb dL_setDerate_12 rfl hl (by decide) rfl (fun ls hl => ?_)
    refine lv_iconst (v := 1) hx hb dL_setDerate_13 (by decide) ?_
    have hP9 := hP.sub (ws' := [(ov, .inl (ct 1, 1, .inr (.inl f)))]) [0] rfl
    have hD9 := hD.sub (ws' := [(ov, .inl (ct 1, 1, .inr (.inl f)))]) [0] (by decide) rfl
    exact W.iret (v := 1) hx hb hr (fun t ht hW => ⟨⟨1, f, rfl, (Or.inr ⟨rfl, hu⟩), by rw [ht]; exact hP9, by rw [hAe]; exact hD9⟩, hS.F ht⟩) hS.2.2 dL_setDerate_14
  · have hw_2 : r_1 = 0 ∧ 0 ≤ p1 ∧ p1 ≤ 200 := hw_2
    obtain ⟨rfl, hw_2⟩ := hw_2
    have hP : va_P D vwCl [(ov, .inl (ct 1, 1, .inr (.inl f))), (x, .inr (10, [.ref w, .ref sp, .ref sv, .ref bu, .int 0, .int 0])), (w, .inr (9, [.int 0, .ref w_se, .ref w_cu, .ref w_pr, .int 0, .ref w_ch, .ref w_re, .ref w_lo])), (w_se, .inr (7, [.int 990, .int 100000, .int 100, .int 5, .int 0, .int 5000, .int 600, .int 250, .int 0, .int 5000, .int 1000, .int p1]))] H := hP
    have hD : va_D A [(ov, .inl (ct 1, 1, .inr (.inl f))), (x, .inr (10, [.ref w, .ref sp, .ref sv, .ref bu, .int 0, .int 0])), (w, .inr (9, [.int 0, .ref w_se, .ref w_cu, .ref w_pr, .int 0, .ref w_ch, .ref w_re, .ref w_lo])), (w_se, .inr (7, [.int 990, .int 100000, .int 100, .int 5, .int 0, .int 5000, .int 600, .int 250, .int 0, .int 5000, .int 1000, .int p1]))] := hD
    refine W.widen (k := 1) (n := 6) (Nat.le_of_ble_eq_true rfl) (Nat.le_of_ble_eq_true rfl) ?_
    refine lv_i2l (v := 0) hx hb dL_setDerate_7 (by decide) ?_
    refine va_last hx hb hK hP hD hS 0 1 rfl rfl (cm_vin (by decide)) dL_setDerate_8 (fun H locs hP hD hS => ?_)
    have hP : va_P D vwCl [(ov, .inl (ct 1, 1, .inr (.inl (vp_updL f (0 : Int32).toNatClampNeg 0)))), (x, .inr (10, [.ref w, .ref sp, .ref sv, .ref bu, .int 0, .int 0])), (w, .inr (9, [.int 0, .ref w_se, .ref w_cu, .ref w_pr, .int 0, .ref w_ch, .ref w_re, .ref w_lo])), (w_se, .inr (7, [.int 990, .int 100000, .int 100, .int 5, .int 0, .int 5000, .int 600, .int 250, .int 0, .int 5000, .int 1000, .int p1]))] H := hP
    have hD : va_D A [(ov, .inl (ct 1, 1, .inr (.inl (vp_updL f (0 : Int32).toNatClampNeg 0)))), (x, .inr (10, [.ref w, .ref sp, .ref sv, .ref bu, .int 0, .int 0])), (w, .inr (9, [.int 0, .ref w_se, .ref w_cu, .ref w_pr, .int 0, .ref w_ch, .ref w_re, .ref w_lo])), (w_se, .inr (7, [.int 990, .int 100000, .int 100, .int 5, .int 0, .int 5000, .int 600, .int 250, .int 0, .int 5000, .int 1000, .int p1]))] := hD
    refine lv_goto (tgt := 15) hx hb dL_setDerate_9 (by decide) ?_
    refine lv_iconst (v := 0) hx hb dL_setDerate_15 (by decide) ?_
    have hP9 := hP.sub (ws' := [(ov, .inl (ct 1, 1, .inr (.inl (vp_updL f (0 : Int32).toNatClampNeg 0))))]) [0] rfl
    have hD9 := hD.sub (ws' := [(ov, .inl (ct 1, 1, .inr (.inl (vp_updL f (0 : Int32).toNatClampNeg 0))))]) [0] (by decide) rfl
    exact W.iret (v := 0) hx hb hr (fun t ht hW => ⟨⟨0, (vp_updL f (0 : Int32).toNatClampNeg 0), rfl, (Or.inl ⟨rfl, hw_2.2, pk_uLs⟩), by rw [ht]; exact hP9, by rw [hAe]; exact hD9⟩, hS.F ht⟩) hS.2.2 dL_setDerate_16
theorem dL_advance_0 : decode cL_advance 0 = .ok (.aload_n 2, 1) := by decide +kernel
theorem dL_advance_1 : decode cL_advance 1 = .ok (.iconst 0, 1) := by decide +kernel
theorem dL_advance_2 : decode cL_advance 2 = .ok (.aload_n 0, 1) := by decide +kernel
theorem dL_advance_3 : decode cL_advance 3 = .ok (.iload_n 1, 1) := by decide +kernel
theorem dL_advance_4 : decode cL_advance 4 = .ok (.invokevirtual 34, 3) := by decide +kernel
theorem dL_advance_7 : decode cL_advance 7 = .ok (.i2l, 1) := by decide +kernel
theorem dL_advance_8 : decode cL_advance 8 = .ok (.lastore, 1) := by decide +kernel
theorem dL_advance_9 : decode cL_advance 9 = .ok (.goto 6, 3) := by decide +kernel
theorem dL_advance_12 : decode cL_advance 12 = .ok (.astore_n 3, 1) := by decide +kernel
theorem dL_advance_13 : decode cL_advance 13 = .ok (.iconst 1, 1) := by decide +kernel
theorem dL_advance_14 : decode cL_advance 14 = .ok (.ireturn, 1) := by decide +kernel
theorem dL_advance_15 : decode cL_advance 15 = .ok (.iconst 0, 1) := by decide +kernel
theorem dL_advance_16 : decode cL_advance 16 = .ok (.ireturn, 1) := by decide +kernel
set_option maxRecDepth 100000 in
set_option maxHeartbeats 4000000 in
theorem l_advance (l : Launch) (hfl : l.stackTraces = false) (D : va_G) (ct : Nat → ClassId) (x : Nat) (w : Nat) (sp : Nat) (sv : Nat) (bu : Nat) (w_se : Nat) (w_cu : Nat) (w_pr : Nat) (w_ch : Nat) (w_re : Nat) (w_lo : Nat) (ov : Nat) (f : Nat → Int64) (p1 : Int32) (sz : Nat) : Met l yL_advance (wsw_ yL_advance cL_advance 4 (some .int) [(0, 9, 12, 13)]) ({ frames := 8, cells := 1, slots := 6, locals := 137 } : Room) (va_Pc [.ref x, .int p1, .ref ov] (cmP D ct sz [(x, .inr (10, [.ref w, .ref sp, .ref sv, .ref bu, .int 0, .int 0])), (w, .inr (9, [.int 0, .ref w_se, .ref w_cu, .ref w_pr, .int 0, .ref w_ch, .ref w_re, .ref w_lo])), (ov, .inl (ct 1, 1, .inr (.inl f)))])) (va_Qi (fun (r : Int32) (g : (Nat → Int64)) => (r = 0 ∧ (1 ≤ p1 ∧ p1 ≤ 5000) ∧ g (0 : Int32).toNatClampNeg = 0) ∨ (r = 1 ∧ (p1 < 1 ∨ 5000 < p1))) (cmB D [(x, .inr (10, [.ref w, .ref sp, .ref sv, .ref bu, .int 0, .int 0])), (w, .inr (9, [.int 0, .ref w_se, .ref w_cu, .ref w_pr, .int 0, .ref w_ch, .ref w_re, .ref w_lo])), (ov, .inl (ct 1, 1, .inr (.inl f)))] sz (fun g : (Nat → Int64) => [(ov, .inl (ct 1, 1, .inr (.inl g)))])) (va_A [(x, .inr (10, [.ref w, .ref sp, .ref sv, .ref bu, .int 0, .int 0])), (w, .inr (9, [.int 0, .ref w_se, .ref w_cu, .ref w_pr, .int 0, .ref w_ch, .ref w_re, .ref w_lo])), (ov, .inl (ct 1, 1, .inr (.inl f)))] sz)) 1 6 (va_A [(x, .inr (10, [.ref w, .ref sp, .ref sv, .ref bu, .int 0, .int 0])), (w, .inr (9, [.int 0, .ref w_se, .ref w_cu, .ref w_pr, .int 0, .ref w_ch, .ref w_re, .ref w_lo])), (ov, .inl (ct 1, 1, .inr (.inl f)))] sz) := by
  refine va_MetW (cc := cL_advance) (maxL := 4) (ret := (some .int)) (hh := [(0, 9, 12, 13)]) (by decide) rfl ?_
  intro p e s m args below meth c s₁ B hml hv
  have hts0 := atoms_spec (ws := wsw_ yL_advance cL_advance 4 (some .int) [(0, 9, 12, 13)]) B.pre
  have hts : ∀ w ∈ cm_all, w.before args s = true := fun w h => hts0 w (List.mem_cons_of_mem _ h)
  obtain ⟨rfl, hsz, hP, hK, hD0, hX⟩ := hv
  have hx := B.exec
  have hb := B.bytes
  have hr := B.returns
  have htab := vx_table (x := yL_advance) B (hts0 _ List.mem_cons_self)
  have hown : s.vm.findClass RL = some m.cls := findClass_of_methodNamed B.named
  have hlocks := B.notSynchronized
  subst hsz
  have hD := hD0.self (sz := s.heap.size)
  generalize hAe : va_A [(x, .inr (10, [.ref w, .ref sp, .ref sv, .ref bu, .int 0, .int 0])), (w, .inr (9, [.int 0, .ref w_se, .ref w_cu, .ref w_pr, .int 0, .ref w_ch, .ref w_re, .ref w_lo])), (ov, .inl (ct 1, 1, .inr (.inl f)))] s.heap.size = A at hD hX ⊢
  have hA : ∀ q : Nat, s.heap.size ≤ q → A q := fun q h => by rw [← hAe]; exact Or.inr h
  have hS : va_S A s.heap s.heap [] := va_S.rf
  have hl := lv_entry ([.ref x, .int p1, .ref ov]) (n := 4) (Nat.le_of_ble_eq_true rfl)
  rw [lg_entry_eq]
  generalize (lg_sl ([.ref x, .int p1, .ref ov]) ++ List.replicate (4 - (lg_sl ([.ref x, .int p1, .ref ov])).length) Slot.unset).toArray = ls at hl ⊢
  have hl : lv_has ls 4 [(0, .ref x), (1, .int p1), (2, .ref ov)] := hl
  refine lv_aload_n hx hb dL_advance_0 rfl (lv_at hl 2 rfl) ?_
  refine lv_iconst (v := 0) hx hb dL_advance_1 (by decide) ?_
  refine lv_aload_n hx hb dL_advance_2 rfl (lv_at hl 0 rfl) ?_
  refine lv_iload_n hx hb dL_advance_3 rfl (lv_at hl 1 rfl) ?_
  refine cm_xi (wr := [(ov, .inl (ct 1, 1, .inr (.inl f)))]) (vx_runV (As := [.int p1]) (rest := [.int 0, .ref ov]) ⟨hx, hb, hml, hown, hts⟩ (c_advance_0 l hfl D ct x w sp sv bu w_se w_cu w_pr w_ch w_re w_lo p1 _) (cm_V 1 hts kc_X10_advance ki_RX10 kl_RL_34 kv_X10_advance kx_X10_advance kd_X10_advance ⟨Nat.le_of_ble_eq_true rfl, Nat.le_of_ble_eq_true rfl⟩) (cm_preV hP hK hD hS hA hX [0, 1] rfl rfl rfl (q0 := 0) (ci := 10) rfl rfl) rfl rfl hl.1 rfl (lv_room (Nat.le_of_ble_eq_true rfl)) dL_advance_4 ⟨Nat.le_of_ble_eq_true rfl, Nat.le_of_ble_eq_true rfl⟩) hP hD hS hA [0, 1] [2] rfl rfl rfl (by decide) (fun E ce q9 u H locs hu hE hP hD hS hce hcv hcl => ?_) (fun r_1 u H locs hw_2 hP hD hS => ?_)
  · subst hE
    have hu : p1 < 1 ∨ 5000 < p1 := hu
    have hP : va_P D vwCl [(ov, .inl (ct 1, 1, .inr (.inl f))), (x, .inr (10, [.ref w, .ref sp, .ref sv, .ref bu, .int 0, .int 0])), (w, .inr (9, [.int 0, .ref w_se, .ref w_cu, .ref w_pr, .int 0, .ref w_ch, .ref w_re, .ref w_lo]))] H := hP
    have hD : va_D A [(ov, .inl (ct 1, 1, .inr (.inl f))), (x, .inr (10, [.ref w, .ref sp, .ref sv, .ref bu, .int 0, .int 0])), (w, .inr (9, [.int 0, .ref w_se, .ref w_cu, .ref w_pr, .int 0, .ref w_ch, .ref w_re, .ref w_lo]))] := hD
    refine vx_catch (name := "java/lang/IllegalArgumentException") hown [] _ _ htab (fun z hz => absurd hz List.not_mem_nil) (by decide) (by decide) (hts _ kl_RL_13) (hts _ kcast_IAE) hce hcv hcl ?_
    refine W.eq (g2 := F0 m 12 ls [.ref q9]) rfl ?_
    refine lv_astore_n (lv' := [(3, .ref q9), (0, .ref x), (1, .int p1), (2, .ref ov)]) hx hb dL_advance_12 rfl hl (by decide) rfl (fun ls hl => ?_)
    refine lv_iconst (v := 1) hx hb dL_advance_13 (by decide) ?_
    have hP9 := hP.sub (ws' := [(ov, .inl (ct 1, 1, .inr (.inl f)))]) [0] rfl
    have hD9 := hD.sub (ws' := [(ov, .inl (ct 1, 1, .inr (.inl f)))]) [0] (by decide) rfl
    exact W.iret (v := 1) hx hb hr (fun t ht hW => ⟨⟨1, f, rfl, (Or.inr ⟨rfl, hu⟩), by rw [ht]; exact hP9, by rw [hAe]; exact hD9⟩, hS.F ht⟩) hS.2.2 dL_advance_14
  · have hw_2 : r_1 = 0 ∧ 1 ≤ p1 ∧ p1 ≤ 5000 := hw_2
    obtain ⟨rfl, hw_2⟩ := hw_2
    have hP : va_P D vwCl [(ov, .inl (ct 1, 1, .inr (.inl f))), (x, .inr (10, [.ref w, .ref sp, .ref sv, .ref bu, .int 0, .int 0])), (w, .inr (9, [.int p1, .ref w_se, .ref w_cu, .ref w_pr, .int 0, .ref w_ch, .ref w_re, .ref w_lo]))] H := hP
    have hD : va_D A [(ov, .inl (ct 1, 1, .inr (.inl f))), (x, .inr (10, [.ref w, .ref sp, .ref sv, .ref bu, .int 0, .int 0])), (w, .inr (9, [.int p1, .ref w_se, .ref w_cu, .ref w_pr, .int 0, .ref w_ch, .ref w_re, .ref w_lo]))] := hD
    refine W.widen (k := 1) (n := 6) (Nat.le_of_ble_eq_true rfl) (Nat.le_of_ble_eq_true rfl) ?_
    refine lv_i2l (v := 0) hx hb dL_advance_7 (by decide) ?_
    refine va_last hx hb hK hP hD hS 0 1 rfl rfl (cm_vin (by decide)) dL_advance_8 (fun H locs hP hD hS => ?_)
    have hP : va_P D vwCl [(ov, .inl (ct 1, 1, .inr (.inl (vp_updL f (0 : Int32).toNatClampNeg 0)))), (x, .inr (10, [.ref w, .ref sp, .ref sv, .ref bu, .int 0, .int 0])), (w, .inr (9, [.int p1, .ref w_se, .ref w_cu, .ref w_pr, .int 0, .ref w_ch, .ref w_re, .ref w_lo]))] H := hP
    have hD : va_D A [(ov, .inl (ct 1, 1, .inr (.inl (vp_updL f (0 : Int32).toNatClampNeg 0)))), (x, .inr (10, [.ref w, .ref sp, .ref sv, .ref bu, .int 0, .int 0])), (w, .inr (9, [.int p1, .ref w_se, .ref w_cu, .ref w_pr, .int 0, .ref w_ch, .ref w_re, .ref w_lo]))] := hD
    refine lv_goto (tgt := 15) hx hb dL_advance_9 (by decide) ?_
    refine lv_iconst (v := 0) hx hb dL_advance_15 (by decide) ?_
    have hP9 := hP.sub (ws' := [(ov, .inl (ct 1, 1, .inr (.inl (vp_updL f (0 : Int32).toNatClampNeg 0))))]) [0] rfl
    have hD9 := hD.sub (ws' := [(ov, .inl (ct 1, 1, .inr (.inl (vp_updL f (0 : Int32).toNatClampNeg 0))))]) [0] (by decide) rfl
    exact W.iret (v := 0) hx hb hr (fun t ht hW => ⟨⟨0, (vp_updL f (0 : Int32).toNatClampNeg 0), rfl, (Or.inl ⟨rfl, hw_2.2, pk_uLs⟩), by rw [ht]; exact hP9, by rw [hAe]; exact hD9⟩, hS.F ht⟩) hS.2.2 dL_advance_16
theorem dL_inState_0 : decode cL_inState 0 = .ok (.aload_n 2, 1) := by decide +kernel
theorem dL_inState_1 : decode cL_inState 1 = .ok (.iconst 0, 1) := by decide +kernel
theorem dL_inState_2 : decode cL_inState 2 = .ok (.aload_n 0, 1) := by decide +kernel
theorem dL_inState_3 : decode cL_inState 3 = .ok (.iload_n 1, 1) := by decide +kernel
theorem dL_inState_4 : decode cL_inState 4 = .ok (.invokevirtual 118, 3) := by decide +kernel
theorem dL_inState_7 : decode cL_inState 7 = .ok (.i2l, 1) := by decide +kernel
theorem dL_inState_8 : decode cL_inState 8 = .ok (.lastore, 1) := by decide +kernel
theorem dL_inState_9 : decode cL_inState 9 = .ok (.goto 6, 3) := by decide +kernel
theorem dL_inState_12 : decode cL_inState 12 = .ok (.astore_n 3, 1) := by decide +kernel
theorem dL_inState_13 : decode cL_inState 13 = .ok (.iconst 1, 1) := by decide +kernel
theorem dL_inState_14 : decode cL_inState 14 = .ok (.ireturn, 1) := by decide +kernel
theorem dL_inState_15 : decode cL_inState 15 = .ok (.iconst 0, 1) := by decide +kernel
theorem dL_inState_16 : decode cL_inState 16 = .ok (.ireturn, 1) := by decide +kernel
set_option maxRecDepth 100000 in
set_option maxHeartbeats 4000000 in
theorem l_inState (l : Launch) (hfl : l.stackTraces = false) (D : va_G) (ct : Nat → ClassId) (x : Nat) (w : Nat) (sp : Nat) (sv : Nat) (bu : Nat) (w_se : Nat) (w_cu : Nat) (w_pr : Nat) (w_ch : Nat) (w_re : Nat) (w_lo : Nat) (ov : Nat) (f : Nat → Int64) (p1 : Int32) (sz : Nat) : Met l yL_inState (wsw_ yL_inState cL_inState 4 (some .int) [(0, 9, 12, 13)]) ({ frames := 8, cells := 1, slots := 6, locals := 133 } : Room) (va_Pc [.ref x, .int p1, .ref ov] (cmP D ct sz [(x, .inr (10, [.ref w, .ref sp, .ref sv, .ref bu, .int 0, .int 0])), (w, .inr (9, [.int 0, .ref w_se, .ref w_cu, .ref w_pr, .int 0, .ref w_ch, .ref w_re, .ref w_lo])), (ov, .inl (ct 1, 1, .inr (.inl f)))])) (va_Qi (fun (r : Int32) (g : (Nat → Int64)) => (r = 0 ∧ (0 ≤ p1 ∧ p1 ≤ 4) ∧ g (0 : Int32).toNatClampNeg = 0) ∨ (r = 1 ∧ (p1 < 0 ∨ 4 < p1))) (cmB D [(x, .inr (10, [.ref w, .ref sp, .ref sv, .ref bu, .int 0, .int 0])), (w, .inr (9, [.int 0, .ref w_se, .ref w_cu, .ref w_pr, .int 0, .ref w_ch, .ref w_re, .ref w_lo])), (ov, .inl (ct 1, 1, .inr (.inl f)))] sz (fun g : (Nat → Int64) => [(ov, .inl (ct 1, 1, .inr (.inl g)))])) (va_A [(x, .inr (10, [.ref w, .ref sp, .ref sv, .ref bu, .int 0, .int 0])), (w, .inr (9, [.int 0, .ref w_se, .ref w_cu, .ref w_pr, .int 0, .ref w_ch, .ref w_re, .ref w_lo])), (ov, .inl (ct 1, 1, .inr (.inl f)))] sz)) 1 6 (va_A [(x, .inr (10, [.ref w, .ref sp, .ref sv, .ref bu, .int 0, .int 0])), (w, .inr (9, [.int 0, .ref w_se, .ref w_cu, .ref w_pr, .int 0, .ref w_ch, .ref w_re, .ref w_lo])), (ov, .inl (ct 1, 1, .inr (.inl f)))] sz) := by
  refine va_MetW (cc := cL_inState) (maxL := 4) (ret := (some .int)) (hh := [(0, 9, 12, 13)]) (by decide) rfl ?_
  intro p e s m args below meth c s₁ B hml hv
  have hts0 := atoms_spec (ws := wsw_ yL_inState cL_inState 4 (some .int) [(0, 9, 12, 13)]) B.pre
  have hts : ∀ w ∈ cm_all, w.before args s = true := fun w h => hts0 w (List.mem_cons_of_mem _ h)
  obtain ⟨rfl, hsz, hP, hK, hD0, hX⟩ := hv
  have hx := B.exec
  have hb := B.bytes
  have hr := B.returns
  have htab := vx_table (x := yL_inState) B (hts0 _ List.mem_cons_self)
  have hown : s.vm.findClass RL = some m.cls := findClass_of_methodNamed B.named
  have hlocks := B.notSynchronized
  subst hsz
  have hD := hD0.self (sz := s.heap.size)
  generalize hAe : va_A [(x, .inr (10, [.ref w, .ref sp, .ref sv, .ref bu, .int 0, .int 0])), (w, .inr (9, [.int 0, .ref w_se, .ref w_cu, .ref w_pr, .int 0, .ref w_ch, .ref w_re, .ref w_lo])), (ov, .inl (ct 1, 1, .inr (.inl f)))] s.heap.size = A at hD hX ⊢
  have hA : ∀ q : Nat, s.heap.size ≤ q → A q := fun q h => by rw [← hAe]; exact Or.inr h
  have hS : va_S A s.heap s.heap [] := va_S.rf
  have hl := lv_entry ([.ref x, .int p1, .ref ov]) (n := 4) (Nat.le_of_ble_eq_true rfl)
  rw [lg_entry_eq]
  generalize (lg_sl ([.ref x, .int p1, .ref ov]) ++ List.replicate (4 - (lg_sl ([.ref x, .int p1, .ref ov])).length) Slot.unset).toArray = ls at hl ⊢
  have hl : lv_has ls 4 [(0, .ref x), (1, .int p1), (2, .ref ov)] := hl
  refine lv_aload_n hx hb dL_inState_0 rfl (lv_at hl 2 rfl) ?_
  refine lv_iconst (v := 0) hx hb dL_inState_1 (by decide) ?_
  refine lv_aload_n hx hb dL_inState_2 rfl (lv_at hl 0 rfl) ?_
  refine lv_iload_n hx hb dL_inState_3 rfl (lv_at hl 1 rfl) ?_
  refine cm_xi (wr := [(ov, .inl (ct 1, 1, .inr (.inl f)))]) (vx_runV (As := [.int p1]) (rest := [.int 0, .ref ov]) ⟨hx, hb, hml, hown, hts⟩ (c_inState_0 l hfl D ct x w sp sv bu w_se w_cu w_pr w_ch w_re w_lo p1 _) (cm_V 1 hts kc_X10_inState ki_RX10 kl_RL_118 kv_X10_inState kx_X10_inState kd_X10_inState ⟨Nat.le_of_ble_eq_true rfl, Nat.le_of_ble_eq_true rfl⟩) (cm_preV hP hK hD hS hA hX [0, 1] rfl rfl rfl (q0 := 0) (ci := 10) rfl rfl) rfl rfl hl.1 rfl (lv_room (Nat.le_of_ble_eq_true rfl)) dL_inState_4 ⟨Nat.le_of_ble_eq_true rfl, Nat.le_of_ble_eq_true rfl⟩) hP hD hS hA [0, 1] [2] rfl rfl rfl (by decide) (fun E ce q9 u H locs hu hE hP hD hS hce hcv hcl => ?_) (fun r_1 u H locs hw_2 hP hD hS => ?_)
  · subst hE
    have hu : p1 < 0 ∨ 4 < p1 := hu
    have hP : va_P D vwCl [(ov, .inl (ct 1, 1, .inr (.inl f))), (x, .inr (10, [.ref w, .ref sp, .ref sv, .ref bu, .int 0, .int 0])), (w, .inr (9, [.int 0, .ref w_se, .ref w_cu, .ref w_pr, .int 0, .ref w_ch, .ref w_re, .ref w_lo]))] H := hP
    have hD : va_D A [(ov, .inl (ct 1, 1, .inr (.inl f))), (x, .inr (10, [.ref w, .ref sp, .ref sv, .ref bu, .int 0, .int 0])), (w, .inr (9, [.int 0, .ref w_se, .ref w_cu, .ref w_pr, .int 0, .ref w_ch, .ref w_re, .ref w_lo]))] := hD
    refine vx_catch (name := "java/lang/IllegalArgumentException") hown [] _ _ htab (fun z hz => absurd hz List.not_mem_nil) (by decide) (by decide) (hts _ kl_RL_13) (hts _ kcast_IAE) hce hcv hcl ?_
    refine W.eq (g2 := F0 m 12 ls [.ref q9]) rfl ?_
    refine lv_astore_n (lv' := [(3, .ref q9), (0, .ref x), (1, .int p1), (2, .ref ov)]) hx hb dL_inState_12 rfl hl (by decide) rfl (fun ls hl => ?_)
    refine lv_iconst (v := 1) hx hb dL_inState_13 (by decide) ?_
    have hP9 := hP.sub (ws' := [(ov, .inl (ct 1, 1, .inr (.inl f)))]) [0] rfl
    have hD9 := hD.sub (ws' := [(ov, .inl (ct 1, 1, .inr (.inl f)))]) [0] (by decide) rfl
    exact W.iret (v := 1) hx hb hr (fun t ht hW => ⟨⟨1, f, rfl, (Or.inr ⟨rfl, hu⟩), by rw [ht]; exact hP9, by rw [hAe]; exact hD9⟩, hS.F ht⟩) hS.2.2 dL_inState_14
  · have hw_2 : r_1 = 0 ∧ 0 ≤ p1 ∧ p1 ≤ 4 := hw_2
    obtain ⟨rfl, hw_2⟩ := hw_2
    have hP : va_P D vwCl [(ov, .inl (ct 1, 1, .inr (.inl f))), (x, .inr (10, [.ref w, .ref sp, .ref sv, .ref bu, .int 0, .int 0])), (w, .inr (9, [.int 0, .ref w_se, .ref w_cu, .ref w_pr, .int 0, .ref w_ch, .ref w_re, .ref w_lo]))] H := hP
    have hD : va_D A [(ov, .inl (ct 1, 1, .inr (.inl f))), (x, .inr (10, [.ref w, .ref sp, .ref sv, .ref bu, .int 0, .int 0])), (w, .inr (9, [.int 0, .ref w_se, .ref w_cu, .ref w_pr, .int 0, .ref w_ch, .ref w_re, .ref w_lo]))] := hD
    refine W.widen (k := 1) (n := 6) (Nat.le_of_ble_eq_true rfl) (Nat.le_of_ble_eq_true rfl) ?_
    refine lv_i2l (v := 0) hx hb dL_inState_7 (by decide) ?_
    refine va_last hx hb hK hP hD hS 0 1 rfl rfl (cm_vin (by decide)) dL_inState_8 (fun H locs hP hD hS => ?_)
    have hP : va_P D vwCl [(ov, .inl (ct 1, 1, .inr (.inl (vp_updL f (0 : Int32).toNatClampNeg 0)))), (x, .inr (10, [.ref w, .ref sp, .ref sv, .ref bu, .int 0, .int 0])), (w, .inr (9, [.int 0, .ref w_se, .ref w_cu, .ref w_pr, .int 0, .ref w_ch, .ref w_re, .ref w_lo]))] H := hP
    have hD : va_D A [(ov, .inl (ct 1, 1, .inr (.inl (vp_updL f (0 : Int32).toNatClampNeg 0)))), (x, .inr (10, [.ref w, .ref sp, .ref sv, .ref bu, .int 0, .int 0])), (w, .inr (9, [.int 0, .ref w_se, .ref w_cu, .ref w_pr, .int 0, .ref w_ch, .ref w_re, .ref w_lo]))] := hD
    refine lv_goto (tgt := 15) hx hb dL_inState_9 (by decide) ?_
    refine lv_iconst (v := 0) hx hb dL_inState_15 (by decide) ?_
    have hP9 := hP.sub (ws' := [(ov, .inl (ct 1, 1, .inr (.inl (vp_updL f (0 : Int32).toNatClampNeg 0))))]) [0] rfl
    have hD9 := hD.sub (ws' := [(ov, .inl (ct 1, 1, .inr (.inl (vp_updL f (0 : Int32).toNatClampNeg 0))))]) [0] (by decide) rfl
    exact W.iret (v := 0) hx hb hr (fun t ht hW => ⟨⟨0, (vp_updL f (0 : Int32).toNatClampNeg 0), rfl, (Or.inl ⟨rfl, hw_2.2, pk_uLs⟩), by rw [ht]; exact hP9, by rw [hAe]; exact hD9⟩, hS.F ht⟩) hS.2.2 dL_inState_16
theorem dL_record_0 : decode cL_record 0 = .ok (.aload_n 3, 1) := by decide +kernel
theorem dL_record_1 : decode cL_record 1 = .ok (.iconst 0, 1) := by decide +kernel
theorem dL_record_2 : decode cL_record 2 = .ok (.aload_n 0, 1) := by decide +kernel
theorem dL_record_3 : decode cL_record 3 = .ok (.iload_n 1, 1) := by decide +kernel
theorem dL_record_4 : decode cL_record 4 = .ok (.iload_n 2, 1) := by decide +kernel
theorem dL_record_5 : decode cL_record 5 = .ok (.invokevirtual 121, 3) := by decide +kernel
theorem dL_record_8 : decode cL_record 8 = .ok (.i2l, 1) := by decide +kernel
theorem dL_record_9 : decode cL_record 9 = .ok (.lastore, 1) := by decide +kernel
theorem dL_record_10 : decode cL_record 10 = .ok (.goto 7, 3) := by decide +kernel
theorem dL_record_13 : decode cL_record 13 = .ok (.astore 4, 2) := by decide +kernel
theorem dL_record_15 : decode cL_record 15 = .ok (.iconst 1, 1) := by decide +kernel
theorem dL_record_16 : decode cL_record 16 = .ok (.ireturn, 1) := by decide +kernel
theorem dL_record_17 : decode cL_record 17 = .ok (.iconst 0, 1) := by decide +kernel
theorem dL_record_18 : decode cL_record 18 = .ok (.ireturn, 1) := by decide +kernel
set_option maxRecDepth 100000 in
set_option maxHeartbeats 4000000 in
theorem l_record (l : Launch) (hfl : l.stackTraces = false) (D : va_G) (ct : Nat → ClassId) (x : Nat) (w : Nat) (sp : Nat) (sv : Nat) (bu : Nat) (w_se : Nat) (w_cu : Nat) (w_pr : Nat) (w_ch : Nat) (w_re : Nat) (w_lo : Nat) (w_ra : Nat) (ov : Nat) (f : Nat → Int64) (p1 : Int32) (p2 : Int32) (sz : Nat) : Met l yL_record (wsw_ yL_record cL_record 5 (some .int) [(0, 10, 13, 13)]) ({ frames := 8, cells := 1, slots := 6, locals := 135 } : Room) (va_Pc [.ref x, .int p1, .int p2, .ref ov] (cmP D ct sz [(x, .inr (10, [.ref w, .ref sp, .ref sv, .ref bu, .int 0, .int 0])), (w, .inr (9, [.int 0, .ref w_se, .ref w_cu, .ref w_pr, .int 0, .ref w_ch, .ref w_re, .ref w_lo])), (w_re, .inr (8, [.int 30, .int 5, .ref w_ra, .int 0, .int 0])), (ov, .inl (ct 1, 1, .inr (.inl f)))])) (va_Qi (fun (r : Int32) (g : (Nat → Int64)) => (r = 0 ∧ (0 ≤ p2 ∧ p2 ≤ 5) ∧ g (0 : Int32).toNatClampNeg = (-1)) ∨ (r = 1 ∧ (p2 < 0 ∨ 5 < p2))) (cmB D [(x, .inr (10, [.ref w, .ref sp, .ref sv, .ref bu, .int 0, .int 0])), (w, .inr (9, [.int 0, .ref w_se, .ref w_cu, .ref w_pr, .int 0, .ref w_ch, .ref w_re, .ref w_lo])), (w_re, .inr (8, [.int 30, .int 5, .ref w_ra, .int 0, .int 0])), (ov, .inl (ct 1, 1, .inr (.inl f)))] sz (fun g : (Nat → Int64) => [(ov, .inl (ct 1, 1, .inr (.inl g)))])) (va_A [(x, .inr (10, [.ref w, .ref sp, .ref sv, .ref bu, .int 0, .int 0])), (w, .inr (9, [.int 0, .ref w_se, .ref w_cu, .ref w_pr, .int 0, .ref w_ch, .ref w_re, .ref w_lo])), (w_re, .inr (8, [.int 30, .int 5, .ref w_ra, .int 0, .int 0])), (ov, .inl (ct 1, 1, .inr (.inl f)))] sz)) 1 6 (va_A [(x, .inr (10, [.ref w, .ref sp, .ref sv, .ref bu, .int 0, .int 0])), (w, .inr (9, [.int 0, .ref w_se, .ref w_cu, .ref w_pr, .int 0, .ref w_ch, .ref w_re, .ref w_lo])), (w_re, .inr (8, [.int 30, .int 5, .ref w_ra, .int 0, .int 0])), (ov, .inl (ct 1, 1, .inr (.inl f)))] sz) := by
  refine va_MetW (cc := cL_record) (maxL := 5) (ret := (some .int)) (hh := [(0, 10, 13, 13)]) (by decide) rfl ?_
  intro p e s m args below meth c s₁ B hml hv
  have hts0 := atoms_spec (ws := wsw_ yL_record cL_record 5 (some .int) [(0, 10, 13, 13)]) B.pre
  have hts : ∀ w ∈ cm_all, w.before args s = true := fun w h => hts0 w (List.mem_cons_of_mem _ h)
  obtain ⟨rfl, hsz, hP, hK, hD0, hX⟩ := hv
  have hx := B.exec
  have hb := B.bytes
  have hr := B.returns
  have htab := vx_table (x := yL_record) B (hts0 _ List.mem_cons_self)
  have hown : s.vm.findClass RL = some m.cls := findClass_of_methodNamed B.named
  have hlocks := B.notSynchronized
  subst hsz
  have hD := hD0.self (sz := s.heap.size)
  generalize hAe : va_A [(x, .inr (10, [.ref w, .ref sp, .ref sv, .ref bu, .int 0, .int 0])), (w, .inr (9, [.int 0, .ref w_se, .ref w_cu, .ref w_pr, .int 0, .ref w_ch, .ref w_re, .ref w_lo])), (w_re, .inr (8, [.int 30, .int 5, .ref w_ra, .int 0, .int 0])), (ov, .inl (ct 1, 1, .inr (.inl f)))] s.heap.size = A at hD hX ⊢
  have hA : ∀ q : Nat, s.heap.size ≤ q → A q := fun q h => by rw [← hAe]; exact Or.inr h
  have hS : va_S A s.heap s.heap [] := va_S.rf
  have hl := lv_entry ([.ref x, .int p1, .int p2, .ref ov]) (n := 5) (Nat.le_of_ble_eq_true rfl)
  rw [lg_entry_eq]
  generalize (lg_sl ([.ref x, .int p1, .int p2, .ref ov]) ++ List.replicate (5 - (lg_sl ([.ref x, .int p1, .int p2, .ref ov])).length) Slot.unset).toArray = ls at hl ⊢
  have hl : lv_has ls 5 [(0, .ref x), (1, .int p1), (2, .int p2), (3, .ref ov)] := hl
  refine lv_aload_n hx hb dL_record_0 rfl (lv_at hl 3 rfl) ?_
  refine lv_iconst (v := 0) hx hb dL_record_1 (by decide) ?_
  refine lv_aload_n hx hb dL_record_2 rfl (lv_at hl 0 rfl) ?_
  refine lv_iload_n hx hb dL_record_3 rfl (lv_at hl 1 rfl) ?_
  refine lv_iload_n hx hb dL_record_4 rfl (lv_at hl 2 rfl) ?_
  refine cm_xi (wr := [(ov, .inl (ct 1, 1, .inr (.inl f)))]) (vx_runV (As := [.int p1, .int p2]) (rest := [.int 0, .ref ov]) ⟨hx, hb, hml, hown, hts⟩ (c_record_0 l hfl D ct x w sp sv bu w_se w_cu w_pr w_ch w_re w_lo w_ra p1 p2 _) (cm_V 2 hts kc_X10_record ki_RX10 kl_RL_121 kv_X10_record kx_X10_record kd_X10_record ⟨Nat.le_of_ble_eq_true rfl, Nat.le_of_ble_eq_true rfl⟩) (cm_preV hP hK hD hS hA hX [0, 1, 2] rfl rfl rfl (q0 := 0) (ci := 10) rfl rfl) rfl rfl hl.1 rfl (lv_room (Nat.le_of_ble_eq_true rfl)) dL_record_5 ⟨Nat.le_of_ble_eq_true rfl, Nat.le_of_ble_eq_true rfl⟩) hP hD hS hA [0, 1, 2] [3] rfl rfl rfl (by decide) (fun E ce q9 u H locs hu hE hP hD hS hce hcv hcl => ?_) (fun r_1 u H locs hw_2 hP hD hS => ?_)
  · subst hE
    have hu : p2 < 0 ∨ 5 < p2 := hu
    have hP : va_P D vwCl [(ov, .inl (ct 1, 1, .inr (.inl f))), (x, .inr (10, [.ref w, .ref sp, .ref sv, .ref bu, .int 0, .int 0])), (w, .inr (9, [.int 0, .ref w_se, .ref w_cu, .ref w_pr, .int 0, .ref w_ch, .ref w_re, .ref w_lo])), (w_re, .inr (8, [.int 30, .int 5, .ref w_ra, .int 0, .int 0]))] H := hP
    have hD : va_D A [(ov, .inl (ct 1, 1, .inr (.inl f))), (x, .inr (10, [.ref w, .ref sp, .ref sv, .ref bu, .int 0, .int 0])), (w, .inr (9, [.int 0, .ref w_se, .ref w_cu, .ref w_pr, .int 0, .ref w_ch, .ref w_re, .ref w_lo])), (w_re, .inr (8, [.int 30, .int 5, .ref w_ra, .int 0, .int 0]))] := hD
    refine vx_catch (name := "java/lang/IllegalArgumentException") hown [] _ _ htab (fun z hz => absurd hz List.not_mem_nil) (by decide) (by decide) (hts _ kl_RL_13) (hts _ kcast_IAE) hce hcv hcl ?_
    refine W.eq (g2 := F0 m 13 ls [.ref q9]) rfl ?_
    refine lv_astore (lv' := [(4, .ref q9), (0, .ref x), (1, .int p1), (2, .int p2), (3, .ref ov)]) hx hb dL_record_13 hl (by decide) rfl (fun ls hl => ?_)
    refine lv_iconst (v := 1) hx hb dL_record_15 (by decide) ?_
    have hP9 := hP.sub (ws' := [(ov, .inl (ct 1, 1, .inr (.inl f)))]) [0] rfl
    have hD9 := hD.sub (ws' := [(ov, .inl (ct 1, 1, .inr (.inl f)))]) [0] (by decide) rfl
    exact W.iret (v := 1) hx hb hr (fun t ht hW => ⟨⟨1, f, rfl, (Or.inr ⟨rfl, hu⟩), by rw [ht]; exact hP9, by rw [hAe]; exact hD9⟩, hS.F ht⟩) hS.2.2 dL_record_16
  · have hw_2 : r_1 = (-1) ∧ 0 ≤ p2 ∧ p2 ≤ 5 := hw_2
    obtain ⟨rfl, hw_2⟩ := hw_2
    have hP : va_P D vwCl [(ov, .inl (ct 1, 1, .inr (.inl f))), (x, .inr (10, [.ref w, .ref sp, .ref sv, .ref bu, .int 0, .int 0])), (w, .inr (9, [.int 0, .ref w_se, .ref w_cu, .ref w_pr, .int 0, .ref w_ch, .ref w_re, .ref w_lo])), (w_re, .inr (8, [.int 30, .int 5, .ref w_ra, .int 0, .int 0]))] H := hP
    have hD : va_D A [(ov, .inl (ct 1, 1, .inr (.inl f))), (x, .inr (10, [.ref w, .ref sp, .ref sv, .ref bu, .int 0, .int 0])), (w, .inr (9, [.int 0, .ref w_se, .ref w_cu, .ref w_pr, .int 0, .ref w_ch, .ref w_re, .ref w_lo])), (w_re, .inr (8, [.int 30, .int 5, .ref w_ra, .int 0, .int 0]))] := hD
    refine W.widen (k := 1) (n := 6) (Nat.le_of_ble_eq_true rfl) (Nat.le_of_ble_eq_true rfl) ?_
    refine lv_i2l (v := (-1)) hx hb dL_record_8 (by decide) ?_
    refine va_last hx hb hK hP hD hS 0 1 rfl rfl (cm_vin (by decide)) dL_record_9 (fun H locs hP hD hS => ?_)
    have hP : va_P D vwCl [(ov, .inl (ct 1, 1, .inr (.inl (vp_updL f (0 : Int32).toNatClampNeg (-1))))), (x, .inr (10, [.ref w, .ref sp, .ref sv, .ref bu, .int 0, .int 0])), (w, .inr (9, [.int 0, .ref w_se, .ref w_cu, .ref w_pr, .int 0, .ref w_ch, .ref w_re, .ref w_lo])), (w_re, .inr (8, [.int 30, .int 5, .ref w_ra, .int 0, .int 0]))] H := hP
    have hD : va_D A [(ov, .inl (ct 1, 1, .inr (.inl (vp_updL f (0 : Int32).toNatClampNeg (-1))))), (x, .inr (10, [.ref w, .ref sp, .ref sv, .ref bu, .int 0, .int 0])), (w, .inr (9, [.int 0, .ref w_se, .ref w_cu, .ref w_pr, .int 0, .ref w_ch, .ref w_re, .ref w_lo])), (w_re, .inr (8, [.int 30, .int 5, .ref w_ra, .int 0, .int 0]))] := hD
    refine lv_goto (tgt := 17) hx hb dL_record_10 (by decide) ?_
    refine lv_iconst (v := 0) hx hb dL_record_17 (by decide) ?_
    have hP9 := hP.sub (ws' := [(ov, .inl (ct 1, 1, .inr (.inl (vp_updL f (0 : Int32).toNatClampNeg (-1)))))]) [0] rfl
    have hD9 := hD.sub (ws' := [(ov, .inl (ct 1, 1, .inr (.inl (vp_updL f (0 : Int32).toNatClampNeg (-1)))))]) [0] (by decide) rfl
    exact W.iret (v := 0) hx hb hr (fun t ht hW => ⟨⟨0, (vp_updL f (0 : Int32).toNatClampNeg (-1)), rfl, (Or.inl ⟨rfl, hw_2.2, pk_uLs⟩), by rw [ht]; exact hP9, by rw [hAe]; exact hD9⟩, hS.F ht⟩) hS.2.2 dL_record_18
theorem dL_logEntry_0 : decode cL_logEntry 0 = .ok (.aload_n 3, 1) := by decide +kernel
theorem dL_logEntry_1 : decode cL_logEntry 1 = .ok (.iconst 0, 1) := by decide +kernel
theorem dL_logEntry_2 : decode cL_logEntry 2 = .ok (.aload_n 0, 1) := by decide +kernel
theorem dL_logEntry_3 : decode cL_logEntry 3 = .ok (.iload_n 1, 1) := by decide +kernel
theorem dL_logEntry_4 : decode cL_logEntry 4 = .ok (.iload_n 2, 1) := by decide +kernel
theorem dL_logEntry_5 : decode cL_logEntry 5 = .ok (.invokevirtual 130, 3) := by decide +kernel
theorem dL_logEntry_8 : decode cL_logEntry 8 = .ok (.i2l, 1) := by decide +kernel
theorem dL_logEntry_9 : decode cL_logEntry 9 = .ok (.lastore, 1) := by decide +kernel
theorem dL_logEntry_10 : decode cL_logEntry 10 = .ok (.goto 7, 3) := by decide +kernel
theorem dL_logEntry_13 : decode cL_logEntry 13 = .ok (.astore 4, 2) := by decide +kernel
theorem dL_logEntry_15 : decode cL_logEntry 15 = .ok (.iconst 1, 1) := by decide +kernel
theorem dL_logEntry_16 : decode cL_logEntry 16 = .ok (.ireturn, 1) := by decide +kernel
theorem dL_logEntry_17 : decode cL_logEntry 17 = .ok (.iconst 0, 1) := by decide +kernel
theorem dL_logEntry_18 : decode cL_logEntry 18 = .ok (.ireturn, 1) := by decide +kernel
set_option maxRecDepth 100000 in
set_option maxHeartbeats 4000000 in
theorem l_logEntry (l : Launch) (hfl : l.stackTraces = false) (D : va_G) (ct : Nat → ClassId) (x : Nat) (w : Nat) (sp : Nat) (sv : Nat) (bu : Nat) (w_se : Nat) (w_cu : Nat) (w_pr : Nat) (w_ch : Nat) (w_re : Nat) (w_lo : Nat) (w_la : Nat) (ov : Nat) (f : Nat → Int64) (p1 : Int32) (p2 : Int32) (sz : Nat) : Met l yL_logEntry (wsw_ yL_logEntry cL_logEntry 5 (some .int) [(0, 10, 13, 13)]) ({ frames := 8, cells := 1, slots := 6, locals := 134 } : Room) (va_Pc [.ref x, .int p1, .int p2, .ref ov] (cmP D ct sz [(x, .inr (10, [.ref w, .ref sp, .ref sv, .ref bu, .int 0, .int 0])), (w, .inr (9, [.int 0, .ref w_se, .ref w_cu, .ref w_pr, .int 0, .ref w_ch, .ref w_re, .ref w_lo])), (w_lo, .inr (8, [.int 60, .int 4, .ref w_la, .int 0, .int 0])), (ov, .inl (ct 1, 1, .inr (.inl f)))])) (va_Qi (fun (r : Int32) (g : (Nat → Int64)) => (r = 0 ∧ (0 ≤ p2 ∧ p2 ≤ 3) ∧ g (0 : Int32).toNatClampNeg = (-1)) ∨ (r = 1 ∧ (p2 < 0 ∨ 3 < p2))) (cmB D [(x, .inr (10, [.ref w, .ref sp, .ref sv, .ref bu, .int 0, .int 0])), (w, .inr (9, [.int 0, .ref w_se, .ref w_cu, .ref w_pr, .int 0, .ref w_ch, .ref w_re, .ref w_lo])), (w_lo, .inr (8, [.int 60, .int 4, .ref w_la, .int 0, .int 0])), (ov, .inl (ct 1, 1, .inr (.inl f)))] sz (fun g : (Nat → Int64) => [(ov, .inl (ct 1, 1, .inr (.inl g)))])) (va_A [(x, .inr (10, [.ref w, .ref sp, .ref sv, .ref bu, .int 0, .int 0])), (w, .inr (9, [.int 0, .ref w_se, .ref w_cu, .ref w_pr, .int 0, .ref w_ch, .ref w_re, .ref w_lo])), (w_lo, .inr (8, [.int 60, .int 4, .ref w_la, .int 0, .int 0])), (ov, .inl (ct 1, 1, .inr (.inl f)))] sz)) 1 6 (va_A [(x, .inr (10, [.ref w, .ref sp, .ref sv, .ref bu, .int 0, .int 0])), (w, .inr (9, [.int 0, .ref w_se, .ref w_cu, .ref w_pr, .int 0, .ref w_ch, .ref w_re, .ref w_lo])), (w_lo, .inr (8, [.int 60, .int 4, .ref w_la, .int 0, .int 0])), (ov, .inl (ct 1, 1, .inr (.inl f)))] sz) := by
  refine va_MetW (cc := cL_logEntry) (maxL := 5) (ret := (some .int)) (hh := [(0, 10, 13, 13)]) (by decide) rfl ?_
  intro p e s m args below meth c s₁ B hml hv
  have hts0 := atoms_spec (ws := wsw_ yL_logEntry cL_logEntry 5 (some .int) [(0, 10, 13, 13)]) B.pre
  have hts : ∀ w ∈ cm_all, w.before args s = true := fun w h => hts0 w (List.mem_cons_of_mem _ h)
  obtain ⟨rfl, hsz, hP, hK, hD0, hX⟩ := hv
  have hx := B.exec
  have hb := B.bytes
  have hr := B.returns
  have htab := vx_table (x := yL_logEntry) B (hts0 _ List.mem_cons_self)
  have hown : s.vm.findClass RL = some m.cls := findClass_of_methodNamed B.named
  have hlocks := B.notSynchronized
  subst hsz
  have hD := hD0.self (sz := s.heap.size)
  generalize hAe : va_A [(x, .inr (10, [.ref w, .ref sp, .ref sv, .ref bu, .int 0, .int 0])), (w, .inr (9, [.int 0, .ref w_se, .ref w_cu, .ref w_pr, .int 0, .ref w_ch, .ref w_re, .ref w_lo])), (w_lo, .inr (8, [.int 60, .int 4, .ref w_la, .int 0, .int 0])), (ov, .inl (ct 1, 1, .inr (.inl f)))] s.heap.size = A at hD hX ⊢
  have hA : ∀ q : Nat, s.heap.size ≤ q → A q := fun q h => by rw [← hAe]; exact Or.inr h
  have hS : va_S A s.heap s.heap [] := va_S.rf
  have hl := lv_entry ([.ref x, .int p1, .int p2, .ref ov]) (n := 5) (Nat.le_of_ble_eq_true rfl)
  rw [lg_entry_eq]
  generalize (lg_sl ([.ref x, .int p1, .int p2, .ref ov]) ++ List.replicate (5 - (lg_sl ([.ref x, .int p1, .int p2, .ref ov])).length) Slot.unset).toArray = ls at hl ⊢
  have hl : lv_has ls 5 [(0, .ref x), (1, .int p1), (2, .int p2), (3, .ref ov)] := hl
  refine lv_aload_n hx hb dL_logEntry_0 rfl (lv_at hl 3 rfl) ?_
  refine lv_iconst (v := 0) hx hb dL_logEntry_1 (by decide) ?_
  refine lv_aload_n hx hb dL_logEntry_2 rfl (lv_at hl 0 rfl) ?_
  refine lv_iload_n hx hb dL_logEntry_3 rfl (lv_at hl 1 rfl) ?_
  refine lv_iload_n hx hb dL_logEntry_4 rfl (lv_at hl 2 rfl) ?_
  refine cm_xi (wr := [(ov, .inl (ct 1, 1, .inr (.inl f)))]) (vx_runV (As := [.int p1, .int p2]) (rest := [.int 0, .ref ov]) ⟨hx, hb, hml, hown, hts⟩ (c_logEntry_0 l hfl D ct x w sp sv bu w_se w_cu w_pr w_ch w_re w_lo w_la p1 p2 _) (cm_V 2 hts kc_X10_logEntry ki_RX10 kl_RL_130 kv_X10_logEntry kx_X10_logEntry kd_X10_logEntry ⟨Nat.le_of_ble_eq_true rfl, Nat.le_of_ble_eq_true rfl⟩) (cm_preV hP hK hD hS hA hX [0, 1, 2] rfl rfl rfl (q0 := 0) (ci := 10) rfl rfl) rfl rfl hl.1 rfl (lv_room (Nat.le_of_ble_eq_true rfl)) dL_logEntry_5 ⟨Nat.le_of_ble_eq_true rfl, Nat.le_of_ble_eq_true rfl⟩) hP hD hS hA [0, 1, 2] [3] rfl rfl rfl (by decide) (fun E ce q9 u H locs hu hE hP hD hS hce hcv hcl => ?_) (fun r_1 u H locs hw_2 hP hD hS => ?_)
  · subst hE
    have hu : p2 < 0 ∨ 3 < p2 := hu
    have hP : va_P D vwCl [(ov, .inl (ct 1, 1, .inr (.inl f))), (x, .inr (10, [.ref w, .ref sp, .ref sv, .ref bu, .int 0, .int 0])), (w, .inr (9, [.int 0, .ref w_se, .ref w_cu, .ref w_pr, .int 0, .ref w_ch, .ref w_re, .ref w_lo])), (w_lo, .inr (8, [.int 60, .int 4, .ref w_la, .int 0, .int 0]))] H := hP
    have hD : va_D A [(ov, .inl (ct 1, 1, .inr (.inl f))), (x, .inr (10, [.ref w, .ref sp, .ref sv, .ref bu, .int 0, .int 0])), (w, .inr (9, [.int 0, .ref w_se, .ref w_cu, .ref w_pr, .int 0, .ref w_ch, .ref w_re, .ref w_lo])), (w_lo, .inr (8, [.int 60, .int 4, .ref w_la, .int 0, .int 0]))] := hD
    refine vx_catch (name := "java/lang/IllegalArgumentException") hown [] _ _ htab (fun z hz => absurd hz List.not_mem_nil) (by decide) (by decide) (hts _ kl_RL_13) (hts _ kcast_IAE) hce hcv hcl ?_
    refine W.eq (g2 := F0 m 13 ls [.ref q9]) rfl ?_
    refine lv_astore (lv' := [(4, .ref q9), (0, .ref x), (1, .int p1), (2, .int p2), (3, .ref ov)]) hx hb dL_logEntry_13 hl (by decide) rfl (fun ls hl => ?_)
    refine lv_iconst (v := 1) hx hb dL_logEntry_15 (by decide) ?_
    have hP9 := hP.sub (ws' := [(ov, .inl (ct 1, 1, .inr (.inl f)))]) [0] rfl
    have hD9 := hD.sub (ws' := [(ov, .inl (ct 1, 1, .inr (.inl f)))]) [0] (by decide) rfl
    exact W.iret (v := 1) hx hb hr (fun t ht hW => ⟨⟨1, f, rfl, (Or.inr ⟨rfl, hu⟩), by rw [ht]; exact hP9, by rw [hAe]; exact hD9⟩, hS.F ht⟩) hS.2.2 dL_logEntry_16
  · have hw_2 : r_1 = (-1) ∧ 0 ≤ p2 ∧ p2 ≤ 3 := hw_2
    obtain ⟨rfl, hw_2⟩ := hw_2
    have hP : va_P D vwCl [(ov, .inl (ct 1, 1, .inr (.inl f))), (x, .inr (10, [.ref w, .ref sp, .ref sv, .ref bu, .int 0, .int 0])), (w, .inr (9, [.int 0, .ref w_se, .ref w_cu, .ref w_pr, .int 0, .ref w_ch, .ref w_re, .ref w_lo])), (w_lo, .inr (8, [.int 60, .int 4, .ref w_la, .int 0, .int 0]))] H := hP
    have hD : va_D A [(ov, .inl (ct 1, 1, .inr (.inl f))), (x, .inr (10, [.ref w, .ref sp, .ref sv, .ref bu, .int 0, .int 0])), (w, .inr (9, [.int 0, .ref w_se, .ref w_cu, .ref w_pr, .int 0, .ref w_ch, .ref w_re, .ref w_lo])), (w_lo, .inr (8, [.int 60, .int 4, .ref w_la, .int 0, .int 0]))] := hD
    refine W.widen (k := 1) (n := 6) (Nat.le_of_ble_eq_true rfl) (Nat.le_of_ble_eq_true rfl) ?_
    refine lv_i2l (v := (-1)) hx hb dL_logEntry_8 (by decide) ?_
    refine va_last hx hb hK hP hD hS 0 1 rfl rfl (cm_vin (by decide)) dL_logEntry_9 (fun H locs hP hD hS => ?_)
    have hP : va_P D vwCl [(ov, .inl (ct 1, 1, .inr (.inl (vp_updL f (0 : Int32).toNatClampNeg (-1))))), (x, .inr (10, [.ref w, .ref sp, .ref sv, .ref bu, .int 0, .int 0])), (w, .inr (9, [.int 0, .ref w_se, .ref w_cu, .ref w_pr, .int 0, .ref w_ch, .ref w_re, .ref w_lo])), (w_lo, .inr (8, [.int 60, .int 4, .ref w_la, .int 0, .int 0]))] H := hP
    have hD : va_D A [(ov, .inl (ct 1, 1, .inr (.inl (vp_updL f (0 : Int32).toNatClampNeg (-1))))), (x, .inr (10, [.ref w, .ref sp, .ref sv, .ref bu, .int 0, .int 0])), (w, .inr (9, [.int 0, .ref w_se, .ref w_cu, .ref w_pr, .int 0, .ref w_ch, .ref w_re, .ref w_lo])), (w_lo, .inr (8, [.int 60, .int 4, .ref w_la, .int 0, .int 0]))] := hD
    refine lv_goto (tgt := 17) hx hb dL_logEntry_10 (by decide) ?_
    refine lv_iconst (v := 0) hx hb dL_logEntry_17 (by decide) ?_
    have hP9 := hP.sub (ws' := [(ov, .inl (ct 1, 1, .inr (.inl (vp_updL f (0 : Int32).toNatClampNeg (-1)))))]) [0] rfl
    have hD9 := hD.sub (ws' := [(ov, .inl (ct 1, 1, .inr (.inl (vp_updL f (0 : Int32).toNatClampNeg (-1)))))]) [0] (by decide) rfl
    exact W.iret (v := 0) hx hb hr (fun t ht hW => ⟨⟨0, (vp_updL f (0 : Int32).toNatClampNeg (-1)), rfl, (Or.inl ⟨rfl, hw_2.2, pk_uLs⟩), by rw [ht]; exact hP9, by rw [hAe]; exact hD9⟩, hS.F ht⟩) hS.2.2 dL_logEntry_18
theorem dL_saveSnapshot_0 : decode cL_saveSnapshot 0 = .ok (.aload_n 2, 1) := by decide +kernel
theorem dL_saveSnapshot_1 : decode cL_saveSnapshot 1 = .ok (.iconst 0, 1) := by decide +kernel
theorem dL_saveSnapshot_2 : decode cL_saveSnapshot 2 = .ok (.aload_n 0, 1) := by decide +kernel
theorem dL_saveSnapshot_3 : decode cL_saveSnapshot 3 = .ok (.iload_n 1, 1) := by decide +kernel
theorem dL_saveSnapshot_4 : decode cL_saveSnapshot 4 = .ok (.invokevirtual 166, 3) := by decide +kernel
theorem dL_saveSnapshot_7 : decode cL_saveSnapshot 7 = .ok (.i2l, 1) := by decide +kernel
theorem dL_saveSnapshot_8 : decode cL_saveSnapshot 8 = .ok (.lastore, 1) := by decide +kernel
theorem dL_saveSnapshot_9 : decode cL_saveSnapshot 9 = .ok (.goto 6, 3) := by decide +kernel
theorem dL_saveSnapshot_12 : decode cL_saveSnapshot 12 = .ok (.astore_n 3, 1) := by decide +kernel
theorem dL_saveSnapshot_13 : decode cL_saveSnapshot 13 = .ok (.iconst 1, 1) := by decide +kernel
theorem dL_saveSnapshot_14 : decode cL_saveSnapshot 14 = .ok (.ireturn, 1) := by decide +kernel
theorem dL_saveSnapshot_15 : decode cL_saveSnapshot 15 = .ok (.iconst 0, 1) := by decide +kernel
theorem dL_saveSnapshot_16 : decode cL_saveSnapshot 16 = .ok (.ireturn, 1) := by decide +kernel
set_option maxRecDepth 100000 in
set_option maxHeartbeats 4000000 in
theorem l_saveSnapshot (l : Launch) (hfl : l.stackTraces = false) (D : va_G) (ct : Nat → ClassId) (x : Nat) (w : Nat) (sp : Nat) (sv : Nat) (bu : Nat) (w_se : Nat) (w_cu : Nat) (w_pr : Nat) (w_ch : Nat) (w_re : Nat) (w_lo : Nat) (w_c1 : Nat) (w_c2 : Nat) (w_c3 : Nat) (w_p1 : Nat) (w_p2 : Nat) (w_p3 : Nat) (w_p4 : Nat) (w_ra : Nat) (w_la : Nat) (ov : Nat) (f : Nat → Int64) (p1 : Int32) (sz : Nat) : Met l yL_saveSnapshot (wsw_ yL_saveSnapshot cL_saveSnapshot 4 (some .int) [(0, 9, 12, 13)]) ({ frames := 8, cells := 71, slots := 1109, locals := 168 } : Room) (va_Pc [.ref x, .int p1, .ref ov] (cmP D ct sz [(x, .inr (10, [.ref w, .ref sp, .ref sv, .ref bu, .int 0, .int 0])), (sv, .inl (ct 4, 2, .inr (.inr (.inr (.inr (fun _ => none)))))), (w, .inr (9, [.int 0, .ref w_se, .ref w_cu, .ref w_pr, .int 0, .ref w_ch, .ref w_re, .ref w_lo])), (w_se, .inr (7, [.int 990, .int 100000, .int 100, .int 5, .int 0, .int 5000, .int 600, .int 250, .int 0, .int 5000, .int 1000, .int 0])), (w_cu, .inr (2, [.int 0, .ref w_c1, .ref w_c2, .ref w_c3])), (w_c1, .inl (ct 1, 4, .inr (.inl (fun _ => 0)))), (w_c2, .inl (ct 0, 4, .inl (fun _ => 0))), (w_c3, .inl (ct 0, 44, .inl (fun _ => 0))), (w_pr, .inr (5, [.int 0, .ref w_p1, .ref w_p2, .ref w_p3, .ref w_p4])), (w_p1, .inl (ct 0, 4, .inl (fun _ => 0))), (w_p2, .inl (ct 0, 48, .inl (fun _ => 0))), (w_p3, .inl (ct 0, 48, .inl (fun _ => 0))), (w_p4, .inl (ct 0, 48, .inl (fun _ => 0))), (w_re, .inr (8, [.int 30, .int 5, .ref w_ra, .int 0, .int 0])), (w_ra, .inl (ct 0, 150, .inl (fun _ => 0))), (w_lo, .inr (8, [.int 60, .int 4, .ref w_la, .int 0, .int 0])), (w_la, .inl (ct 0, 240, .inl (fun _ => 0))), (ov, .inl (ct 1, 1, .inr (.inl f)))])) (va_Qi (fun (r : Int32) (g : (Nat → Int64)) => (r = 0 ∧ (0 ≤ p1 ∧ p1 ≤ 1) ∧ g (0 : Int32).toNatClampNeg = 0) ∨ (r = 1 ∧ (p1 < 0 ∨ 1 < p1))) (cmB D [(x, .inr (10, [.ref w, .ref sp, .ref sv, .ref bu, .int 0, .int 0])), (sv, .inl (ct 4, 2, .inr (.inr (.inr (.inr (fun _ => none)))))), (w, .inr (9, [.int 0, .ref w_se, .ref w_cu, .ref w_pr, .int 0, .ref w_ch, .ref w_re, .ref w_lo])), (w_se, .inr (7, [.int 990, .int 100000, .int 100, .int 5, .int 0, .int 5000, .int 600, .int 250, .int 0, .int 5000, .int 1000, .int 0])), (w_cu, .inr (2, [.int 0, .ref w_c1, .ref w_c2, .ref w_c3])), (w_c1, .inl (ct 1, 4, .inr (.inl (fun _ => 0)))), (w_c2, .inl (ct 0, 4, .inl (fun _ => 0))), (w_c3, .inl (ct 0, 44, .inl (fun _ => 0))), (w_pr, .inr (5, [.int 0, .ref w_p1, .ref w_p2, .ref w_p3, .ref w_p4])), (w_p1, .inl (ct 0, 4, .inl (fun _ => 0))), (w_p2, .inl (ct 0, 48, .inl (fun _ => 0))), (w_p3, .inl (ct 0, 48, .inl (fun _ => 0))), (w_p4, .inl (ct 0, 48, .inl (fun _ => 0))), (w_re, .inr (8, [.int 30, .int 5, .ref w_ra, .int 0, .int 0])), (w_ra, .inl (ct 0, 150, .inl (fun _ => 0))), (w_lo, .inr (8, [.int 60, .int 4, .ref w_la, .int 0, .int 0])), (w_la, .inl (ct 0, 240, .inl (fun _ => 0))), (ov, .inl (ct 1, 1, .inr (.inl f)))] sz (fun g : (Nat → Int64) => [(ov, .inl (ct 1, 1, .inr (.inl g)))])) (va_A [(x, .inr (10, [.ref w, .ref sp, .ref sv, .ref bu, .int 0, .int 0])), (sv, .inl (ct 4, 2, .inr (.inr (.inr (.inr (fun _ => none)))))), (w, .inr (9, [.int 0, .ref w_se, .ref w_cu, .ref w_pr, .int 0, .ref w_ch, .ref w_re, .ref w_lo])), (w_se, .inr (7, [.int 990, .int 100000, .int 100, .int 5, .int 0, .int 5000, .int 600, .int 250, .int 0, .int 5000, .int 1000, .int 0])), (w_cu, .inr (2, [.int 0, .ref w_c1, .ref w_c2, .ref w_c3])), (w_c1, .inl (ct 1, 4, .inr (.inl (fun _ => 0)))), (w_c2, .inl (ct 0, 4, .inl (fun _ => 0))), (w_c3, .inl (ct 0, 44, .inl (fun _ => 0))), (w_pr, .inr (5, [.int 0, .ref w_p1, .ref w_p2, .ref w_p3, .ref w_p4])), (w_p1, .inl (ct 0, 4, .inl (fun _ => 0))), (w_p2, .inl (ct 0, 48, .inl (fun _ => 0))), (w_p3, .inl (ct 0, 48, .inl (fun _ => 0))), (w_p4, .inl (ct 0, 48, .inl (fun _ => 0))), (w_re, .inr (8, [.int 30, .int 5, .ref w_ra, .int 0, .int 0])), (w_ra, .inl (ct 0, 150, .inl (fun _ => 0))), (w_lo, .inr (8, [.int 60, .int 4, .ref w_la, .int 0, .int 0])), (w_la, .inl (ct 0, 240, .inl (fun _ => 0))), (ov, .inl (ct 1, 1, .inr (.inl f)))] sz)) 71 1109 (va_A [(x, .inr (10, [.ref w, .ref sp, .ref sv, .ref bu, .int 0, .int 0])), (sv, .inl (ct 4, 2, .inr (.inr (.inr (.inr (fun _ => none)))))), (w, .inr (9, [.int 0, .ref w_se, .ref w_cu, .ref w_pr, .int 0, .ref w_ch, .ref w_re, .ref w_lo])), (w_se, .inr (7, [.int 990, .int 100000, .int 100, .int 5, .int 0, .int 5000, .int 600, .int 250, .int 0, .int 5000, .int 1000, .int 0])), (w_cu, .inr (2, [.int 0, .ref w_c1, .ref w_c2, .ref w_c3])), (w_c1, .inl (ct 1, 4, .inr (.inl (fun _ => 0)))), (w_c2, .inl (ct 0, 4, .inl (fun _ => 0))), (w_c3, .inl (ct 0, 44, .inl (fun _ => 0))), (w_pr, .inr (5, [.int 0, .ref w_p1, .ref w_p2, .ref w_p3, .ref w_p4])), (w_p1, .inl (ct 0, 4, .inl (fun _ => 0))), (w_p2, .inl (ct 0, 48, .inl (fun _ => 0))), (w_p3, .inl (ct 0, 48, .inl (fun _ => 0))), (w_p4, .inl (ct 0, 48, .inl (fun _ => 0))), (w_re, .inr (8, [.int 30, .int 5, .ref w_ra, .int 0, .int 0])), (w_ra, .inl (ct 0, 150, .inl (fun _ => 0))), (w_lo, .inr (8, [.int 60, .int 4, .ref w_la, .int 0, .int 0])), (w_la, .inl (ct 0, 240, .inl (fun _ => 0))), (ov, .inl (ct 1, 1, .inr (.inl f)))] sz) := by
  refine va_MetW (cc := cL_saveSnapshot) (maxL := 4) (ret := (some .int)) (hh := [(0, 9, 12, 13)]) (by decide) rfl ?_
  intro p e s m args below meth c s₁ B hml hv
  have hts0 := atoms_spec (ws := wsw_ yL_saveSnapshot cL_saveSnapshot 4 (some .int) [(0, 9, 12, 13)]) B.pre
  have hts : ∀ w ∈ cm_all, w.before args s = true := fun w h => hts0 w (List.mem_cons_of_mem _ h)
  obtain ⟨rfl, hsz, hP, hK, hD0, hX⟩ := hv
  have hx := B.exec
  have hb := B.bytes
  have hr := B.returns
  have htab := vx_table (x := yL_saveSnapshot) B (hts0 _ List.mem_cons_self)
  have hown : s.vm.findClass RL = some m.cls := findClass_of_methodNamed B.named
  have hlocks := B.notSynchronized
  subst hsz
  have hD := hD0.self (sz := s.heap.size)
  generalize hAe : va_A [(x, .inr (10, [.ref w, .ref sp, .ref sv, .ref bu, .int 0, .int 0])), (sv, .inl (ct 4, 2, .inr (.inr (.inr (.inr (fun _ => none)))))), (w, .inr (9, [.int 0, .ref w_se, .ref w_cu, .ref w_pr, .int 0, .ref w_ch, .ref w_re, .ref w_lo])), (w_se, .inr (7, [.int 990, .int 100000, .int 100, .int 5, .int 0, .int 5000, .int 600, .int 250, .int 0, .int 5000, .int 1000, .int 0])), (w_cu, .inr (2, [.int 0, .ref w_c1, .ref w_c2, .ref w_c3])), (w_c1, .inl (ct 1, 4, .inr (.inl (fun _ => 0)))), (w_c2, .inl (ct 0, 4, .inl (fun _ => 0))), (w_c3, .inl (ct 0, 44, .inl (fun _ => 0))), (w_pr, .inr (5, [.int 0, .ref w_p1, .ref w_p2, .ref w_p3, .ref w_p4])), (w_p1, .inl (ct 0, 4, .inl (fun _ => 0))), (w_p2, .inl (ct 0, 48, .inl (fun _ => 0))), (w_p3, .inl (ct 0, 48, .inl (fun _ => 0))), (w_p4, .inl (ct 0, 48, .inl (fun _ => 0))), (w_re, .inr (8, [.int 30, .int 5, .ref w_ra, .int 0, .int 0])), (w_ra, .inl (ct 0, 150, .inl (fun _ => 0))), (w_lo, .inr (8, [.int 60, .int 4, .ref w_la, .int 0, .int 0])), (w_la, .inl (ct 0, 240, .inl (fun _ => 0))), (ov, .inl (ct 1, 1, .inr (.inl f)))] s.heap.size = A at hD hX ⊢
  have hA : ∀ q : Nat, s.heap.size ≤ q → A q := fun q h => by rw [← hAe]; exact Or.inr h
  have hS : va_S A s.heap s.heap [] := va_S.rf
  have hl := lv_entry ([.ref x, .int p1, .ref ov]) (n := 4) (Nat.le_of_ble_eq_true rfl)
  rw [lg_entry_eq]
  generalize (lg_sl ([.ref x, .int p1, .ref ov]) ++ List.replicate (4 - (lg_sl ([.ref x, .int p1, .ref ov])).length) Slot.unset).toArray = ls at hl ⊢
  have hl : lv_has ls 4 [(0, .ref x), (1, .int p1), (2, .ref ov)] := hl
  refine lv_aload_n hx hb dL_saveSnapshot_0 rfl (lv_at hl 2 rfl) ?_
  refine lv_iconst (v := 0) hx hb dL_saveSnapshot_1 (by decide) ?_
  refine lv_aload_n hx hb dL_saveSnapshot_2 rfl (lv_at hl 0 rfl) ?_
  refine lv_iload_n hx hb dL_saveSnapshot_3 rfl (lv_at hl 1 rfl) ?_
  refine cm_xi (wr := [(ov, .inl (ct 1, 1, .inr (.inl f)))]) (vx_runV (As := [.int p1]) (rest := [.int 0, .ref ov]) ⟨hx, hb, hml, hown, hts⟩ (c_saveSnapshot_0 l hfl D ct x w sp sv bu w_se w_cu w_pr w_ch w_re w_lo w_c1 w_c2 w_c3 w_p1 w_p2 w_p3 w_p4 w_ra w_la p1 _) (cm_V 1 hts kc_X10_saveSnapshot ki_RX10 kl_RL_166 kv_X10_saveSnapshot kx_X10_saveSnapshot kd_X10_saveSnapshot ⟨Nat.le_of_ble_eq_true rfl, Nat.le_of_ble_eq_true rfl⟩) (cm_preV hP hK hD hS hA hX [0, 1, 2, 3, 4, 5, 6, 7, 8, 9, 10, 11, 12, 13, 14, 15, 16] rfl rfl rfl (q0 := 0) (ci := 10) rfl rfl) rfl rfl hl.1 rfl (lv_room (Nat.le_of_ble_eq_true rfl)) dL_saveSnapshot_4 ⟨Nat.le_of_ble_eq_true rfl, Nat.le_of_ble_eq_true rfl⟩) hP hD hS hA [0, 1, 2, 3, 4, 5, 6, 7, 8, 9, 10, 11, 12, 13, 14, 15, 16] [17] rfl rfl rfl (by decide) (fun E ce q9 u H locs hu hE hP hD hS hce hcv hcl => ?_) (fun r_1 u H locs hw_2 hP hD hS => ?_)
  · subst hE
    have hu : p1 < 0 ∨ 1 < p1 := hu
    have hP : va_P D vwCl [(ov, .inl (ct 1, 1, .inr (.inl f))), (x, .inr (10, [.ref w, .ref sp, .ref sv, .ref bu, .int 0, .int 0]))] H := hP
    have hD : va_D A [(ov, .inl (ct 1, 1, .inr (.inl f))), (x, .inr (10, [.ref w, .ref sp, .ref sv, .ref bu, .int 0, .int 0]))] := hD
    refine vx_catch (name := "java/lang/IllegalArgumentException") hown [] _ _ htab (fun z hz => absurd hz List.not_mem_nil) (by decide) (by decide) (hts _ kl_RL_13) (hts _ kcast_IAE) hce hcv hcl ?_
    refine W.eq (g2 := F0 m 12 ls [.ref q9]) rfl ?_
    refine lv_astore_n (lv' := [(3, .ref q9), (0, .ref x), (1, .int p1), (2, .ref ov)]) hx hb dL_saveSnapshot_12 rfl hl (by decide) rfl (fun ls hl => ?_)
    refine lv_iconst (v := 1) hx hb dL_saveSnapshot_13 (by decide) ?_
    have hP9 := hP.sub (ws' := [(ov, .inl (ct 1, 1, .inr (.inl f)))]) [0] rfl
    have hD9 := hD.sub (ws' := [(ov, .inl (ct 1, 1, .inr (.inl f)))]) [0] (by decide) rfl
    exact W.iret (v := 1) hx hb hr (fun t ht hW => ⟨⟨1, f, rfl, (Or.inr ⟨rfl, hu⟩), by rw [ht]; exact hP9, by rw [hAe]; exact hD9⟩, hS.F ht⟩) hS.2.2 dL_saveSnapshot_14
  · have hw_2 : r_1 = 0 ∧ 0 ≤ p1 ∧ p1 ≤ 1 := hw_2
    obtain ⟨rfl, hw_2⟩ := hw_2
    have hP : va_P D vwCl [(ov, .inl (ct 1, 1, .inr (.inl f))), (x, .inr (10, [.ref w, .ref sp, .ref sv, .ref bu, .int 0, .int 0]))] H := hP
    have hD : va_D A [(ov, .inl (ct 1, 1, .inr (.inl f))), (x, .inr (10, [.ref w, .ref sp, .ref sv, .ref bu, .int 0, .int 0]))] := hD
    refine W.widen (k := 71) (n := 1109) (Nat.le_of_ble_eq_true rfl) (Nat.le_of_ble_eq_true rfl) ?_
    refine lv_i2l (v := 0) hx hb dL_saveSnapshot_7 (by decide) ?_
    refine va_last hx hb hK hP hD hS 0 1 rfl rfl (cm_vin (by decide)) dL_saveSnapshot_8 (fun H locs hP hD hS => ?_)
    have hP : va_P D vwCl [(ov, .inl (ct 1, 1, .inr (.inl (vp_updL f (0 : Int32).toNatClampNeg 0)))), (x, .inr (10, [.ref w, .ref sp, .ref sv, .ref bu, .int 0, .int 0]))] H := hP
    have hD : va_D A [(ov, .inl (ct 1, 1, .inr (.inl (vp_updL f (0 : Int32).toNatClampNeg 0)))), (x, .inr (10, [.ref w, .ref sp, .ref sv, .ref bu, .int 0, .int 0]))] := hD
    refine lv_goto (tgt := 15) hx hb dL_saveSnapshot_9 (by decide) ?_
    refine lv_iconst (v := 0) hx hb dL_saveSnapshot_15 (by decide) ?_
    have hP9 := hP.sub (ws' := [(ov, .inl (ct 1, 1, .inr (.inl (vp_updL f (0 : Int32).toNatClampNeg 0))))]) [0] rfl
    have hD9 := hD.sub (ws' := [(ov, .inl (ct 1, 1, .inr (.inl (vp_updL f (0 : Int32).toNatClampNeg 0))))]) [0] (by decide) rfl
    exact W.iret (v := 0) hx hb hr (fun t ht hW => ⟨⟨0, (vp_updL f (0 : Int32).toNatClampNeg 0), rfl, (Or.inl ⟨rfl, hw_2.2, pk_uLs⟩), by rw [ht]; exact hP9, by rw [hAe]; exact hD9⟩, hS.F ht⟩) hS.2.2 dL_saveSnapshot_16
theorem dL_restoreSnapshot_0 : decode cL_restoreSnapshot 0 = .ok (.aload_n 2, 1) := by decide +kernel
theorem dL_restoreSnapshot_1 : decode cL_restoreSnapshot 1 = .ok (.iconst 0, 1) := by decide +kernel
theorem dL_restoreSnapshot_2 : decode cL_restoreSnapshot 2 = .ok (.aload_n 0, 1) := by decide +kernel
theorem dL_restoreSnapshot_3 : decode cL_restoreSnapshot 3 = .ok (.iload_n 1, 1) := by decide +kernel
theorem dL_restoreSnapshot_4 : decode cL_restoreSnapshot 4 = .ok (.invokevirtual 169, 3) := by decide +kernel
theorem dL_restoreSnapshot_7 : decode cL_restoreSnapshot 7 = .ok (.i2l, 1) := by decide +kernel
theorem dL_restoreSnapshot_8 : decode cL_restoreSnapshot 8 = .ok (.lastore, 1) := by decide +kernel
theorem dL_restoreSnapshot_9 : decode cL_restoreSnapshot 9 = .ok (.goto 6, 3) := by decide +kernel
theorem dL_restoreSnapshot_12 : decode cL_restoreSnapshot 12 = .ok (.astore_n 3, 1) := by decide +kernel
theorem dL_restoreSnapshot_13 : decode cL_restoreSnapshot 13 = .ok (.iconst 1, 1) := by decide +kernel
theorem dL_restoreSnapshot_14 : decode cL_restoreSnapshot 14 = .ok (.ireturn, 1) := by decide +kernel
theorem dL_restoreSnapshot_15 : decode cL_restoreSnapshot 15 = .ok (.iconst 0, 1) := by decide +kernel
theorem dL_restoreSnapshot_16 : decode cL_restoreSnapshot 16 = .ok (.ireturn, 1) := by decide +kernel
set_option maxRecDepth 100000 in
set_option maxHeartbeats 4000000 in
theorem l_restoreSnapshot (l : Launch) (hfl : l.stackTraces = false) (D : va_G) (ct : Nat → ClassId) (x : Nat) (w : Nat) (sp : Nat) (sv : Nat) (bu : Nat) (ov : Nat) (f : Nat → Int64) (p1 : Int32) (sz : Nat) : Met l yL_restoreSnapshot (wsw_ yL_restoreSnapshot cL_restoreSnapshot 4 (some .int) [(0, 9, 12, 13)]) ({ frames := 8, cells := 1, slots := 6, locals := 134 } : Room) (va_Pc [.ref x, .int p1, .ref ov] (cmP D ct sz [(x, .inr (10, [.ref w, .ref sp, .ref sv, .ref bu, .int 0, .int 0])), (sv, .inl (ct 4, 2, .inr (.inr (.inr (.inr (fun _ => none)))))), (ov, .inl (ct 1, 1, .inr (.inl f)))])) (va_Qi (fun (r : Int32) (g : (Nat → Int64)) => (r = 0 ∧ (0 ≤ p1 ∧ p1 ≤ 1) ∧ g (0 : Int32).toNatClampNeg = (-1)) ∨ (r = 1 ∧ (p1 < 0 ∨ 1 < p1))) (cmB D [(x, .inr (10, [.ref w, .ref sp, .ref sv, .ref bu, .int 0, .int 0])), (sv, .inl (ct 4, 2, .inr (.inr (.inr (.inr (fun _ => none)))))), (ov, .inl (ct 1, 1, .inr (.inl f)))] sz (fun g : (Nat → Int64) => [(ov, .inl (ct 1, 1, .inr (.inl g)))])) (va_A [(x, .inr (10, [.ref w, .ref sp, .ref sv, .ref bu, .int 0, .int 0])), (sv, .inl (ct 4, 2, .inr (.inr (.inr (.inr (fun _ => none)))))), (ov, .inl (ct 1, 1, .inr (.inl f)))] sz)) 1 6 (va_A [(x, .inr (10, [.ref w, .ref sp, .ref sv, .ref bu, .int 0, .int 0])), (sv, .inl (ct 4, 2, .inr (.inr (.inr (.inr (fun _ => none)))))), (ov, .inl (ct 1, 1, .inr (.inl f)))] sz) := by
  refine va_MetW (cc := cL_restoreSnapshot) (maxL := 4) (ret := (some .int)) (hh := [(0, 9, 12, 13)]) (by decide) rfl ?_
  intro p e s m args below meth c s₁ B hml hv
  have hts0 := atoms_spec (ws := wsw_ yL_restoreSnapshot cL_restoreSnapshot 4 (some .int) [(0, 9, 12, 13)]) B.pre
  have hts : ∀ w ∈ cm_all, w.before args s = true := fun w h => hts0 w (List.mem_cons_of_mem _ h)
  obtain ⟨rfl, hsz, hP, hK, hD0, hX⟩ := hv
  have hx := B.exec
  have hb := B.bytes
  have hr := B.returns
  have htab := vx_table (x := yL_restoreSnapshot) B (hts0 _ List.mem_cons_self)
  have hown : s.vm.findClass RL = some m.cls := findClass_of_methodNamed B.named
  have hlocks := B.notSynchronized
  subst hsz
  have hD := hD0.self (sz := s.heap.size)
  generalize hAe : va_A [(x, .inr (10, [.ref w, .ref sp, .ref sv, .ref bu, .int 0, .int 0])), (sv, .inl (ct 4, 2, .inr (.inr (.inr (.inr (fun _ => none)))))), (ov, .inl (ct 1, 1, .inr (.inl f)))] s.heap.size = A at hD hX ⊢
  have hA : ∀ q : Nat, s.heap.size ≤ q → A q := fun q h => by rw [← hAe]; exact Or.inr h
  have hS : va_S A s.heap s.heap [] := va_S.rf
  have hl := lv_entry ([.ref x, .int p1, .ref ov]) (n := 4) (Nat.le_of_ble_eq_true rfl)
  rw [lg_entry_eq]
  generalize (lg_sl ([.ref x, .int p1, .ref ov]) ++ List.replicate (4 - (lg_sl ([.ref x, .int p1, .ref ov])).length) Slot.unset).toArray = ls at hl ⊢
  have hl : lv_has ls 4 [(0, .ref x), (1, .int p1), (2, .ref ov)] := hl
  refine lv_aload_n hx hb dL_restoreSnapshot_0 rfl (lv_at hl 2 rfl) ?_
  refine lv_iconst (v := 0) hx hb dL_restoreSnapshot_1 (by decide) ?_
  refine lv_aload_n hx hb dL_restoreSnapshot_2 rfl (lv_at hl 0 rfl) ?_
  refine lv_iload_n hx hb dL_restoreSnapshot_3 rfl (lv_at hl 1 rfl) ?_
  refine cm_xi (wr := [(ov, .inl (ct 1, 1, .inr (.inl f)))]) (vx_runV (As := [.int p1]) (rest := [.int 0, .ref ov]) ⟨hx, hb, hml, hown, hts⟩ (c_restoreSnapshot_0 l hfl D ct x w sp sv bu p1 _) (cm_V 1 hts kc_X10_restoreSnapshot ki_RX10 kl_RL_169 kv_X10_restoreSnapshot kx_X10_restoreSnapshot kd_X10_restoreSnapshot ⟨Nat.le_of_ble_eq_true rfl, Nat.le_of_ble_eq_true rfl⟩) (cm_preV hP hK hD hS hA hX [0, 1] rfl rfl rfl (q0 := 0) (ci := 10) rfl rfl) rfl rfl hl.1 rfl (lv_room (Nat.le_of_ble_eq_true rfl)) dL_restoreSnapshot_4 ⟨Nat.le_of_ble_eq_true rfl, Nat.le_of_ble_eq_true rfl⟩) hP hD hS hA [0, 1] [2] rfl rfl rfl (by decide) (fun E ce q9 u H locs hu hE hP hD hS hce hcv hcl => ?_) (fun r_1 u H locs hw_2 hP hD hS => ?_)
  · subst hE
    have hu : p1 < 0 ∨ 1 < p1 := hu
    have hP : va_P D vwCl [(ov, .inl (ct 1, 1, .inr (.inl f))), (x, .inr (10, [.ref w, .ref sp, .ref sv, .ref bu, .int 0, .int 0]))] H := hP
    have hD : va_D A [(ov, .inl (ct 1, 1, .inr (.inl f))), (x, .inr (10, [.ref w, .ref sp, .ref sv, .ref bu, .int 0, .int 0]))] := hD
    refine vx_catch (name := "java/lang/IllegalArgumentException") hown [] _ _ htab (fun z hz => absurd hz List.not_mem_nil) (by decide) (by decide) (hts _ kl_RL_13) (hts _ kcast_IAE) hce hcv hcl ?_
    refine W.eq (g2 := F0 m 12 ls [.ref q9]) rfl ?_
    refine lv_astore_n (lv' := [(3, .ref q9), (0, .ref x), (1, .int p1), (2, .ref ov)]) hx hb dL_restoreSnapshot_12 rfl hl (by decide) rfl (fun ls hl => ?_)
    refine lv_iconst (v := 1) hx hb dL_restoreSnapshot_13 (by decide) ?_
    have hP9 := hP.sub (ws' := [(ov, .inl (ct 1, 1, .inr (.inl f)))]) [0] rfl
    have hD9 := hD.sub (ws' := [(ov, .inl (ct 1, 1, .inr (.inl f)))]) [0] (by decide) rfl
    exact W.iret (v := 1) hx hb hr (fun t ht hW => ⟨⟨1, f, rfl, (Or.inr ⟨rfl, hu⟩), by rw [ht]; exact hP9, by rw [hAe]; exact hD9⟩, hS.F ht⟩) hS.2.2 dL_restoreSnapshot_14
  · have hw_2 : r_1 = (-1) ∧ 0 ≤ p1 ∧ p1 ≤ 1 := hw_2
    obtain ⟨rfl, hw_2⟩ := hw_2
    have hP : va_P D vwCl [(ov, .inl (ct 1, 1, .inr (.inl f))), (x, .inr (10, [.ref w, .ref sp, .ref sv, .ref bu, .int 0, .int 0]))] H := hP
    have hD : va_D A [(ov, .inl (ct 1, 1, .inr (.inl f))), (x, .inr (10, [.ref w, .ref sp, .ref sv, .ref bu, .int 0, .int 0]))] := hD
    refine W.widen (k := 1) (n := 6) (Nat.le_of_ble_eq_true rfl) (Nat.le_of_ble_eq_true rfl) ?_
    refine lv_i2l (v := (-1)) hx hb dL_restoreSnapshot_7 (by decide) ?_
    refine va_last hx hb hK hP hD hS 0 1 rfl rfl (cm_vin (by decide)) dL_restoreSnapshot_8 (fun H locs hP hD hS => ?_)
    have hP : va_P D vwCl [(ov, .inl (ct 1, 1, .inr (.inl (vp_updL f (0 : Int32).toNatClampNeg (-1))))), (x, .inr (10, [.ref w, .ref sp, .ref sv, .ref bu, .int 0, .int 0]))] H := hP
    have hD : va_D A [(ov, .inl (ct 1, 1, .inr (.inl (vp_updL f (0 : Int32).toNatClampNeg (-1))))), (x, .inr (10, [.ref w, .ref sp, .ref sv, .ref bu, .int 0, .int 0]))] := hD
    refine lv_goto (tgt := 15) hx hb dL_restoreSnapshot_9 (by decide) ?_
    refine lv_iconst (v := 0) hx hb dL_restoreSnapshot_15 (by decide) ?_
    have hP9 := hP.sub (ws' := [(ov, .inl (ct 1, 1, .inr (.inl (vp_updL f (0 : Int32).toNatClampNeg (-1)))))]) [0] rfl
    have hD9 := hD.sub (ws' := [(ov, .inl (ct 1, 1, .inr (.inl (vp_updL f (0 : Int32).toNatClampNeg (-1)))))]) [0] (by decide) rfl
    exact W.iret (v := 0) hx hb hr (fun t ht hW => ⟨⟨0, (vp_updL f (0 : Int32).toNatClampNeg (-1)), rfl, (Or.inl ⟨rfl, hw_2.2, pk_uLs⟩), by rw [ht]; exact hP9, by rw [hAe]; exact hD9⟩, hS.F ht⟩) hS.2.2 dL_restoreSnapshot_16
