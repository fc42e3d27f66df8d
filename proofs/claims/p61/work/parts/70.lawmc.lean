theorem dL_valueAfter_0 : decode cL_valueAfter 0 = .ok (.aload 4, 2) := by decide +kernel
theorem dL_valueAfter_2 : decode cL_valueAfter 2 = .ok (.iconst 0, 1) := by decide +kernel
theorem dL_valueAfter_3 : decode cL_valueAfter 3 = .ok (.aload_n 0, 1) := by decide +kernel
theorem dL_valueAfter_4 : decode cL_valueAfter 4 = .ok (.iload_n 1, 1) := by decide +kernel
theorem dL_valueAfter_5 : decode cL_valueAfter 5 = .ok (.iload_n 2, 1) := by decide +kernel
theorem dL_valueAfter_6 : decode cL_valueAfter 6 = .ok (.iload_n 3, 1) := by decide +kernel
theorem dL_valueAfter_7 : decode cL_valueAfter 7 = .ok (.invokevirtual 145, 3) := by decide +kernel
theorem dL_valueAfter_10 : decode cL_valueAfter 10 = .ok (.i2l, 1) := by decide +kernel
theorem dL_valueAfter_11 : decode cL_valueAfter 11 = .ok (.lastore, 1) := by decide +kernel
theorem dL_valueAfter_12 : decode cL_valueAfter 12 = .ok (.goto 11, 3) := by decide +kernel
theorem dL_valueAfter_15 : decode cL_valueAfter 15 = .ok (.astore 5, 2) := by decide +kernel
theorem dL_valueAfter_17 : decode cL_valueAfter 17 = .ok (.iconst 1, 1) := by decide +kernel
theorem dL_valueAfter_18 : decode cL_valueAfter 18 = .ok (.ireturn, 1) := by decide +kernel
theorem dL_valueAfter_19 : decode cL_valueAfter 19 = .ok (.astore 5, 2) := by decide +kernel
theorem dL_valueAfter_21 : decode cL_valueAfter 21 = .ok (.iconst 2, 1) := by decide +kernel
theorem dL_valueAfter_22 : decode cL_valueAfter 22 = .ok (.ireturn, 1) := by decide +kernel
theorem dL_valueAfter_23 : decode cL_valueAfter 23 = .ok (.iconst 0, 1) := by decide +kernel
theorem dL_valueAfter_24 : decode cL_valueAfter 24 = .ok (.ireturn, 1) := by decide +kernel
set_option maxRecDepth 100000 in
set_option maxHeartbeats 4000000 in
theorem tl_valueAfter (l : Launch) (hfl : l.stackTraces = false) (D : va_G) (ct : Nat → ClassId) (S : ty_S) (ws : va_W) (ph : va_W → Prop) (xx : Nat → Nat → Nat → Prop) (x : Nat) (w : Nat) (sp : Nat) (sv : Nat) (bu : Nat) (ns : Nat) (bl : Int32) (le : Int32) (p1 : Int32) (p2 : Int32) (p3 : Int32) (ov : Nat) (o : Nat → Int64) (sz : Nat) (hT : ty_V ct S ph ws) (h_w : S w = some (.inl 9)) (h_sp : S sp = some (.inl 9)) (h_sv : S sv = some (.inr (4, ns))) (hph : ty_C ph xx) (hy1 : ty_y1 xx) (hy2 : ty_y0 xx 2) (hy5 : ty_y0 xx 5) (hy7 : ty_yc xx 7) (hy11 : ty_y0 xx 11) (hys : xx 9 0 sp ∧ xx 9 4 sp) : Met l yL_valueAfter (wsw_ yL_valueAfter cL_valueAfter 6 (some .int) [(0, 12, 15, 32), (0, 12, 19, 13)]) ({ frames := 8, cells := 3, slots := 18, locals := 214 } : Room) (va_Pc [.ref x, .int p1, .int p2, .int p3, .ref ov] (cmPn D ct sz ([(ty_XO x w sp sv bu bl le), (ov, .inl (ct 1, 1, .inr (.inl o)))] ++ ws))) (va_Qi (fun (r : Int32) (u : va_W × (Nat → Int64)) => match u with | (u9, o1) => ty_V ct S ph u9) (cmB D ([(ty_XO x w sp sv bu bl le), (ov, .inl (ct 1, 1, .inr (.inl o)))] ++ ws) sz (fun (u : va_W × (Nat → Int64)) => match u with | (u9, o1) => ([(ty_XO x w sp sv bu bl le), (ov, .inl (ct 1, 1, .inr (.inl o1)))] ++ u9))) (va_A ([(ty_XO x w sp sv bu bl le), (ov, .inl (ct 1, 1, .inr (.inl o)))] ++ ws) sz)) 3 18 (va_A ([(ty_XO x w sp sv bu bl le), (ov, .inl (ct 1, 1, .inr (.inl o)))] ++ ws) sz) := by
  refine va_MetW (cc := cL_valueAfter) (maxL := 6) (ret := (some .int)) (hh := [(0, 12, 15, 32), (0, 12, 19, 13)]) (by decide) rfl ?_
  intro p e s m args below meth c s₁ B hml hv
  have hts0 := atoms_spec (ws := wsw_ yL_valueAfter cL_valueAfter 6 (some .int) [(0, 12, 15, 32), (0, 12, 19, 13)]) B.pre
  have hts : ∀ w ∈ cm_all, w.before args s = true := fun w h => hts0 w (List.mem_cons_of_mem _ h)
  obtain ⟨rfl, ⟨hsz, hP, hK, hD0, hX⟩, hNc⟩ := hv
  have hx := B.exec
  have hb := B.bytes
  have hr := B.returns
  have htab := vx_table (x := yL_valueAfter) B (hts0 _ List.mem_cons_self)
  have hown : s.vm.findClass RL = some m.cls := findClass_of_methodNamed B.named
  have hlocks := B.notSynchronized
  subst hsz
  have hD := hD0.self (sz := s.heap.size)
  generalize hAe : va_A ([(ty_XO x w sp sv bu bl le), (ov, .inl (ct 1, 1, .inr (.inl o)))] ++ ws) s.heap.size = A at hD hX ⊢
  have hA : ∀ q : Nat, s.heap.size ≤ q → A q := fun q h => by rw [← hAe]; exact Or.inr h
  have hS : va_S A s.heap s.heap [] := va_S.rf
  have hl := lv_entry ([.ref x, .int p1, .int p2, .int p3, .ref ov]) (n := 6) (Nat.le_of_ble_eq_true rfl)
  rw [lg_entry_eq]
  generalize (lg_sl ([.ref x, .int p1, .int p2, .int p3, .ref ov]) ++ List.replicate (6 - (lg_sl ([.ref x, .int p1, .int p2, .int p3, .ref ov])).length) Slot.unset).toArray = ls at hl ⊢
  have hl : lv_has ls 6 [(0, .ref x), (1, .int p1), (2, .int p2), (3, .int p3), (4, .ref ov)] := hl
  refine lv_aload hx hb dL_valueAfter_0 (lv_at hl 4 rfl) ?_
  refine lv_iconst (v := 0) hx hb dL_valueAfter_2 (by decide) ?_
  refine lv_aload_n hx hb dL_valueAfter_3 rfl (lv_at hl 0 rfl) ?_
  refine lv_iload_n hx hb dL_valueAfter_4 rfl (lv_at hl 1 rfl) ?_
  refine lv_iload_n hx hb dL_valueAfter_5 rfl (lv_at hl 2 rfl) ?_
  refine lv_iload_n hx hb dL_valueAfter_6 rfl (lv_at hl 3 rfl) ?_
  have hP : va_P D vwCl ([(ov, .inl (ct 1, 1, .inr (.inl o))), (ty_XO x w sp sv bu bl le)] ++ ws) s.heap := ty_permP hP (ty_ordp (E := [(ty_XO x w sp sv bu bl le), (ov, .inl (ct 1, 1, .inr (.inl o)))]) (E2 := [(ov, .inl (ct 1, 1, .inr (.inl o))), (ty_XO x w sp sv bu bl le)]) (n := 2) [1, 0] rfl rfl (by decide))
  have hD : va_D A ([(ov, .inl (ct 1, 1, .inr (.inl o))), (ty_XO x w sp sv bu bl le)] ++ ws) := ty_permD hD (ty_ordp (E := [(ty_XO x w sp sv bu bl le), (ov, .inl (ct 1, 1, .inr (.inl o)))]) (E2 := [(ov, .inl (ct 1, 1, .inr (.inl o))), (ty_XO x w sp sv bu bl le)]) (n := 2) [1, 0] rfl rfl (by decide))
  refine ty_xi (wr := [(ov, .inl (ct 1, 1, .inr (.inl o)))]) (wc := ([(ty_XO x w sp sv bu bl le)] ++ ws)) (vx_runV (As := [.int p1, .int p2, .int p3]) (rest := [.int 0, .ref ov]) ⟨hx, hb, hml, hown, hts⟩ (t_X10_valueAfter l hfl D ct S ws ph xx x w sp sv bu ns bl le p1 p2 p3 _ hT h_w h_sp h_sv hph hy1 hy2 hy5 hy7 hy11 hys) (cm_V 3 hts kc_X10_valueAfter ki_RX10 kl_RL_145 kv_X10_valueAfter kx_X10_valueAfter kd_X10_valueAfter ⟨Nat.le_of_ble_eq_true rfl, Nat.le_of_ble_eq_true rfl⟩) (ty_preE (wr := [(ov, .inl (ct 1, 1, .inr (.inl o)))]) (wc := ([(ty_XO x w sp sv bu bl le)] ++ ws)) (ci := 10) (q0 := 1) hP hK hD hS hA hX rfl rfl) rfl rfl hl.1 rfl (lv_room (Nat.le_of_ble_eq_true rfl)) dL_valueAfter_7 ⟨Nat.le_of_ble_eq_true rfl, Nat.le_of_ble_eq_true rfl⟩) hP hD hS hA (fun E ce q9 u H locs hu hE hP hD hS hce hcv hcl => ?_) (fun r_1 u H locs hw_2 hP hD hS => ?_)
  · obtain ⟨ws_3, rfl⟩ : ∃ z, z = u := ⟨_, rfl⟩
    have hT := hu
    have hP : va_P D vwCl ([(ov, .inl (ct 1, 1, .inr (.inl o))), (ty_XO x w sp sv bu bl le)] ++ ws_3) H := hP
    have hD : va_D A ([(ov, .inl (ct 1, 1, .inr (.inl o))), (ty_XO x w sp sv bu bl le)] ++ ws_3) := hD
    rcases List.mem_cons.mp hE with rfl | hE
    · refine vx_catch (name := "java/lang/IllegalArgumentException") hown [_] _ _ htab (fun z hz => by obtain rfl := List.mem_singleton.mp hz; exact Or.inr ⟨by decide, _, hts _ kl_RL_32, hNc⟩) (by decide) (by decide) (hts _ kl_RL_13) (hts _ kcast_IAE) hce hcv hcl ?_
      refine W.eq (g2 := F0 m 19 ls [.ref q9]) rfl ?_
      refine lv_astore (lv' := [(5, .ref q9), (0, .ref x), (1, .int p1), (2, .int p2), (3, .int p3), (4, .ref ov)]) hx hb dL_valueAfter_19 hl (by decide) rfl (fun ls hl => ?_)
      refine lv_iconst (v := 2) hx hb dL_valueAfter_21 (by decide) ?_
      have hP : va_P D vwCl ([(ty_XO x w sp sv bu bl le), (ov, .inl (ct 1, 1, .inr (.inl o)))] ++ ws_3) H := ty_permP hP (ty_ordp (E := [(ov, .inl (ct 1, 1, .inr (.inl o))), (ty_XO x w sp sv bu bl le)]) (E2 := [(ty_XO x w sp sv bu bl le), (ov, .inl (ct 1, 1, .inr (.inl o)))]) (n := 2) [1, 0] rfl rfl (by decide))
      have hD : va_D A ([(ty_XO x w sp sv bu bl le), (ov, .inl (ct 1, 1, .inr (.inl o)))] ++ ws_3) := ty_permD hD (ty_ordp (E := [(ov, .inl (ct 1, 1, .inr (.inl o))), (ty_XO x w sp sv bu bl le)]) (E2 := [(ty_XO x w sp sv bu bl le), (ov, .inl (ct 1, 1, .inr (.inl o)))]) (n := 2) [1, 0] rfl rfl (by decide))
      exact W.iret (v := 2) hx hb hr (fun t ht hW => ⟨⟨2, (ws_3, o), rfl, hT, by rw [ht]; exact hP, by rw [hAe]; exact hD⟩, hS.F ht⟩) hS.2.2 dL_valueAfter_22
    · obtain rfl := List.mem_singleton.mp hE
      refine vx_catch (name := "java/lang/IndexOutOfBoundsException") hown [] _ _ htab (fun z hz => absurd hz List.not_mem_nil) (by decide) (by decide) (hts _ kl_RL_32) (hts _ kcast_IOE) hce hcv hcl ?_
      refine W.eq (g2 := F0 m 15 ls [.ref q9]) rfl ?_
      refine lv_astore (lv' := [(5, .ref q9), (0, .ref x), (1, .int p1), (2, .int p2), (3, .int p3), (4, .ref ov)]) hx hb dL_valueAfter_15 hl (by decide) rfl (fun ls hl => ?_)
      refine lv_iconst (v := 1) hx hb dL_valueAfter_17 (by decide) ?_
      have hP : va_P D vwCl ([(ty_XO x w sp sv bu bl le), (ov, .inl (ct 1, 1, .inr (.inl o)))] ++ ws_3) H := ty_permP hP (ty_ordp (E := [(ov, .inl (ct 1, 1, .inr (.inl o))), (ty_XO x w sp sv bu bl le)]) (E2 := [(ty_XO x w sp sv bu bl le), (ov, .inl (ct 1, 1, .inr (.inl o)))]) (n := 2) [1, 0] rfl rfl (by decide))
      have hD : va_D A ([(ty_XO x w sp sv bu bl le), (ov, .inl (ct 1, 1, .inr (.inl o)))] ++ ws_3) := ty_permD hD (ty_ordp (E := [(ov, .inl (ct 1, 1, .inr (.inl o))), (ty_XO x w sp sv bu bl le)]) (E2 := [(ty_XO x w sp sv bu bl le), (ov, .inl (ct 1, 1, .inr (.inl o)))]) (n := 2) [1, 0] rfl rfl (by decide))
      exact W.iret (v := 1) hx hb hr (fun t ht hW => ⟨⟨1, (ws_3, o), rfl, hT, by rw [ht]; exact hP, by rw [hAe]; exact hD⟩, hS.F ht⟩) hS.2.2 dL_valueAfter_18
  · obtain ⟨ws_4, rfl⟩ : ∃ z, z = u := ⟨_, rfl⟩
    have hT := hw_2
    have hP : va_P D vwCl ([(ov, .inl (ct 1, 1, .inr (.inl o))), (ty_XO x w sp sv bu bl le)] ++ ws_4) H := hP
    have hD : va_D A ([(ov, .inl (ct 1, 1, .inr (.inl o))), (ty_XO x w sp sv bu bl le)] ++ ws_4) := hD
    refine W.widen (k := 3) (n := 18) (Nat.le_of_ble_eq_true rfl) (Nat.le_of_ble_eq_true rfl) ?_
    refine lv_i2l hx hb dL_valueAfter_10 rfl ?_
    refine lv_topl (fun x_5 _ => ?_)
    refine va_last hx hb hK hP hD hS 0 1 rfl rfl (cm_vin (by decide)) dL_valueAfter_11 (fun H locs hP hD hS => ?_)
    have hP : va_P D vwCl ([(ov, .inl (ct 1, 1, .inr (.inl (vp_updL o (0 : Int32).toNatClampNeg x_5)))), (ty_XO x w sp sv bu bl le)] ++ ws_4) H := hP
    have hD : va_D A ([(ov, .inl (ct 1, 1, .inr (.inl (vp_updL o (0 : Int32).toNatClampNeg x_5)))), (ty_XO x w sp sv bu bl le)] ++ ws_4) := hD
    refine lv_goto (tgt := 23) hx hb dL_valueAfter_12 (by decide) ?_
    refine lv_iconst (v := 0) hx hb dL_valueAfter_23 (by decide) ?_
    have hP : va_P D vwCl ([(ty_XO x w sp sv bu bl le), (ov, .inl (ct 1, 1, .inr (.inl (vp_updL o (0 : Int32).toNatClampNeg x_5))))] ++ ws_4) H := ty_permP hP (ty_ordp (E := [(ov, .inl (ct 1, 1, .inr (.inl (vp_updL o (0 : Int32).toNatClampNeg x_5)))), (ty_XO x w sp sv bu bl le)]) (E2 := [(ty_XO x w sp sv bu bl le), (ov, .inl (ct 1, 1, .inr (.inl (vp_updL o (0 : Int32).toNatClampNeg x_5))))]) (n := 2) [1, 0] rfl rfl (by decide))
    have hD : va_D A ([(ty_XO x w sp sv bu bl le), (ov, .inl (ct 1, 1, .inr (.inl (vp_updL o (0 : Int32).toNatClampNeg x_5))))] ++ ws_4) := ty_permD hD (ty_ordp (E := [(ov, .inl (ct 1, 1, .inr (.inl (vp_updL o (0 : Int32).toNatClampNeg x_5)))), (ty_XO x w sp sv bu bl le)]) (E2 := [(ty_XO x w sp sv bu bl le), (ov, .inl (ct 1, 1, .inr (.inl (vp_updL o (0 : Int32).toNatClampNeg x_5))))]) (n := 2) [1, 0] rfl rfl (by decide))
    exact W.iret (v := 0) hx hb hr (fun t ht hW => ⟨⟨0, (ws_4, (vp_updL o (0 : Int32).toNatClampNeg x_5)), rfl, hT, by rw [ht]; exact hP, by rw [hAe]; exact hD⟩, hS.F ht⟩) hS.2.2 dL_valueAfter_24
theorem dL_peakTemperature_0 : decode cL_peakTemperature 0 = .ok (.aload_n 3, 1) := by decide +kernel
theorem dL_peakTemperature_1 : decode cL_peakTemperature 1 = .ok (.iconst 0, 1) := by decide +kernel
theorem dL_peakTemperature_2 : decode cL_peakTemperature 2 = .ok (.aload_n 0, 1) := by decide +kernel
theorem dL_peakTemperature_3 : decode cL_peakTemperature 3 = .ok (.iload_n 1, 1) := by decide +kernel
theorem dL_peakTemperature_4 : decode cL_peakTemperature 4 = .ok (.iload_n 2, 1) := by decide +kernel
theorem dL_peakTemperature_5 : decode cL_peakTemperature 5 = .ok (.invokevirtual 148, 3) := by decide +kernel
theorem dL_peakTemperature_8 : decode cL_peakTemperature 8 = .ok (.i2l, 1) := by decide +kernel
theorem dL_peakTemperature_9 : decode cL_peakTemperature 9 = .ok (.lastore, 1) := by decide +kernel
theorem dL_peakTemperature_10 : decode cL_peakTemperature 10 = .ok (.goto 11, 3) := by decide +kernel
theorem dL_peakTemperature_13 : decode cL_peakTemperature 13 = .ok (.astore 4, 2) := by decide +kernel
theorem dL_peakTemperature_15 : decode cL_peakTemperature 15 = .ok (.iconst 1, 1) := by decide +kernel
theorem dL_peakTemperature_16 : decode cL_peakTemperature 16 = .ok (.ireturn, 1) := by decide +kernel
theorem dL_peakTemperature_17 : decode cL_peakTemperature 17 = .ok (.astore 4, 2) := by decide +kernel
theorem dL_peakTemperature_19 : decode cL_peakTemperature 19 = .ok (.iconst 2, 1) := by decide +kernel
theorem dL_peakTemperature_20 : decode cL_peakTemperature 20 = .ok (.ireturn, 1) := by decide +kernel
theorem dL_peakTemperature_21 : decode cL_peakTemperature 21 = .ok (.iconst 0, 1) := by decide +kernel
theorem dL_peakTemperature_22 : decode cL_peakTemperature 22 = .ok (.ireturn, 1) := by decide +kernel
set_option maxRecDepth 100000 in
set_option maxHeartbeats 4000000 in
theorem tl_peakTemperature (l : Launch) (hfl : l.stackTraces = false) (D : va_G) (ct : Nat → ClassId) (S : ty_S) (ws : va_W) (ph : va_W → Prop) (xx : Nat → Nat → Nat → Prop) (x : Nat) (w : Nat) (sp : Nat) (sv : Nat) (bu : Nat) (ns : Nat) (bl : Int32) (le : Int32) (p1 : Int32) (p2 : Int32) (ov : Nat) (o : Nat → Int64) (sz : Nat) (hT : ty_V ct S ph ws) (h_w : S w = some (.inl 9)) (h_sp : S sp = some (.inl 9)) (h_sv : S sv = some (.inr (4, ns))) (hph : ty_C ph xx) (hy1 : ty_y1 xx) (hy2 : ty_y0 xx 2) (hy5 : ty_y0 xx 5) (hy7 : ty_yc xx 7) (hy11 : ty_y0 xx 11) (hys : xx 9 0 sp ∧ xx 9 4 sp) : Met l yL_peakTemperature (wsw_ yL_peakTemperature cL_peakTemperature 5 (some .int) [(0, 10, 13, 32), (0, 10, 17, 13)]) ({ frames := 8, cells := 2, slots := 12, locals := 214 } : Room) (va_Pc [.ref x, .int p1, .int p2, .ref ov] (cmPn D ct sz ([(ty_XO x w sp sv bu bl le), (ov, .inl (ct 1, 1, .inr (.inl o)))] ++ ws))) (va_Qi (fun (r : Int32) (u : va_W × (Nat → Int64)) => match u with | (u9, o1) => ty_V ct S ph u9) (cmB D ([(ty_XO x w sp sv bu bl le), (ov, .inl (ct 1, 1, .inr (.inl o)))] ++ ws) sz (fun (u : va_W × (Nat → Int64)) => match u with | (u9, o1) => ([(ty_XO x w sp sv bu bl le), (ov, .inl (ct 1, 1, .inr (.inl o1)))] ++ u9))) (va_A ([(ty_XO x w sp sv bu bl le), (ov, .inl (ct 1, 1, .inr (.inl o)))] ++ ws) sz)) 2 12 (va_A ([(ty_XO x w sp sv bu bl le), (ov, .inl (ct 1, 1, .inr (.inl o)))] ++ ws) sz) := by
  refine va_MetW (cc := cL_peakTemperature) (maxL := 5) (ret := (some .int)) (hh := [(0, 10, 13, 32), (0, 10, 17, 13)]) (by decide) rfl ?_
  intro p e s m args below meth c s₁ B hml hv
  have hts0 := atoms_spec (ws := wsw_ yL_peakTemperature cL_peakTemperature 5 (some .int) [(0, 10, 13, 32), (0, 10, 17, 13)]) B.pre
  have hts : ∀ w ∈ cm_all, w.before args s = true := fun w h => hts0 w (List.mem_cons_of_mem _ h)
  obtain ⟨rfl, ⟨hsz, hP, hK, hD0, hX⟩, hNc⟩ := hv
  have hx := B.exec
  have hb := B.bytes
  have hr := B.returns
  have htab := vx_table (x := yL_peakTemperature) B (hts0 _ List.mem_cons_self)
  have hown : s.vm.findClass RL = some m.cls := findClass_of_methodNamed B.named
  have hlocks := B.notSynchronized
  subst hsz
  have hD := hD0.self (sz := s.heap.size)
  generalize hAe : va_A ([(ty_XO x w sp sv bu bl le), (ov, .inl (ct 1, 1, .inr (.inl o)))] ++ ws) s.heap.size = A at hD hX ⊢
  have hA : ∀ q : Nat, s.heap.size ≤ q → A q := fun q h => by rw [← hAe]; exact Or.inr h
  have hS : va_S A s.heap s.heap [] := va_S.rf
  have hl := lv_entry ([.ref x, .int p1, .int p2, .ref ov]) (n := 5) (Nat.le_of_ble_eq_true rfl)
  rw [lg_entry_eq]
  generalize (lg_sl ([.ref x, .int p1, .int p2, .ref ov]) ++ List.replicate (5 - (lg_sl ([.ref x, .int p1, .int p2, .ref ov])).length) Slot.unset).toArray = ls at hl ⊢
  have hl : lv_has ls 5 [(0, .ref x), (1, .int p1), (2, .int p2), (3, .ref ov)] := hl
  refine lv_aload_n hx hb dL_peakTemperature_0 rfl (lv_at hl 3 rfl) ?_
  refine lv_iconst (v := 0) hx hb dL_peakTemperature_1 (by decide) ?_
  refine lv_aload_n hx hb dL_peakTemperature_2 rfl (lv_at hl 0 rfl) ?_
  refine lv_iload_n hx hb dL_peakTemperature_3 rfl (lv_at hl 1 rfl) ?_
  refine lv_iload_n hx hb dL_peakTemperature_4 rfl (lv_at hl 2 rfl) ?_
  have hP : va_P D vwCl ([(ov, .inl (ct 1, 1, .inr (.inl o))), (ty_XO x w sp sv bu bl le)] ++ ws) s.heap := ty_permP hP (ty_ordp (E := [(ty_XO x w sp sv bu bl le), (ov, .inl (ct 1, 1, .inr (.inl o)))]) (E2 := [(ov, .inl (ct 1, 1, .inr (.inl o))), (ty_XO x w sp sv bu bl le)]) (n := 2) [1, 0] rfl rfl (by decide))
  have hD : va_D A ([(ov, .inl (ct 1, 1, .inr (.inl o))), (ty_XO x w sp sv bu bl le)] ++ ws) := ty_permD hD (ty_ordp (E := [(ty_XO x w sp sv bu bl le), (ov, .inl (ct 1, 1, .inr (.inl o)))]) (E2 := [(ov, .inl (ct 1, 1, .inr (.inl o))), (ty_XO x w sp sv bu bl le)]) (n := 2) [1, 0] rfl rfl (by decide))
  refine ty_xi (wr := [(ov, .inl (ct 1, 1, .inr (.inl o)))]) (wc := ([(ty_XO x w sp sv bu bl le)] ++ ws)) (vx_runV (As := [.int p1, .int p2]) (rest := [.int 0, .ref ov]) ⟨hx, hb, hml, hown, hts⟩ (t_X10_peakTemperature l hfl D ct S ws ph xx x w sp sv bu ns bl le p1 p2 _ hT h_w h_sp h_sv hph hy1 hy2 hy5 hy7 hy11 hys) (cm_V 2 hts kc_X10_peakTemperature ki_RX10 kl_RL_148 kv_X10_peakTemperature kx_X10_peakTemperature kd_X10_peakTemperature ⟨Nat.le_of_ble_eq_true rfl, Nat.le_of_ble_eq_true rfl⟩) (ty_preE (wr := [(ov, .inl (ct 1, 1, .inr (.inl o)))]) (wc := ([(ty_XO x w sp sv bu bl le)] ++ ws)) (ci := 10) (q0 := 1) hP hK hD hS hA hX rfl rfl) rfl rfl hl.1 rfl (lv_room (Nat.le_of_ble_eq_true rfl)) dL_peakTemperature_5 ⟨Nat.le_of_ble_eq_true rfl, Nat.le_of_ble_eq_true rfl⟩) hP hD hS hA (fun E ce q9 u H locs hu hE hP hD hS hce hcv hcl => ?_) (fun r_1 u H locs hw_2 hP hD hS => ?_)
  · obtain ⟨ws_3, rfl⟩ : ∃ z, z = u := ⟨_, rfl⟩
    have hT := hu
    have hP : va_P D vwCl ([(ov, .inl (ct 1, 1, .inr (.inl o))), (ty_XO x w sp sv bu bl le)] ++ ws_3) H := hP
    have hD : va_D A ([(ov, .inl (ct 1, 1, .inr (.inl o))), (ty_XO x w sp sv bu bl le)] ++ ws_3) := hD
    rcases List.mem_cons.mp hE with rfl | hE
    · refine vx_catch (name := "java/lang/IllegalArgumentException") hown [_] _ _ htab (fun z hz => by obtain rfl := List.mem_singleton.mp hz; exact Or.inr ⟨by decide, _, hts _ kl_RL_32, hNc⟩) (by decide) (by decide) (hts _ kl_RL_13) (hts _ kcast_IAE) hce hcv hcl ?_
      refine W.eq (g2 := F0 m 17 ls [.ref q9]) rfl ?_
      refine lv_astore (lv' := [(4, .ref q9), (0, .ref x), (1, .int p1), (2, .int p2), (3, .ref ov)]) hx hb dL_peakTemperature_17 hl (by decide) rfl (fun ls hl => ?_)
      refine lv_iconst (v := 2) hx hb dL_peakTemperature_19 (by decide) ?_
      have hP : va_P D vwCl ([(ty_XO x w sp sv bu bl le), (ov, .inl (ct 1, 1, .inr (.inl o)))] ++ ws_3) H := ty_permP hP (ty_ordp (E := [(ov, .inl (ct 1, 1, .inr (.inl o))), (ty_XO x w sp sv bu bl le)]) (E2 := [(ty_XO x w sp sv bu bl le), (ov, .inl (ct 1, 1, .inr (.inl o)))]) (n := 2) [1, 0] rfl rfl (by decide))
      have hD : va_D A ([(ty_XO x w sp sv bu bl le), (ov, .inl (ct 1, 1, .inr (.inl o)))] ++ ws_3) := ty_permD hD (ty_ordp (E := [(ov, .inl (ct 1, 1, .inr (.inl o))), (ty_XO x w sp sv bu bl le)]) (E2 := [(ty_XO x w sp sv bu bl le), (ov, .inl (ct 1, 1, .inr (.inl o)))]) (n := 2) [1, 0] rfl rfl (by decide))
      exact W.iret (v := 2) hx hb hr (fun t ht hW => ⟨⟨2, (ws_3, o), rfl, hT, by rw [ht]; exact hP, by rw [hAe]; exact hD⟩, hS.F ht⟩) hS.2.2 dL_peakTemperature_20
    · obtain rfl := List.mem_singleton.mp hE
      refine vx_catch (name := "java/lang/IndexOutOfBoundsException") hown [] _ _ htab (fun z hz => absurd hz List.not_mem_nil) (by decide) (by decide) (hts _ kl_RL_32) (hts _ kcast_IOE) hce hcv hcl ?_
      refine W.eq (g2 := F0 m 13 ls [.ref q9]) rfl ?_
      refine lv_astore (lv' := [(4, .ref q9), (0, .ref x), (1, .int p1), (2, .int p2), (3, .ref ov)]) hx hb dL_peakTemperature_13 hl (by decide) rfl (fun ls hl => ?_)
      refine lv_iconst (v := 1) hx hb dL_peakTemperature_15 (by decide) ?_
      have hP : va_P D vwCl ([(ty_XO x w sp sv bu bl le), (ov, .inl (ct 1, 1, .inr (.inl o)))] ++ ws_3) H := ty_permP hP (ty_ordp (E := [(ov, .inl (ct 1, 1, .inr (.inl o))), (ty_XO x w sp sv bu bl le)]) (E2 := [(ty_XO x w sp sv bu bl le), (ov, .inl (ct 1, 1, .inr (.inl o)))]) (n := 2) [1, 0] rfl rfl (by decide))
      have hD : va_D A ([(ty_XO x w sp sv bu bl le), (ov, .inl (ct 1, 1, .inr (.inl o)))] ++ ws_3) := ty_permD hD (ty_ordp (E := [(ov, .inl (ct 1, 1, .inr (.inl o))), (ty_XO x w sp sv bu bl le)]) (E2 := [(ty_XO x w sp sv bu bl le), (ov, .inl (ct 1, 1, .inr (.inl o)))]) (n := 2) [1, 0] rfl rfl (by decide))
      exact W.iret (v := 1) hx hb hr (fun t ht hW => ⟨⟨1, (ws_3, o), rfl, hT, by rw [ht]; exact hP, by rw [hAe]; exact hD⟩, hS.F ht⟩) hS.2.2 dL_peakTemperature_16
  · obtain ⟨ws_4, rfl⟩ : ∃ z, z = u := ⟨_, rfl⟩
    have hT := hw_2
    have hP : va_P D vwCl ([(ov, .inl (ct 1, 1, .inr (.inl o))), (ty_XO x w sp sv bu bl le)] ++ ws_4) H := hP
    have hD : va_D A ([(ov, .inl (ct 1, 1, .inr (.inl o))), (ty_XO x w sp sv bu bl le)] ++ ws_4) := hD
    refine W.widen (k := 2) (n := 12) (Nat.le_of_ble_eq_true rfl) (Nat.le_of_ble_eq_true rfl) ?_
    refine lv_i2l hx hb dL_peakTemperature_8 rfl ?_
    refine lv_topl (fun x_5 _ => ?_)
    refine va_last hx hb hK hP hD hS 0 1 rfl rfl (cm_vin (by decide)) dL_peakTemperature_9 (fun H locs hP hD hS => ?_)
    have hP : va_P D vwCl ([(ov, .inl (ct 1, 1, .inr (.inl (vp_updL o (0 : Int32).toNatClampNeg x_5)))), (ty_XO x w sp sv bu bl le)] ++ ws_4) H := hP
    have hD : va_D A ([(ov, .inl (ct 1, 1, .inr (.inl (vp_updL o (0 : Int32).toNatClampNeg x_5)))), (ty_XO x w sp sv bu bl le)] ++ ws_4) := hD
    refine lv_goto (tgt := 21) hx hb dL_peakTemperature_10 (by decide) ?_
    refine lv_iconst (v := 0) hx hb dL_peakTemperature_21 (by decide) ?_
    have hP : va_P D vwCl ([(ty_XO x w sp sv bu bl le), (ov, .inl (ct 1, 1, .inr (.inl (vp_updL o (0 : Int32).toNatClampNeg x_5))))] ++ ws_4) H := ty_permP hP (ty_ordp (E := [(ov, .inl (ct 1, 1, .inr (.inl (vp_updL o (0 : Int32).toNatClampNeg x_5)))), (ty_XO x w sp sv bu bl le)]) (E2 := [(ty_XO x w sp sv bu bl le), (ov, .inl (ct 1, 1, .inr (.inl (vp_updL o (0 : Int32).toNatClampNeg x_5))))]) (n := 2) [1, 0] rfl rfl (by decide))
    have hD : va_D A ([(ty_XO x w sp sv bu bl le), (ov, .inl (ct 1, 1, .inr (.inl (vp_updL o (0 : Int32).toNatClampNeg x_5))))] ++ ws_4) := ty_permD hD (ty_ordp (E := [(ov, .inl (ct 1, 1, .inr (.inl (vp_updL o (0 : Int32).toNatClampNeg x_5)))), (ty_XO x w sp sv bu bl le)]) (E2 := [(ty_XO x w sp sv bu bl le), (ov, .inl (ct 1, 1, .inr (.inl (vp_updL o (0 : Int32).toNatClampNeg x_5))))]) (n := 2) [1, 0] rfl rfl (by decide))
    exact W.iret (v := 0) hx hb hr (fun t ht hW => ⟨⟨0, (ws_4, (vp_updL o (0 : Int32).toNatClampNeg x_5)), rfl, hT, by rw [ht]; exact hP, by rw [hAe]; exact hD⟩, hS.F ht⟩) hS.2.2 dL_peakTemperature_22
theorem dL_settledIn_0 : decode cL_settledIn 0 = .ok (.aload_n 2, 1) := by decide +kernel
theorem dL_settledIn_1 : decode cL_settledIn 1 = .ok (.iconst 0, 1) := by decide +kernel
theorem dL_settledIn_2 : decode cL_settledIn 2 = .ok (.aload_n 0, 1) := by decide +kernel
theorem dL_settledIn_3 : decode cL_settledIn 3 = .ok (.iload_n 1, 1) := by decide +kernel
theorem dL_settledIn_4 : decode cL_settledIn 4 = .ok (.invokevirtual 151, 3) := by decide +kernel
theorem dL_settledIn_7 : decode cL_settledIn 7 = .ok (.i2l, 1) := by decide +kernel
theorem dL_settledIn_8 : decode cL_settledIn 8 = .ok (.lastore, 1) := by decide +kernel
theorem dL_settledIn_9 : decode cL_settledIn 9 = .ok (.goto 6, 3) := by decide +kernel
theorem dL_settledIn_12 : decode cL_settledIn 12 = .ok (.astore_n 3, 1) := by decide +kernel
theorem dL_settledIn_13 : decode cL_settledIn 13 = .ok (.iconst 1, 1) := by decide +kernel
theorem dL_settledIn_14 : decode cL_settledIn 14 = .ok (.ireturn, 1) := by decide +kernel
theorem dL_settledIn_15 : decode cL_settledIn 15 = .ok (.iconst 0, 1) := by decide +kernel
theorem dL_settledIn_16 : decode cL_settledIn 16 = .ok (.ireturn, 1) := by decide +kernel
set_option maxRecDepth 100000 in
set_option maxHeartbeats 4000000 in
theorem tl_settledIn (l : Launch) (hfl : l.stackTraces = false) (D : va_G) (ct : Nat → ClassId) (S : ty_S) (ws : va_W) (ph : va_W → Prop) (xx : Nat → Nat → Nat → Prop) (x : Nat) (w : Nat) (sp : Nat) (sv : Nat) (bu : Nat) (ns : Nat) (bl : Int32) (le : Int32) (p1 : Int32) (ov : Nat) (o : Nat → Int64) (sz : Nat) (hT : ty_V ct S ph ws) (h_w : S w = some (.inl 9)) (h_sp : S sp = some (.inl 9)) (h_sv : S sv = some (.inr (4, ns))) (hph : ty_C ph xx) (hy1 : ty_y1 xx) (hy2 : ty_y0 xx 2) (hy5 : ty_y0 xx 5) (hy7 : ty_yc xx 7) (hy11 : ty_y0 xx 11) (hys : xx 9 0 sp ∧ xx 9 4 sp) : Met l yL_settledIn (wsw_ yL_settledIn cL_settledIn 4 (some .int) [(0, 9, 12, 32)]) ({ frames := 8, cells := 1, slots := 6, locals := 212 } : Room) (va_Pc [.ref x, .int p1, .ref ov] (cmPn D ct sz ([(ty_XO x w sp sv bu bl le), (ov, .inl (ct 1, 1, .inr (.inl o)))] ++ ws))) (va_Qi (fun (r : Int32) (u : va_W × (Nat → Int64)) => match u with | (u9, o1) => ty_V ct S ph u9) (cmB D ([(ty_XO x w sp sv bu bl le), (ov, .inl (ct 1, 1, .inr (.inl o)))] ++ ws) sz (fun (u : va_W × (Nat → Int64)) => match u with | (u9, o1) => ([(ty_XO x w sp sv bu bl le), (ov, .inl (ct 1, 1, .inr (.inl o1)))] ++ u9))) (va_A ([(ty_XO x w sp sv bu bl le), (ov, .inl (ct 1, 1, .inr (.inl o)))] ++ ws) sz)) 1 6 (va_A ([(ty_XO x w sp sv bu bl le), (ov, .inl (ct 1, 1, .inr (.inl o)))] ++ ws) sz) := by
  refine va_MetW (cc := cL_settledIn) (maxL := 4) (ret := (some .int)) (hh := [(0, 9, 12, 32)]) (by decide) rfl ?_
  intro p e s m args below meth c s₁ B hml hv
  have hts0 := atoms_spec (ws := wsw_ yL_settledIn cL_settledIn 4 (some .int) [(0, 9, 12, 32)]) B.pre
  have hts : ∀ w ∈ cm_all, w.before args s = true := fun w h => hts0 w (List.mem_cons_of_mem _ h)
  obtain ⟨rfl, ⟨hsz, hP, hK, hD0, hX⟩, hNc⟩ := hv
  have hx := B.exec
  have hb := B.bytes
  have hr := B.returns
  have htab := vx_table (x := yL_settledIn) B (hts0 _ List.mem_cons_self)
  have hown : s.vm.findClass RL = some m.cls := findClass_of_methodNamed B.named
  have hlocks := B.notSynchronized
  subst hsz
  have hD := hD0.self (sz := s.heap.size)
  generalize hAe : va_A ([(ty_XO x w sp sv bu bl le), (ov, .inl (ct 1, 1, .inr (.inl o)))] ++ ws) s.heap.size = A at hD hX ⊢
  have hA : ∀ q : Nat, s.heap.size ≤ q → A q := fun q h => by rw [← hAe]; exact Or.inr h
  have hS : va_S A s.heap s.heap [] := va_S.rf
  have hl := lv_entry ([.ref x, .int p1, .ref ov]) (n := 4) (Nat.le_of_ble_eq_true rfl)
  rw [lg_entry_eq]
  generalize (lg_sl ([.ref x, .int p1, .ref ov]) ++ List.replicate (4 - (lg_sl ([.ref x, .int p1, .ref ov])).length) Slot.unset).toArray = ls at hl ⊢
  have hl : lv_has ls 4 [(0, .ref x), (1, .int p1), (2, .ref ov)] := hl
  refine lv_aload_n hx hb dL_settledIn_0 rfl (lv_at hl 2 rfl) ?_
  refine lv_iconst (v := 0) hx hb dL_settledIn_1 (by decide) ?_
  refine lv_aload_n hx hb dL_settledIn_2 rfl (lv_at hl 0 rfl) ?_
  refine lv_iload_n hx hb dL_settledIn_3 rfl (lv_at hl 1 rfl) ?_
  have hP : va_P D vwCl ([(ov, .inl (ct 1, 1, .inr (.inl o))), (ty_XO x w sp sv bu bl le)] ++ ws) s.heap := ty_permP hP (ty_ordp (E := [(ty_XO x w sp sv bu bl le), (ov, .inl (ct 1, 1, .inr (.inl o)))]) (E2 := [(ov, .inl (ct 1, 1, .inr (.inl o))), (ty_XO x w sp sv bu bl le)]) (n := 2) [1, 0] rfl rfl (by decide))
  have hD : va_D A ([(ov, .inl (ct 1, 1, .inr (.inl o))), (ty_XO x w sp sv bu bl le)] ++ ws) := ty_permD hD (ty_ordp (E := [(ty_XO x w sp sv bu bl le), (ov, .inl (ct 1, 1, .inr (.inl o)))]) (E2 := [(ov, .inl (ct 1, 1, .inr (.inl o))), (ty_XO x w sp sv bu bl le)]) (n := 2) [1, 0] rfl rfl (by decide))
  refine ty_xi (wr := [(ov, .inl (ct 1, 1, .inr (.inl o)))]) (wc := ([(ty_XO x w sp sv bu bl le)] ++ ws)) (vx_runV (As := [.int p1]) (rest := [.int 0, .ref ov]) ⟨hx, hb, hml, hown, hts⟩ (t_X10_settledIn l hfl D ct S ws ph xx x w sp sv bu ns bl le p1 _ hT h_w h_sp h_sv hph hy1 hy2 hy5 hy7 hy11 hys) (cm_V 1 hts kc_X10_settledIn ki_RX10 kl_RL_151 kv_X10_settledIn kx_X10_settledIn kd_X10_settledIn ⟨Nat.le_of_ble_eq_true rfl, Nat.le_of_ble_eq_true rfl⟩) (ty_preE (wr := [(ov, .inl (ct 1, 1, .inr (.inl o)))]) (wc := ([(ty_XO x w sp sv bu bl le)] ++ ws)) (ci := 10) (q0 := 1) hP hK hD hS hA hX rfl rfl) rfl rfl hl.1 rfl (lv_room (Nat.le_of_ble_eq_true rfl)) dL_settledIn_4 ⟨Nat.le_of_ble_eq_true rfl, Nat.le_of_ble_eq_true rfl⟩) hP hD hS hA (fun E ce q9 u H locs hu hE hP hD hS hce hcv hcl => ?_) (fun r_1 u H locs hw_2 hP hD hS => ?_)
  · obtain ⟨ws_3, rfl⟩ : ∃ z, z = u := ⟨_, rfl⟩
    have hT := hu
    have hP : va_P D vwCl ([(ov, .inl (ct 1, 1, .inr (.inl o))), (ty_XO x w sp sv bu bl le)] ++ ws_3) H := hP
    have hD : va_D A ([(ov, .inl (ct 1, 1, .inr (.inl o))), (ty_XO x w sp sv bu bl le)] ++ ws_3) := hD
    obtain rfl := List.mem_singleton.mp hE
    refine vx_catch (name := "java/lang/IndexOutOfBoundsException") hown [] _ _ htab (fun z hz => absurd hz List.not_mem_nil) (by decide) (by decide) (hts _ kl_RL_32) (hts _ kcast_IOE) hce hcv hcl ?_
    refine W.eq (g2 := F0 m 12 ls [.ref q9]) rfl ?_
    refine lv_astore_n (lv' := [(3, .ref q9), (0, .ref x), (1, .int p1), (2, .ref ov)]) hx hb dL_settledIn_12 rfl hl (by decide) rfl (fun ls hl => ?_)
    refine lv_iconst (v := 1) hx hb dL_settledIn_13 (by decide) ?_
    have hP : va_P D vwCl ([(ty_XO x w sp sv bu bl le), (ov, .inl (ct 1, 1, .inr (.inl o)))] ++ ws_3) H := ty_permP hP (ty_ordp (E := [(ov, .inl (ct 1, 1, .inr (.inl o))), (ty_XO x w sp sv bu bl le)]) (E2 := [(ty_XO x w sp sv bu bl le), (ov, .inl (ct 1, 1, .inr (.inl o)))]) (n := 2) [1, 0] rfl rfl (by decide))
    have hD : va_D A ([(ty_XO x w sp sv bu bl le), (ov, .inl (ct 1, 1, .inr (.inl o)))] ++ ws_3) := ty_permD hD (ty_ordp (E := [(ov, .inl (ct 1, 1, .inr (.inl o))), (ty_XO x w sp sv bu bl le)]) (E2 := [(ty_XO x w sp sv bu bl le), (ov, .inl (ct 1, 1, .inr (.inl o)))]) (n := 2) [1, 0] rfl rfl (by decide))
    exact W.iret (v := 1) hx hb hr (fun t ht hW => ⟨⟨1, (ws_3, o), rfl, hT, by rw [ht]; exact hP, by rw [hAe]; exact hD⟩, hS.F ht⟩) hS.2.2 dL_settledIn_14
  · obtain ⟨ws_4, rfl⟩ : ∃ z, z = u := ⟨_, rfl⟩
    have hT := hw_2
    have hP : va_P D vwCl ([(ov, .inl (ct 1, 1, .inr (.inl o))), (ty_XO x w sp sv bu bl le)] ++ ws_4) H := hP
    have hD : va_D A ([(ov, .inl (ct 1, 1, .inr (.inl o))), (ty_XO x w sp sv bu bl le)] ++ ws_4) := hD
    refine W.widen (k := 1) (n := 6) (Nat.le_of_ble_eq_true rfl) (Nat.le_of_ble_eq_true rfl) ?_
    refine lv_i2l hx hb dL_settledIn_7 rfl ?_
    refine lv_topl (fun x_5 _ => ?_)
    refine va_last hx hb hK hP hD hS 0 1 rfl rfl (cm_vin (by decide)) dL_settledIn_8 (fun H locs hP hD hS => ?_)
    have hP : va_P D vwCl ([(ov, .inl (ct 1, 1, .inr (.inl (vp_updL o (0 : Int32).toNatClampNeg x_5)))), (ty_XO x w sp sv bu bl le)] ++ ws_4) H := hP
    have hD : va_D A ([(ov, .inl (ct 1, 1, .inr (.inl (vp_updL o (0 : Int32).toNatClampNeg x_5)))), (ty_XO x w sp sv bu bl le)] ++ ws_4) := hD
    refine lv_goto (tgt := 15) hx hb dL_settledIn_9 (by decide) ?_
    refine lv_iconst (v := 0) hx hb dL_settledIn_15 (by decide) ?_
    have hP : va_P D vwCl ([(ty_XO x w sp sv bu bl le), (ov, .inl (ct 1, 1, .inr (.inl (vp_updL o (0 : Int32).toNatClampNeg x_5))))] ++ ws_4) H := ty_permP hP (ty_ordp (E := [(ov, .inl (ct 1, 1, .inr (.inl (vp_updL o (0 : Int32).toNatClampNeg x_5)))), (ty_XO x w sp sv bu bl le)]) (E2 := [(ty_XO x w sp sv bu bl le), (ov, .inl (ct 1, 1, .inr (.inl (vp_updL o (0 : Int32).toNatClampNeg x_5))))]) (n := 2) [1, 0] rfl rfl (by decide))
    have hD : va_D A ([(ty_XO x w sp sv bu bl le), (ov, .inl (ct 1, 1, .inr (.inl (vp_updL o (0 : Int32).toNatClampNeg x_5))))] ++ ws_4) := ty_permD hD (ty_ordp (E := [(ov, .inl (ct 1, 1, .inr (.inl (vp_updL o (0 : Int32).toNatClampNeg x_5)))), (ty_XO x w sp sv bu bl le)]) (E2 := [(ty_XO x w sp sv bu bl le), (ov, .inl (ct 1, 1, .inr (.inl (vp_updL o (0 : Int32).toNatClampNeg x_5))))]) (n := 2) [1, 0] rfl rfl (by decide))
    exact W.iret (v := 0) hx hb hr (fun t ht hW => ⟨⟨0, (ws_4, (vp_updL o (0 : Int32).toNatClampNeg x_5)), rfl, hT, by rw [ht]; exact hP, by rw [hAe]; exact hD⟩, hS.F ht⟩) hS.2.2 dL_settledIn_16
theorem dL_duration_0 : decode cL_duration 0 = .ok (.aload_n 3, 1) := by decide +kernel
theorem dL_duration_1 : decode cL_duration 1 = .ok (.iconst 0, 1) := by decide +kernel
theorem dL_duration_2 : decode cL_duration 2 = .ok (.aload_n 0, 1) := by decide +kernel
theorem dL_duration_3 : decode cL_duration 3 = .ok (.iload_n 1, 1) := by decide +kernel
theorem dL_duration_4 : decode cL_duration 4 = .ok (.iload_n 2, 1) := by decide +kernel
theorem dL_duration_5 : decode cL_duration 5 = .ok (.invokevirtual 154, 3) := by decide +kernel
theorem dL_duration_8 : decode cL_duration 8 = .ok (.i2l, 1) := by decide +kernel
theorem dL_duration_9 : decode cL_duration 9 = .ok (.lastore, 1) := by decide +kernel
theorem dL_duration_10 : decode cL_duration 10 = .ok (.goto 7, 3) := by decide +kernel
theorem dL_duration_13 : decode cL_duration 13 = .ok (.astore 4, 2) := by decide +kernel
theorem dL_duration_15 : decode cL_duration 15 = .ok (.iconst 1, 1) := by decide +kernel
theorem dL_duration_16 : decode cL_duration 16 = .ok (.ireturn, 1) := by decide +kernel
theorem dL_duration_17 : decode cL_duration 17 = .ok (.iconst 0, 1) := by decide +kernel
theorem dL_duration_18 : decode cL_duration 18 = .ok (.ireturn, 1) := by decide +kernel
set_option maxRecDepth 100000 in
set_option maxHeartbeats 4000000 in
theorem tl_duration (l : Launch) (hfl : l.stackTraces = false) (D : va_G) (ct : Nat → ClassId) (S : ty_S) (ws : va_W) (ph : va_W → Prop) (xx : Nat → Nat → Nat → Prop) (x : Nat) (w : Nat) (sp : Nat) (sv : Nat) (bu : Nat) (ns : Nat) (bl : Int32) (le : Int32) (p1 : Int32) (p2 : Int32) (ov : Nat) (o : Nat → Int64) (sz : Nat) (hT : ty_V ct S ph ws) (h_w : S w = some (.inl 9)) (h_sp : S sp = some (.inl 9)) (h_sv : S sv = some (.inr (4, ns))) (hph : ty_C ph xx) (hy1 : ty_y1 xx) (hy2 : ty_y0 xx 2) (hy5 : ty_y0 xx 5) (hy7 : ty_yc xx 7) (hy11 : ty_y0 xx 11) (hys : xx 9 0 sp ∧ xx 9 4 sp) : Met l yL_duration (wsw_ yL_duration cL_duration 5 (some .int) [(0, 10, 13, 32)]) ({ frames := 9, cells := 3, slots := 18, locals := 234 } : Room) (va_Pc [.ref x, .int p1, .int p2, .ref ov] (cmPn D ct sz ([(ty_XO x w sp sv bu bl le), (ov, .inl (ct 1, 1, .inr (.inl o)))] ++ ws))) (va_Qi (fun (r : Int32) (u : va_W × (Nat → Int64)) => match u with | (u9, o1) => ty_V ct S ph u9) (cmB D ([(ty_XO x w sp sv bu bl le), (ov, .inl (ct 1, 1, .inr (.inl o)))] ++ ws) sz (fun (u : va_W × (Nat → Int64)) => match u with | (u9, o1) => ([(ty_XO x w sp sv bu bl le), (ov, .inl (ct 1, 1, .inr (.inl o1)))] ++ u9))) (va_A ([(ty_XO x w sp sv bu bl le), (ov, .inl (ct 1, 1, .inr (.inl o)))] ++ ws) sz)) 3 18 (va_A ([(ty_XO x w sp sv bu bl le), (ov, .inl (ct 1, 1, .inr (.inl o)))] ++ ws) sz) := by
  refine va_MetW (cc := cL_duration) (maxL := 5) (ret := (some .int)) (hh := [(0, 10, 13, 32)]) (by decide) rfl ?_
  intro p e s m args below meth c s₁ B hml hv
  have hts0 := atoms_spec (ws := wsw_ yL_duration cL_duration 5 (some .int) [(0, 10, 13, 32)]) B.pre
  have hts : ∀ w ∈ cm_all, w.before args s = true := fun w h => hts0 w (List.mem_cons_of_mem _ h)
  obtain ⟨rfl, ⟨hsz, hP, hK, hD0, hX⟩, hNc⟩ := hv
  have hx := B.exec
  have hb := B.bytes
  have hr := B.returns
  have htab := vx_table (x := yL_duration) B (hts0 _ List.mem_cons_self)
  have hown : s.vm.findClass RL = some m.cls := findClass_of_methodNamed B.named
  have hlocks := B.notSynchronized
  subst hsz
  have hD := hD0.self (sz := s.heap.size)
  generalize hAe : va_A ([(ty_XO x w sp sv bu bl le), (ov, .inl (ct 1, 1, .inr (.inl o)))] ++ ws) s.heap.size = A at hD hX ⊢
  have hA : ∀ q : Nat, s.heap.size ≤ q → A q := fun q h => by rw [← hAe]; exact Or.inr h
  have hS : va_S A s.heap s.heap [] := va_S.rf
  have hl := lv_entry ([.ref x, .int p1, .int p2, .ref ov]) (n := 5) (Nat.le_of_ble_eq_true rfl)
  rw [lg_entry_eq]
  generalize (lg_sl ([.ref x, .int p1, .int p2, .ref ov]) ++ List.replicate (5 - (lg_sl ([.ref x, .int p1, .int p2, .ref ov])).length) Slot.unset).toArray = ls at hl ⊢
  have hl : lv_has ls 5 [(0, .ref x), (1, .int p1), (2, .int p2), (3, .ref ov)] := hl
  refine lv_aload_n hx hb dL_duration_0 rfl (lv_at hl 3 rfl) ?_
  refine lv_iconst (v := 0) hx hb dL_duration_1 (by decide) ?_
  refine lv_aload_n hx hb dL_duration_2 rfl (lv_at hl 0 rfl) ?_
  refine lv_iload_n hx hb dL_duration_3 rfl (lv_at hl 1 rfl) ?_
  refine lv_iload_n hx hb dL_duration_4 rfl (lv_at hl 2 rfl) ?_
  have hP : va_P D vwCl ([(ov, .inl (ct 1, 1, .inr (.inl o))), (ty_XO x w sp sv bu bl le)] ++ ws) s.heap := ty_permP hP (ty_ordp (E := [(ty_XO x w sp sv bu bl le), (ov, .inl (ct 1, 1, .inr (.inl o)))]) (E2 := [(ov, .inl (ct 1, 1, .inr (.inl o))), (ty_XO x w sp sv bu bl le)]) (n := 2) [1, 0] rfl rfl (by decide))
  have hD : va_D A ([(ov, .inl (ct 1, 1, .inr (.inl o))), (ty_XO x w sp sv bu bl le)] ++ ws) := ty_permD hD (ty_ordp (E := [(ty_XO x w sp sv bu bl le), (ov, .inl (ct 1, 1, .inr (.inl o)))]) (E2 := [(ov, .inl (ct 1, 1, .inr (.inl o))), (ty_XO x w sp sv bu bl le)]) (n := 2) [1, 0] rfl rfl (by decide))
  refine ty_xi (wr := [(ov, .inl (ct 1, 1, .inr (.inl o)))]) (wc := ([(ty_XO x w sp sv bu bl le)] ++ ws)) (vx_runV (As := [.int p1, .int p2]) (rest := [.int 0, .ref ov]) ⟨hx, hb, hml, hown, hts⟩ (t_X10_duration l hfl D ct S ws ph xx x w sp sv bu ns bl le p1 p2 _ hT h_w h_sp h_sv hph hy1 hy2 hy5 hy7 hy11 hys) (cm_V 2 hts kc_X10_duration ki_RX10 kl_RL_154 kv_X10_duration kx_X10_duration kd_X10_duration ⟨Nat.le_of_ble_eq_true rfl, Nat.le_of_ble_eq_true rfl⟩) (ty_preE (wr := [(ov, .inl (ct 1, 1, .inr (.inl o)))]) (wc := ([(ty_XO x w sp sv bu bl le)] ++ ws)) (ci := 10) (q0 := 1) hP hK hD hS hA hX rfl rfl) rfl rfl hl.1 rfl (lv_room (Nat.le_of_ble_eq_true rfl)) dL_duration_5 ⟨Nat.le_of_ble_eq_true rfl, Nat.le_of_ble_eq_true rfl⟩) hP hD hS hA (fun E ce q9 u H locs hu hE hP hD hS hce hcv hcl => ?_) (fun r_1 u H locs hw_2 hP hD hS => ?_)
  · obtain ⟨ws_3, rfl⟩ : ∃ z, z = u := ⟨_, rfl⟩
    have hT := hu
    have hP : va_P D vwCl ([(ov, .inl (ct 1, 1, .inr (.inl o))), (ty_XO x w sp sv bu bl le)] ++ ws_3) H := hP
    have hD : va_D A ([(ov, .inl (ct 1, 1, .inr (.inl o))), (ty_XO x w sp sv bu bl le)] ++ ws_3) := hD
    obtain rfl := List.mem_singleton.mp hE
    refine vx_catch (name := "java/lang/IndexOutOfBoundsException") hown [] _ _ htab (fun z hz => absurd hz List.not_mem_nil) (by decide) (by decide) (hts _ kl_RL_32) (hts _ kcast_IOE) hce hcv hcl ?_
    refine W.eq (g2 := F0 m 13 ls [.ref q9]) rfl ?_
    refine lv_astore (lv' := [(4, .ref q9), (0, .ref x), (1, .int p1), (2, .int p2), (3, .ref ov)]) hx hb dL_duration_13 hl (by decide) rfl (fun ls hl => ?_)
    refine lv_iconst (v := 1) hx hb dL_duration_15 (by decide) ?_
    have hP : va_P D vwCl ([(ty_XO x w sp sv bu bl le), (ov, .inl (ct 1, 1, .inr (.inl o)))] ++ ws_3) H := ty_permP hP (ty_ordp (E := [(ov, .inl (ct 1, 1, .inr (.inl o))), (ty_XO x w sp sv bu bl le)]) (E2 := [(ty_XO x w sp sv bu bl le), (ov, .inl (ct 1, 1, .inr (.inl o)))]) (n := 2) [1, 0] rfl rfl (by decide))
    have hD : va_D A ([(ty_XO x w sp sv bu bl le), (ov, .inl (ct 1, 1, .inr (.inl o)))] ++ ws_3) := ty_permD hD (ty_ordp (E := [(ov, .inl (ct 1, 1, .inr (.inl o))), (ty_XO x w sp sv bu bl le)]) (E2 := [(ty_XO x w sp sv bu bl le), (ov, .inl (ct 1, 1, .inr (.inl o)))]) (n := 2) [1, 0] rfl rfl (by decide))
    exact W.iret (v := 1) hx hb hr (fun t ht hW => ⟨⟨1, (ws_3, o), rfl, hT, by rw [ht]; exact hP, by rw [hAe]; exact hD⟩, hS.F ht⟩) hS.2.2 dL_duration_16
  · obtain ⟨ws_4, rfl⟩ : ∃ z, z = u := ⟨_, rfl⟩
    have hT := hw_2
    have hP : va_P D vwCl ([(ov, .inl (ct 1, 1, .inr (.inl o))), (ty_XO x w sp sv bu bl le)] ++ ws_4) H := hP
    have hD : va_D A ([(ov, .inl (ct 1, 1, .inr (.inl o))), (ty_XO x w sp sv bu bl le)] ++ ws_4) := hD
    refine W.widen (k := 3) (n := 18) (Nat.le_of_ble_eq_true rfl) (Nat.le_of_ble_eq_true rfl) ?_
    refine lv_i2l hx hb dL_duration_8 rfl ?_
    refine lv_topl (fun x_5 _ => ?_)
    refine va_last hx hb hK hP hD hS 0 1 rfl rfl (cm_vin (by decide)) dL_duration_9 (fun H locs hP hD hS => ?_)
    have hP : va_P D vwCl ([(ov, .inl (ct 1, 1, .inr (.inl (vp_updL o (0 : Int32).toNatClampNeg x_5)))), (ty_XO x w sp sv bu bl le)] ++ ws_4) H := hP
    have hD : va_D A ([(ov, .inl (ct 1, 1, .inr (.inl (vp_updL o (0 : Int32).toNatClampNeg x_5)))), (ty_XO x w sp sv bu bl le)] ++ ws_4) := hD
    refine lv_goto (tgt := 17) hx hb dL_duration_10 (by decide) ?_
    refine lv_iconst (v := 0) hx hb dL_duration_17 (by decide) ?_
    have hP : va_P D vwCl ([(ty_XO x w sp sv bu bl le), (ov, .inl (ct 1, 1, .inr (.inl (vp_updL o (0 : Int32).toNatClampNeg x_5))))] ++ ws_4) H := ty_permP hP (ty_ordp (E := [(ov, .inl (ct 1, 1, .inr (.inl (vp_updL o (0 : Int32).toNatClampNeg x_5)))), (ty_XO x w sp sv bu bl le)]) (E2 := [(ty_XO x w sp sv bu bl le), (ov, .inl (ct 1, 1, .inr (.inl (vp_updL o (0 : Int32).toNatClampNeg x_5))))]) (n := 2) [1, 0] rfl rfl (by decide))
    have hD : va_D A ([(ty_XO x w sp sv bu bl le), (ov, .inl (ct 1, 1, .inr (.inl (vp_updL o (0 : Int32).toNatClampNeg x_5))))] ++ ws_4) := ty_permD hD (ty_ordp (E := [(ov, .inl (ct 1, 1, .inr (.inl (vp_updL o (0 : Int32).toNatClampNeg x_5)))), (ty_XO x w sp sv bu bl le)]) (E2 := [(ty_XO x w sp sv bu bl le), (ov, .inl (ct 1, 1, .inr (.inl (vp_updL o (0 : Int32).toNatClampNeg x_5))))]) (n := 2) [1, 0] rfl rfl (by decide))
    exact W.iret (v := 0) hx hb hr (fun t ht hW => ⟨⟨0, (ws_4, (vp_updL o (0 : Int32).toNatClampNeg x_5)), rfl, hT, by rw [ht]; exact hP, by rw [hAe]; exact hD⟩, hS.F ht⟩) hS.2.2 dL_duration_18
theorem dL_shortest_0 : decode cL_shortest 0 = .ok (.aload_n 2, 1) := by decide +kernel
theorem dL_shortest_1 : decode cL_shortest 1 = .ok (.iconst 0, 1) := by decide +kernel
theorem dL_shortest_2 : decode cL_shortest 2 = .ok (.aload_n 0, 1) := by decide +kernel
theorem dL_shortest_3 : decode cL_shortest 3 = .ok (.iload_n 1, 1) := by decide +kernel
theorem dL_shortest_4 : decode cL_shortest 4 = .ok (.invokevirtual 157, 3) := by decide +kernel
theorem dL_shortest_7 : decode cL_shortest 7 = .ok (.i2l, 1) := by decide +kernel
theorem dL_shortest_8 : decode cL_shortest 8 = .ok (.lastore, 1) := by decide +kernel
theorem dL_shortest_9 : decode cL_shortest 9 = .ok (.goto 6, 3) := by decide +kernel
theorem dL_shortest_12 : decode cL_shortest 12 = .ok (.astore_n 3, 1) := by decide +kernel
theorem dL_shortest_13 : decode cL_shortest 13 = .ok (.iconst 1, 1) := by decide +kernel
theorem dL_shortest_14 : decode cL_shortest 14 = .ok (.ireturn, 1) := by decide +kernel
theorem dL_shortest_15 : decode cL_shortest 15 = .ok (.iconst 0, 1) := by decide +kernel
theorem dL_shortest_16 : decode cL_shortest 16 = .ok (.ireturn, 1) := by decide +kernel
set_option maxRecDepth 100000 in
set_option maxHeartbeats 4000000 in
theorem tl_shortest (l : Launch) (hfl : l.stackTraces = false) (D : va_G) (ct : Nat → ClassId) (S : ty_S) (ws : va_W) (ph : va_W → Prop) (xx : Nat → Nat → Nat → Prop) (x : Nat) (w : Nat) (sp : Nat) (sv : Nat) (bu : Nat) (ns : Nat) (bl : Int32) (le : Int32) (p1 : Int32) (ov : Nat) (o : Nat → Int64) (sz : Nat) (hT : ty_V ct S ph ws) (h_w : S w = some (.inl 9)) (h_sp : S sp = some (.inl 9)) (h_sv : S sv = some (.inr (4, ns))) (hph : ty_C ph xx) (hy1 : ty_y1 xx) (hy2 : ty_y0 xx 2) (hy5 : ty_y0 xx 5) (hy7 : ty_yc xx 7) (hy11 : ty_y0 xx 11) (hys : xx 9 0 sp ∧ xx 9 4 sp) : Met l yL_shortest (wsw_ yL_shortest cL_shortest 4 (some .int) [(0, 9, 12, 32)]) ({ frames := 9, cells := 5, slots := 30, locals := 237 } : Room) (va_Pc [.ref x, .int p1, .ref ov] (cmPn D ct sz ([(ty_XO x w sp sv bu bl le), (ov, .inl (ct 1, 1, .inr (.inl o)))] ++ ws))) (va_Qi (fun (r : Int32) (u : va_W × (Nat → Int64)) => match u with | (u9, o1) => ty_V ct S ph u9) (cmB D ([(ty_XO x w sp sv bu bl le), (ov, .inl (ct 1, 1, .inr (.inl o)))] ++ ws) sz (fun (u : va_W × (Nat → Int64)) => match u with | (u9, o1) => ([(ty_XO x w sp sv bu bl le), (ov, .inl (ct 1, 1, .inr (.inl o1)))] ++ u9))) (va_A ([(ty_XO x w sp sv bu bl le), (ov, .inl (ct 1, 1, .inr (.inl o)))] ++ ws) sz)) 5 30 (va_A ([(ty_XO x w sp sv bu bl le), (ov, .inl (ct 1, 1, .inr (.inl o)))] ++ ws) sz) := by
  refine va_MetW (cc := cL_shortest) (maxL := 4) (ret := (some .int)) (hh := [(0, 9, 12, 32)]) (by decide) rfl ?_
  intro p e s m args below meth c s₁ B hml hv
  have hts0 := atoms_spec (ws := wsw_ yL_shortest cL_shortest 4 (some .int) [(0, 9, 12, 32)]) B.pre
  have hts : ∀ w ∈ cm_all, w.before args s = true := fun w h => hts0 w (List.mem_cons_of_mem _ h)
  obtain ⟨rfl, ⟨hsz, hP, hK, hD0, hX⟩, hNc⟩ := hv
  have hx := B.exec
  have hb := B.bytes
  have hr := B.returns
  have htab := vx_table (x := yL_shortest) B (hts0 _ List.mem_cons_self)
  have hown : s.vm.findClass RL = some m.cls := findClass_of_methodNamed B.named
  have hlocks := B.notSynchronized
  subst hsz
  have hD := hD0.self (sz := s.heap.size)
  generalize hAe : va_A ([(ty_XO x w sp sv bu bl le), (ov, .inl (ct 1, 1, .inr (.inl o)))] ++ ws) s.heap.size = A at hD hX ⊢
  have hA : ∀ q : Nat, s.heap.size ≤ q → A q := fun q h => by rw [← hAe]; exact Or.inr h
  have hS : va_S A s.heap s.heap [] := va_S.rf
  have hl := lv_entry ([.ref x, .int p1, .ref ov]) (n := 4) (Nat.le_of_ble_eq_true rfl)
  rw [lg_entry_eq]
  generalize (lg_sl ([.ref x, .int p1, .ref ov]) ++ List.replicate (4 - (lg_sl ([.ref x, .int p1, .ref ov])).length) Slot.unset).toArray = ls at hl ⊢
  have hl : lv_has ls 4 [(0, .ref x), (1, .int p1), (2, .ref ov)] := hl
  refine lv_aload_n hx hb dL_shortest_0 rfl (lv_at hl 2 rfl) ?_
  refine lv_iconst (v := 0) hx hb dL_shortest_1 (by decide) ?_
  refine lv_aload_n hx hb dL_shortest_2 rfl (lv_at hl 0 rfl) ?_
  refine lv_iload_n hx hb dL_shortest_3 rfl (lv_at hl 1 rfl) ?_
  have hP : va_P D vwCl ([(ov, .inl (ct 1, 1, .inr (.inl o))), (ty_XO x w sp sv bu bl le)] ++ ws) s.heap := ty_permP hP (ty_ordp (E := [(ty_XO x w sp sv bu bl le), (ov, .inl (ct 1, 1, .inr (.inl o)))]) (E2 := [(ov, .inl (ct 1, 1, .inr (.inl o))), (ty_XO x w sp sv bu bl le)]) (n := 2) [1, 0] rfl rfl (by decide))
  have hD : va_D A ([(ov, .inl (ct 1, 1, .inr (.inl o))), (ty_XO x w sp sv bu bl le)] ++ ws) := ty_permD hD (ty_ordp (E := [(ty_XO x w sp sv bu bl le), (ov, .inl (ct 1, 1, .inr (.inl o)))]) (E2 := [(ov, .inl (ct 1, 1, .inr (.inl o))), (ty_XO x w sp sv bu bl le)]) (n := 2) [1, 0] rfl rfl (by decide))
  refine ty_xi (wr := [(ov, .inl (ct 1, 1, .inr (.inl o)))]) (wc := ([(ty_XO x w sp sv bu bl le)] ++ ws)) (vx_runV (As := [.int p1]) (rest := [.int 0, .ref ov]) ⟨hx, hb, hml, hown, hts⟩ (t_X10_shortest l hfl D ct S ws ph xx x w sp sv bu ns bl le p1 _ hT h_w h_sp h_sv hph hy1 hy2 hy5 hy7 hy11 hys) (cm_V 1 hts kc_X10_shortest ki_RX10 kl_RL_157 kv_X10_shortest kx_X10_shortest kd_X10_shortest ⟨Nat.le_of_ble_eq_true rfl, Nat.le_of_ble_eq_true rfl⟩) (ty_preE (wr := [(ov, .inl (ct 1, 1, .inr (.inl o)))]) (wc := ([(ty_XO x w sp sv bu bl le)] ++ ws)) (ci := 10) (q0 := 1) hP hK hD hS hA hX rfl rfl) rfl rfl hl.1 rfl (lv_room (Nat.le_of_ble_eq_true rfl)) dL_shortest_4 ⟨Nat.le_of_ble_eq_true rfl, Nat.le_of_ble_eq_true rfl⟩) hP hD hS hA (fun E ce q9 u H locs hu hE hP hD hS hce hcv hcl => ?_) (fun r_1 u H locs hw_2 hP hD hS => ?_)
  · obtain ⟨ws_3, rfl⟩ : ∃ z, z = u := ⟨_, rfl⟩
    have hT := hu
    have hP : va_P D vwCl ([(ov, .inl (ct 1, 1, .inr (.inl o))), (ty_XO x w sp sv bu bl le)] ++ ws_3) H := hP
    have hD : va_D A ([(ov, .inl (ct 1, 1, .inr (.inl o))), (ty_XO x w sp sv bu bl le)] ++ ws_3) := hD
    obtain rfl := List.mem_singleton.mp hE
    refine vx_catch (name := "java/lang/IndexOutOfBoundsException") hown [] _ _ htab (fun z hz => absurd hz List.not_mem_nil) (by decide) (by decide) (hts _ kl_RL_32) (hts _ kcast_IOE) hce hcv hcl ?_
    refine W.eq (g2 := F0 m 12 ls [.ref q9]) rfl ?_
    refine lv_astore_n (lv' := [(3, .ref q9), (0, .ref x), (1, .int p1), (2, .ref ov)]) hx hb dL_shortest_12 rfl hl (by decide) rfl (fun ls hl => ?_)
    refine lv_iconst (v := 1) hx hb dL_shortest_13 (by decide) ?_
    have hP : va_P D vwCl ([(ty_XO x w sp sv bu bl le), (ov, .inl (ct 1, 1, .inr (.inl o)))] ++ ws_3) H := ty_permP hP (ty_ordp (E := [(ov, .inl (ct 1, 1, .inr (.inl o))), (ty_XO x w sp sv bu bl le)]) (E2 := [(ty_XO x w sp sv bu bl le), (ov, .inl (ct 1, 1, .inr (.inl o)))]) (n := 2) [1, 0] rfl rfl (by decide))
    have hD : va_D A ([(ty_XO x w sp sv bu bl le), (ov, .inl (ct 1, 1, .inr (.inl o)))] ++ ws_3) := ty_permD hD (ty_ordp (E := [(ov, .inl (ct 1, 1, .inr (.inl o))), (ty_XO x w sp sv bu bl le)]) (E2 := [(ty_XO x w sp sv bu bl le), (ov, .inl (ct 1, 1, .inr (.inl o)))]) (n := 2) [1, 0] rfl rfl (by decide))
    exact W.iret (v := 1) hx hb hr (fun t ht hW => ⟨⟨1, (ws_3, o), rfl, hT, by rw [ht]; exact hP, by rw [hAe]; exact hD⟩, hS.F ht⟩) hS.2.2 dL_shortest_14
  · obtain ⟨ws_4, rfl⟩ : ∃ z, z = u := ⟨_, rfl⟩
    have hT := hw_2
    have hP : va_P D vwCl ([(ov, .inl (ct 1, 1, .inr (.inl o))), (ty_XO x w sp sv bu bl le)] ++ ws_4) H := hP
    have hD : va_D A ([(ov, .inl (ct 1, 1, .inr (.inl o))), (ty_XO x w sp sv bu bl le)] ++ ws_4) := hD
    refine W.widen (k := 5) (n := 30) (Nat.le_of_ble_eq_true rfl) (Nat.le_of_ble_eq_true rfl) ?_
    refine lv_i2l hx hb dL_shortest_7 rfl ?_
    refine lv_topl (fun x_5 _ => ?_)
    refine va_last hx hb hK hP hD hS 0 1 rfl rfl (cm_vin (by decide)) dL_shortest_8 (fun H locs hP hD hS => ?_)
    have hP : va_P D vwCl ([(ov, .inl (ct 1, 1, .inr (.inl (vp_updL o (0 : Int32).toNatClampNeg x_5)))), (ty_XO x w sp sv bu bl le)] ++ ws_4) H := hP
    have hD : va_D A ([(ov, .inl (ct 1, 1, .inr (.inl (vp_updL o (0 : Int32).toNatClampNeg x_5)))), (ty_XO x w sp sv bu bl le)] ++ ws_4) := hD
    refine lv_goto (tgt := 15) hx hb dL_shortest_9 (by decide) ?_
    refine lv_iconst (v := 0) hx hb dL_shortest_15 (by decide) ?_
    have hP : va_P D vwCl ([(ty_XO x w sp sv bu bl le), (ov, .inl (ct 1, 1, .inr (.inl (vp_updL o (0 : Int32).toNatClampNeg x_5))))] ++ ws_4) H := ty_permP hP (ty_ordp (E := [(ov, .inl (ct 1, 1, .inr (.inl (vp_updL o (0 : Int32).toNatClampNeg x_5)))), (ty_XO x w sp sv bu bl le)]) (E2 := [(ty_XO x w sp sv bu bl le), (ov, .inl (ct 1, 1, .inr (.inl (vp_updL o (0 : Int32).toNatClampNeg x_5))))]) (n := 2) [1, 0] rfl rfl (by decide))
    have hD : va_D A ([(ty_XO x w sp sv bu bl le), (ov, .inl (ct 1, 1, .inr (.inl (vp_updL o (0 : Int32).toNatClampNeg x_5))))] ++ ws_4) := ty_permD hD (ty_ordp (E := [(ov, .inl (ct 1, 1, .inr (.inl (vp_updL o (0 : Int32).toNatClampNeg x_5)))), (ty_XO x w sp sv bu bl le)]) (E2 := [(ty_XO x w sp sv bu bl le), (ov, .inl (ct 1, 1, .inr (.inl (vp_updL o (0 : Int32).toNatClampNeg x_5))))]) (n := 2) [1, 0] rfl rfl (by decide))
    exact W.iret (v := 0) hx hb hr (fun t ht hW => ⟨⟨0, (ws_4, (vp_updL o (0 : Int32).toNatClampNeg x_5)), rfl, hT, by rw [ht]; exact hP, by rw [hAe]; exact hD⟩, hS.F ht⟩) hS.2.2 dL_shortest_16
theorem dL_capacityIf_0 : decode cL_capacityIf 0 = .ok (.aload_n 3, 1) := by decide +kernel
theorem dL_capacityIf_1 : decode cL_capacityIf 1 = .ok (.iconst 0, 1) := by decide +kernel
theorem dL_capacityIf_2 : decode cL_capacityIf 2 = .ok (.aload_n 0, 1) := by decide +kernel
theorem dL_capacityIf_3 : decode cL_capacityIf 3 = .ok (.iload_n 1, 1) := by decide +kernel
theorem dL_capacityIf_4 : decode cL_capacityIf 4 = .ok (.iload_n 2, 1) := by decide +kernel
theorem dL_capacityIf_5 : decode cL_capacityIf 5 = .ok (.invokevirtual 160, 3) := by decide +kernel
theorem dL_capacityIf_8 : decode cL_capacityIf 8 = .ok (.i2l, 1) := by decide +kernel
theorem dL_capacityIf_9 : decode cL_capacityIf 9 = .ok (.lastore, 1) := by decide +kernel
theorem dL_capacityIf_10 : decode cL_capacityIf 10 = .ok (.goto 7, 3) := by decide +kernel
theorem dL_capacityIf_13 : decode cL_capacityIf 13 = .ok (.astore 4, 2) := by decide +kernel
theorem dL_capacityIf_15 : decode cL_capacityIf 15 = .ok (.iconst 1, 1) := by decide +kernel
theorem dL_capacityIf_16 : decode cL_capacityIf 16 = .ok (.ireturn, 1) := by decide +kernel
theorem dL_capacityIf_17 : decode cL_capacityIf 17 = .ok (.iconst 0, 1) := by decide +kernel
theorem dL_capacityIf_18 : decode cL_capacityIf 18 = .ok (.ireturn, 1) := by decide +kernel
set_option maxRecDepth 100000 in
set_option maxHeartbeats 4000000 in
theorem tl_capacityIf (l : Launch) (hfl : l.stackTraces = false) (D : va_G) (ct : Nat → ClassId) (S : ty_S) (ws : va_W) (ph : va_W → Prop) (xx : Nat → Nat → Nat → Prop) (x : Nat) (w : Nat) (sp : Nat) (sv : Nat) (bu : Nat) (ns : Nat) (bl : Int32) (le : Int32) (p1 : Int32) (p2 : Int32) (ov : Nat) (o : Nat → Int64) (sz : Nat) (hT : ty_V ct S ph ws) (h_w : S w = some (.inl 9)) (h_sp : S sp = some (.inl 9)) (h_sv : S sv = some (.inr (4, ns))) (hph : ty_C ph xx) (hy1 : ty_y1 xx) (hy2 : ty_y0 xx 2) (hy5 : ty_y0 xx 5) (hy7 : ty_yc xx 7) (hy11 : ty_y0 xx 11) (hys : xx 9 0 sp ∧ xx 9 4 sp) : Met l yL_capacityIf (wsw_ yL_capacityIf cL_capacityIf 5 (some .int) [(0, 10, 13, 32)]) ({ frames := 9, cells := 3, slots := 18, locals := 235 } : Room) (va_Pc [.ref x, .int p1, .int p2, .ref ov] (cmPn D ct sz ([(ty_XO x w sp sv bu bl le), (ov, .inl (ct 1, 1, .inr (.inl o)))] ++ ws))) (va_Qi (fun (r : Int32) (u : va_W × (Nat → Int64)) => match u with | (u9, o1) => ty_V ct S ph u9) (cmB D ([(ty_XO x w sp sv bu bl le), (ov, .inl (ct 1, 1, .inr (.inl o)))] ++ ws) sz (fun (u : va_W × (Nat → Int64)) => match u with | (u9, o1) => ([(ty_XO x w sp sv bu bl le), (ov, .inl (ct 1, 1, .inr (.inl o1)))] ++ u9))) (va_A ([(ty_XO x w sp sv bu bl le), (ov, .inl (ct 1, 1, .inr (.inl o)))] ++ ws) sz)) 3 18 (va_A ([(ty_XO x w sp sv bu bl le), (ov, .inl (ct 1, 1, .inr (.inl o)))] ++ ws) sz) := by
  refine va_MetW (cc := cL_capacityIf) (maxL := 5) (ret := (some .int)) (hh := [(0, 10, 13, 32)]) (by decide) rfl ?_
  intro p e s m args below meth c s₁ B hml hv
  have hts0 := atoms_spec (ws := wsw_ yL_capacityIf cL_capacityIf 5 (some .int) [(0, 10, 13, 32)]) B.pre
  have hts : ∀ w ∈ cm_all, w.before args s = true := fun w h => hts0 w (List.mem_cons_of_mem _ h)
  obtain ⟨rfl, ⟨hsz, hP, hK, hD0, hX⟩, hNc⟩ := hv
  have hx := B.exec
  have hb := B.bytes
  have hr := B.returns
  have htab := vx_table (x := yL_capacityIf) B (hts0 _ List.mem_cons_self)
  have hown : s.vm.findClass RL = some m.cls := findClass_of_methodNamed B.named
  have hlocks := B.notSynchronized
  subst hsz
  have hD := hD0.self (sz := s.heap.size)
  generalize hAe : va_A ([(ty_XO x w sp sv bu bl le), (ov, .inl (ct 1, 1, .inr (.inl o)))] ++ ws) s.heap.size = A at hD hX ⊢
  have hA : ∀ q : Nat, s.heap.size ≤ q → A q := fun q h => by rw [← hAe]; exact Or.inr h
  have hS : va_S A s.heap s.heap [] := va_S.rf
  have hl := lv_entry ([.ref x, .int p1, .int p2, .ref ov]) (n := 5) (Nat.le_of_ble_eq_true rfl)
  rw [lg_entry_eq]
  generalize (lg_sl ([.ref x, .int p1, .int p2, .ref ov]) ++ List.replicate (5 - (lg_sl ([.ref x, .int p1, .int p2, .ref ov])).length) Slot.unset).toArray = ls at hl ⊢
  have hl : lv_has ls 5 [(0, .ref x), (1, .int p1), (2, .int p2), (3, .ref ov)] := hl
  refine lv_aload_n hx hb dL_capacityIf_0 rfl (lv_at hl 3 rfl) ?_
  refine lv_iconst (v := 0) hx hb dL_capacityIf_1 (by decide) ?_
  refine lv_aload_n hx hb dL_capacityIf_2 rfl (lv_at hl 0 rfl) ?_
  refine lv_iload_n hx hb dL_capacityIf_3 rfl (lv_at hl 1 rfl) ?_
  refine lv_iload_n hx hb dL_capacityIf_4 rfl (lv_at hl 2 rfl) ?_
  have hP : va_P D vwCl ([(ov, .inl (ct 1, 1, .inr (.inl o))), (ty_XO x w sp sv bu bl le)] ++ ws) s.heap := ty_permP hP (ty_ordp (E := [(ty_XO x w sp sv bu bl le), (ov, .inl (ct 1, 1, .inr (.inl o)))]) (E2 := [(ov, .inl (ct 1, 1, .inr (.inl o))), (ty_XO x w sp sv bu bl le)]) (n := 2) [1, 0] rfl rfl (by decide))
  have hD : va_D A ([(ov, .inl (ct 1, 1, .inr (.inl o))), (ty_XO x w sp sv bu bl le)] ++ ws) := ty_permD hD (ty_ordp (E := [(ty_XO x w sp sv bu bl le), (ov, .inl (ct 1, 1, .inr (.inl o)))]) (E2 := [(ov, .inl (ct 1, 1, .inr (.inl o))), (ty_XO x w sp sv bu bl le)]) (n := 2) [1, 0] rfl rfl (by decide))
  refine ty_xi (wr := [(ov, .inl (ct 1, 1, .inr (.inl o)))]) (wc := ([(ty_XO x w sp sv bu bl le)] ++ ws)) (vx_runV (As := [.int p1, .int p2]) (rest := [.int 0, .ref ov]) ⟨hx, hb, hml, hown, hts⟩ (t_X10_capacityIf l hfl D ct S ws ph xx x w sp sv bu ns bl le p1 p2 _ hT h_w h_sp h_sv hph hy1 hy2 hy5 hy7 hy11 hys) (cm_V 2 hts kc_X10_capacityIf ki_RX10 kl_RL_160 kv_X10_capacityIf kx_X10_capacityIf kd_X10_capacityIf ⟨Nat.le_of_ble_eq_true rfl, Nat.le_of_ble_eq_true rfl⟩) (ty_preE (wr := [(ov, .inl (ct 1, 1, .inr (.inl o)))]) (wc := ([(ty_XO x w sp sv bu bl le)] ++ ws)) (ci := 10) (q0 := 1) hP hK hD hS hA hX rfl rfl) rfl rfl hl.1 rfl (lv_room (Nat.le_of_ble_eq_true rfl)) dL_capacityIf_5 ⟨Nat.le_of_ble_eq_true rfl, Nat.le_of_ble_eq_true rfl⟩) hP hD hS hA (fun E ce q9 u H locs hu hE hP hD hS hce hcv hcl => ?_) (fun r_1 u H locs hw_2 hP hD hS => ?_)
  · obtain ⟨ws_3, rfl⟩ : ∃ z, z = u := ⟨_, rfl⟩
    have hT := hu
    have hP : va_P D vwCl ([(ov, .inl (ct 1, 1, .inr (.inl o))), (ty_XO x w sp sv bu bl le)] ++ ws_3) H := hP
    have hD : va_D A ([(ov, .inl (ct 1, 1, .inr (.inl o))), (ty_XO x w sp sv bu bl le)] ++ ws_3) := hD
    obtain rfl := List.mem_singleton.mp hE
    refine vx_catch (name := "java/lang/IndexOutOfBoundsException") hown [] _ _ htab (fun z hz => absurd hz List.not_mem_nil) (by decide) (by decide) (hts _ kl_RL_32) (hts _ kcast_IOE) hce hcv hcl ?_
    refine W.eq (g2 := F0 m 13 ls [.ref q9]) rfl ?_
    refine lv_astore (lv' := [(4, .ref q9), (0, .ref x), (1, .int p1), (2, .int p2), (3, .ref ov)]) hx hb dL_capacityIf_13 hl (by decide) rfl (fun ls hl => ?_)
    refine lv_iconst (v := 1) hx hb dL_capacityIf_15 (by decide) ?_
    have hP : va_P D vwCl ([(ty_XO x w sp sv bu bl le), (ov, .inl (ct 1, 1, .inr (.inl o)))] ++ ws_3) H := ty_permP hP (ty_ordp (E := [(ov, .inl (ct 1, 1, .inr (.inl o))), (ty_XO x w sp sv bu bl le)]) (E2 := [(ty_XO x w sp sv bu bl le), (ov, .inl (ct 1, 1, .inr (.inl o)))]) (n := 2) [1, 0] rfl rfl (by decide))
    have hD : va_D A ([(ty_XO x w sp sv bu bl le), (ov, .inl (ct 1, 1, .inr (.inl o)))] ++ ws_3) := ty_permD hD (ty_ordp (E := [(ov, .inl (ct 1, 1, .inr (.inl o))), (ty_XO x w sp sv bu bl le)]) (E2 := [(ty_XO x w sp sv bu bl le), (ov, .inl (ct 1, 1, .inr (.inl o)))]) (n := 2) [1, 0] rfl rfl (by decide))
    exact W.iret (v := 1) hx hb hr (fun t ht hW => ⟨⟨1, (ws_3, o), rfl, hT, by rw [ht]; exact hP, by rw [hAe]; exact hD⟩, hS.F ht⟩) hS.2.2 dL_capacityIf_16
  · obtain ⟨ws_4, rfl⟩ : ∃ z, z = u := ⟨_, rfl⟩
    have hT := hw_2
    have hP : va_P D vwCl ([(ov, .inl (ct 1, 1, .inr (.inl o))), (ty_XO x w sp sv bu bl le)] ++ ws_4) H := hP
    have hD : va_D A ([(ov, .inl (ct 1, 1, .inr (.inl o))), (ty_XO x w sp sv bu bl le)] ++ ws_4) := hD
    refine W.widen (k := 3) (n := 18) (Nat.le_of_ble_eq_true rfl) (Nat.le_of_ble_eq_true rfl) ?_
    refine lv_i2l hx hb dL_capacityIf_8 rfl ?_
    refine lv_topl (fun x_5 _ => ?_)
    refine va_last hx hb hK hP hD hS 0 1 rfl rfl (cm_vin (by decide)) dL_capacityIf_9 (fun H locs hP hD hS => ?_)
    have hP : va_P D vwCl ([(ov, .inl (ct 1, 1, .inr (.inl (vp_updL o (0 : Int32).toNatClampNeg x_5)))), (ty_XO x w sp sv bu bl le)] ++ ws_4) H := hP
    have hD : va_D A ([(ov, .inl (ct 1, 1, .inr (.inl (vp_updL o (0 : Int32).toNatClampNeg x_5)))), (ty_XO x w sp sv bu bl le)] ++ ws_4) := hD
    refine lv_goto (tgt := 17) hx hb dL_capacityIf_10 (by decide) ?_
    refine lv_iconst (v := 0) hx hb dL_capacityIf_17 (by decide) ?_
    have hP : va_P D vwCl ([(ty_XO x w sp sv bu bl le), (ov, .inl (ct 1, 1, .inr (.inl (vp_updL o (0 : Int32).toNatClampNeg x_5))))] ++ ws_4) H := ty_permP hP (ty_ordp (E := [(ov, .inl (ct 1, 1, .inr (.inl (vp_updL o (0 : Int32).toNatClampNeg x_5)))), (ty_XO x w sp sv bu bl le)]) (E2 := [(ty_XO x w sp sv bu bl le), (ov, .inl (ct 1, 1, .inr (.inl (vp_updL o (0 : Int32).toNatClampNeg x_5))))]) (n := 2) [1, 0] rfl rfl (by decide))
    have hD : va_D A ([(ty_XO x w sp sv bu bl le), (ov, .inl (ct 1, 1, .inr (.inl (vp_updL o (0 : Int32).toNatClampNeg x_5))))] ++ ws_4) := ty_permD hD (ty_ordp (E := [(ov, .inl (ct 1, 1, .inr (.inl (vp_updL o (0 : Int32).toNatClampNeg x_5)))), (ty_XO x w sp sv bu bl le)]) (E2 := [(ty_XO x w sp sv bu bl le), (ov, .inl (ct 1, 1, .inr (.inl (vp_updL o (0 : Int32).toNatClampNeg x_5))))]) (n := 2) [1, 0] rfl rfl (by decide))
    exact W.iret (v := 0) hx hb hr (fun t ht hW => ⟨⟨0, (ws_4, (vp_updL o (0 : Int32).toNatClampNeg x_5)), rfl, hT, by rw [ht]; exact hP, by rw [hAe]; exact hD⟩, hS.F ht⟩) hS.2.2 dL_capacityIf_18
theorem dL_safeCurrent_0 : decode cL_safeCurrent 0 = .ok (.aload_n 3, 1) := by decide +kernel
theorem dL_safeCurrent_1 : decode cL_safeCurrent 1 = .ok (.iconst 0, 1) := by decide +kernel
theorem dL_safeCurrent_2 : decode cL_safeCurrent 2 = .ok (.aload_n 0, 1) := by decide +kernel
theorem dL_safeCurrent_3 : decode cL_safeCurrent 3 = .ok (.iload_n 1, 1) := by decide +kernel
theorem dL_safeCurrent_4 : decode cL_safeCurrent 4 = .ok (.iload_n 2, 1) := by decide +kernel
theorem dL_safeCurrent_5 : decode cL_safeCurrent 5 = .ok (.invokevirtual 163, 3) := by decide +kernel
theorem dL_safeCurrent_8 : decode cL_safeCurrent 8 = .ok (.i2l, 1) := by decide +kernel
theorem dL_safeCurrent_9 : decode cL_safeCurrent 9 = .ok (.lastore, 1) := by decide +kernel
theorem dL_safeCurrent_10 : decode cL_safeCurrent 10 = .ok (.goto 11, 3) := by decide +kernel
theorem dL_safeCurrent_13 : decode cL_safeCurrent 13 = .ok (.astore 4, 2) := by decide +kernel
theorem dL_safeCurrent_15 : decode cL_safeCurrent 15 = .ok (.iconst 1, 1) := by decide +kernel
theorem dL_safeCurrent_16 : decode cL_safeCurrent 16 = .ok (.ireturn, 1) := by decide +kernel
theorem dL_safeCurrent_17 : decode cL_safeCurrent 17 = .ok (.astore 4, 2) := by decide +kernel
theorem dL_safeCurrent_19 : decode cL_safeCurrent 19 = .ok (.iconst 2, 1) := by decide +kernel
theorem dL_safeCurrent_20 : decode cL_safeCurrent 20 = .ok (.ireturn, 1) := by decide +kernel
theorem dL_safeCurrent_21 : decode cL_safeCurrent 21 = .ok (.iconst 0, 1) := by decide +kernel
theorem dL_safeCurrent_22 : decode cL_safeCurrent 22 = .ok (.ireturn, 1) := by decide +kernel
set_option maxRecDepth 100000 in
set_option maxHeartbeats 4000000 in
theorem tl_safeCurrent (l : Launch) (hfl : l.stackTraces = false) (D : va_G) (ct : Nat → ClassId) (S : ty_S) (ws : va_W) (ph : va_W → Prop) (xx : Nat → Nat → Nat → Prop) (x : Nat) (w : Nat) (sp : Nat) (sv : Nat) (bu : Nat) (ns : Nat) (bl : Int32) (le : Int32) (p1 : Int32) (p2 : Int32) (ov : Nat) (o : Nat → Int64) (sz : Nat) (hT : ty_V ct S ph ws) (h_w : S w = some (.inl 9)) (h_sp : S sp = some (.inl 9)) (h_sv : S sv = some (.inr (4, ns))) (hph : ty_C ph xx) (hy1 : ty_y1 xx) (hy2 : ty_y0 xx 2) (hy5 : ty_y0 xx 5) (hy7 : ty_yc xx 7) (hy11 : ty_y0 xx 11) (hys : xx 9 0 sp ∧ xx 9 4 sp) : Met l yL_safeCurrent (wsw_ yL_safeCurrent cL_safeCurrent 5 (some .int) [(0, 10, 13, 32), (0, 10, 17, 13)]) ({ frames := 8, cells := 3, slots := 18, locals := 214 } : Room) (va_Pc [.ref x, .int p1, .int p2, .ref ov] (cmPn D ct sz ([(ty_XO x w sp sv bu bl le), (ov, .inl (ct 1, 1, .inr (.inl o)))] ++ ws))) (va_Qi (fun (r : Int32) (u : va_W × (Nat → Int64)) => match u with | (u9, o1) => ty_V ct S ph u9) (cmB D ([(ty_XO x w sp sv bu bl le), (ov, .inl (ct 1, 1, .inr (.inl o)))] ++ ws) sz (fun (u : va_W × (Nat → Int64)) => match u with | (u9, o1) => ([(ty_XO x w sp sv bu bl le), (ov, .inl (ct 1, 1, .inr (.inl o1)))] ++ u9))) (va_A ([(ty_XO x w sp sv bu bl le), (ov, .inl (ct 1, 1, .inr (.inl o)))] ++ ws) sz)) 3 18 (va_A ([(ty_XO x w sp sv bu bl le), (ov, .inl (ct 1, 1, .inr (.inl o)))] ++ ws) sz) := by
  refine va_MetW (cc := cL_safeCurrent) (maxL := 5) (ret := (some .int)) (hh := [(0, 10, 13, 32), (0, 10, 17, 13)]) (by decide) rfl ?_
  intro p e s m args below meth c s₁ B hml hv
  have hts0 := atoms_spec (ws := wsw_ yL_safeCurrent cL_safeCurrent 5 (some .int) [(0, 10, 13, 32), (0, 10, 17, 13)]) B.pre
  have hts : ∀ w ∈ cm_all, w.before args s = true := fun w h => hts0 w (List.mem_cons_of_mem _ h)
  obtain ⟨rfl, ⟨hsz, hP, hK, hD0, hX⟩, hNc⟩ := hv
  have hx := B.exec
  have hb := B.bytes
  have hr := B.returns
  have htab := vx_table (x := yL_safeCurrent) B (hts0 _ List.mem_cons_self)
  have hown : s.vm.findClass RL = some m.cls := findClass_of_methodNamed B.named
  have hlocks := B.notSynchronized
  subst hsz
  have hD := hD0.self (sz := s.heap.size)
  generalize hAe : va_A ([(ty_XO x w sp sv bu bl le), (ov, .inl (ct 1, 1, .inr (.inl o)))] ++ ws) s.heap.size = A at hD hX ⊢
  have hA : ∀ q : Nat, s.heap.size ≤ q → A q := fun q h => by rw [← hAe]; exact Or.inr h
  have hS : va_S A s.heap s.heap [] := va_S.rf
  have hl := lv_entry ([.ref x, .int p1, .int p2, .ref ov]) (n := 5) (Nat.le_of_ble_eq_true rfl)
  rw [lg_entry_eq]
  generalize (lg_sl ([.ref x, .int p1, .int p2, .ref ov]) ++ List.replicate (5 - (lg_sl ([.ref x, .int p1, .int p2, .ref ov])).length) Slot.unset).toArray = ls at hl ⊢
  have hl : lv_has ls 5 [(0, .ref x), (1, .int p1), (2, .int p2), (3, .ref ov)] := hl
  refine lv_aload_n hx hb dL_safeCurrent_0 rfl (lv_at hl 3 rfl) ?_
  refine lv_iconst (v := 0) hx hb dL_safeCurrent_1 (by decide) ?_
  refine lv_aload_n hx hb dL_safeCurrent_2 rfl (lv_at hl 0 rfl) ?_
  refine lv_iload_n hx hb dL_safeCurrent_3 rfl (lv_at hl 1 rfl) ?_
  refine lv_iload_n hx hb dL_safeCurrent_4 rfl (lv_at hl 2 rfl) ?_
  have hP : va_P D vwCl ([(ov, .inl (ct 1, 1, .inr (.inl o))), (ty_XO x w sp sv bu bl le)] ++ ws) s.heap := ty_permP hP (ty_ordp (E := [(ty_XO x w sp sv bu bl le), (ov, .inl (ct 1, 1, .inr (.inl o)))]) (E2 := [(ov, .inl (ct 1, 1, .inr (.inl o))), (ty_XO x w sp sv bu bl le)]) (n := 2) [1, 0] rfl rfl (by decide))
  have hD : va_D A ([(ov, .inl (ct 1, 1, .inr (.inl o))), (ty_XO x w sp sv bu bl le)] ++ ws) := ty_permD hD (ty_ordp (E := [(ty_XO x w sp sv bu bl le), (ov, .inl (ct 1, 1, .inr (.inl o)))]) (E2 := [(ov, .inl (ct 1, 1, .inr (.inl o))), (ty_XO x w sp sv bu bl le)]) (n := 2) [1, 0] rfl rfl (by decide))
  refine ty_xi (wr := [(ov, .inl (ct 1, 1, .inr (.inl o)))]) (wc := ([(ty_XO x w sp sv bu bl le)] ++ ws)) (vx_runV (As := [.int p1, .int p2]) (rest := [.int 0, .ref ov]) ⟨hx, hb, hml, hown, hts⟩ (t_X10_safeCurrent l hfl D ct S ws ph xx x w sp sv bu ns bl le p1 p2 _ hT h_w h_sp h_sv hph hy1 hy2 hy5 hy7 hy11 hys) (cm_V 2 hts kc_X10_safeCurrent ki_RX10 kl_RL_163 kv_X10_safeCurrent kx_X10_safeCurrent kd_X10_safeCurrent ⟨Nat.le_of_ble_eq_true rfl, Nat.le_of_ble_eq_true rfl⟩) (ty_preE (wr := [(ov, .inl (ct 1, 1, .inr (.inl o)))]) (wc := ([(ty_XO x w sp sv bu bl le)] ++ ws)) (ci := 10) (q0 := 1) hP hK hD hS hA hX rfl rfl) rfl rfl hl.1 rfl (lv_room (Nat.le_of_ble_eq_true rfl)) dL_safeCurrent_5 ⟨Nat.le_of_ble_eq_true rfl, Nat.le_of_ble_eq_true rfl⟩) hP hD hS hA (fun E ce q9 u H locs hu hE hP hD hS hce hcv hcl => ?_) (fun r_1 u H locs hw_2 hP hD hS => ?_)
  · obtain ⟨ws_3, rfl⟩ : ∃ z, z = u := ⟨_, rfl⟩
    have hT := hu
    have hP : va_P D vwCl ([(ov, .inl (ct 1, 1, .inr (.inl o))), (ty_XO x w sp sv bu bl le)] ++ ws_3) H := hP
    have hD : va_D A ([(ov, .inl (ct 1, 1, .inr (.inl o))), (ty_XO x w sp sv bu bl le)] ++ ws_3) := hD
    rcases List.mem_cons.mp hE with rfl | hE
    · refine vx_catch (name := "java/lang/IllegalArgumentException") hown [_] _ _ htab (fun z hz => by obtain rfl := List.mem_singleton.mp hz; exact Or.inr ⟨by decide, _, hts _ kl_RL_32, hNc⟩) (by decide) (by decide) (hts _ kl_RL_13) (hts _ kcast_IAE) hce hcv hcl ?_
      refine W.eq (g2 := F0 m 17 ls [.ref q9]) rfl ?_
      refine lv_astore (lv' := [(4, .ref q9), (0, .ref x), (1, .int p1), (2, .int p2), (3, .ref ov)]) hx hb dL_safeCurrent_17 hl (by decide) rfl (fun ls hl => ?_)
      refine lv_iconst (v := 2) hx hb dL_safeCurrent_19 (by decide) ?_
      have hP : va_P D vwCl ([(ty_XO x w sp sv bu bl le), (ov, .inl (ct 1, 1, .inr (.inl o)))] ++ ws_3) H := ty_permP hP (ty_ordp (E := [(ov, .inl (ct 1, 1, .inr (.inl o))), (ty_XO x w sp sv bu bl le)]) (E2 := [(ty_XO x w sp sv bu bl le), (ov, .inl (ct 1, 1, .inr (.inl o)))]) (n := 2) [1, 0] rfl rfl (by decide))
      have hD : va_D A ([(ty_XO x w sp sv bu bl le), (ov, .inl (ct 1, 1, .inr (.inl o)))] ++ ws_3) := ty_permD hD (ty_ordp (E := [(ov, .inl (ct 1, 1, .inr (.inl o))), (ty_XO x w sp sv bu bl le)]) (E2 := [(ty_XO x w sp sv bu bl le), (ov, .inl (ct 1, 1, .inr (.inl o)))]) (n := 2) [1, 0] rfl rfl (by decide))
      exact W.iret (v := 2) hx hb hr (fun t ht hW => ⟨⟨2, (ws_3, o), rfl, hT, by rw [ht]; exact hP, by rw [hAe]; exact hD⟩, hS.F ht⟩) hS.2.2 dL_safeCurrent_20
    · obtain rfl := List.mem_singleton.mp hE
      refine vx_catch (name := "java/lang/IndexOutOfBoundsException") hown [] _ _ htab (fun z hz => absurd hz List.not_mem_nil) (by decide) (by decide) (hts _ kl_RL_32) (hts _ kcast_IOE) hce hcv hcl ?_
      refine W.eq (g2 := F0 m 13 ls [.ref q9]) rfl ?_
      refine lv_astore (lv' := [(4, .ref q9), (0, .ref x), (1, .int p1), (2, .int p2), (3, .ref ov)]) hx hb dL_safeCurrent_13 hl (by decide) rfl (fun ls hl => ?_)
      refine lv_iconst (v := 1) hx hb dL_safeCurrent_15 (by decide) ?_
      have hP : va_P D vwCl ([(ty_XO x w sp sv bu bl le), (ov, .inl (ct 1, 1, .inr (.inl o)))] ++ ws_3) H := ty_permP hP (ty_ordp (E := [(ov, .inl (ct 1, 1, .inr (.inl o))), (ty_XO x w sp sv bu bl le)]) (E2 := [(ty_XO x w sp sv bu bl le), (ov, .inl (ct 1, 1, .inr (.inl o)))]) (n := 2) [1, 0] rfl rfl (by decide))
      have hD : va_D A ([(ty_XO x w sp sv bu bl le), (ov, .inl (ct 1, 1, .inr (.inl o)))] ++ ws_3) := ty_permD hD (ty_ordp (E := [(ov, .inl (ct 1, 1, .inr (.inl o))), (ty_XO x w sp sv bu bl le)]) (E2 := [(ty_XO x w sp sv bu bl le), (ov, .inl (ct 1, 1, .inr (.inl o)))]) (n := 2) [1, 0] rfl rfl (by decide))
      exact W.iret (v := 1) hx hb hr (fun t ht hW => ⟨⟨1, (ws_3, o), rfl, hT, by rw [ht]; exact hP, by rw [hAe]; exact hD⟩, hS.F ht⟩) hS.2.2 dL_safeCurrent_16
  · obtain ⟨ws_4, rfl⟩ : ∃ z, z = u := ⟨_, rfl⟩
    have hT := hw_2
    have hP : va_P D vwCl ([(ov, .inl (ct 1, 1, .inr (.inl o))), (ty_XO x w sp sv bu bl le)] ++ ws_4) H := hP
    have hD : va_D A ([(ov, .inl (ct 1, 1, .inr (.inl o))), (ty_XO x w sp sv bu bl le)] ++ ws_4) := hD
    refine W.widen (k := 3) (n := 18) (Nat.le_of_ble_eq_true rfl) (Nat.le_of_ble_eq_true rfl) ?_
    refine lv_i2l hx hb dL_safeCurrent_8 rfl ?_
    refine lv_topl (fun x_5 _ => ?_)
    refine va_last hx hb hK hP hD hS 0 1 rfl rfl (cm_vin (by decide)) dL_safeCurrent_9 (fun H locs hP hD hS => ?_)
    have hP : va_P D vwCl ([(ov, .inl (ct 1, 1, .inr (.inl (vp_updL o (0 : Int32).toNatClampNeg x_5)))), (ty_XO x w sp sv bu bl le)] ++ ws_4) H := hP
    have hD : va_D A ([(ov, .inl (ct 1, 1, .inr (.inl (vp_updL o (0 : Int32).toNatClampNeg x_5)))), (ty_XO x w sp sv bu bl le)] ++ ws_4) := hD
    refine lv_goto (tgt := 21) hx hb dL_safeCurrent_10 (by decide) ?_
    refine lv_iconst (v := 0) hx hb dL_safeCurrent_21 (by decide) ?_
    have hP : va_P D vwCl ([(ty_XO x w sp sv bu bl le), (ov, .inl (ct 1, 1, .inr (.inl (vp_updL o (0 : Int32).toNatClampNeg x_5))))] ++ ws_4) H := ty_permP hP (ty_ordp (E := [(ov, .inl (ct 1, 1, .inr (.inl (vp_updL o (0 : Int32).toNatClampNeg x_5)))), (ty_XO x w sp sv bu bl le)]) (E2 := [(ty_XO x w sp sv bu bl le), (ov, .inl (ct 1, 1, .inr (.inl (vp_updL o (0 : Int32).toNatClampNeg x_5))))]) (n := 2) [1, 0] rfl rfl (by decide))
    have hD : va_D A ([(ty_XO x w sp sv bu bl le), (ov, .inl (ct 1, 1, .inr (.inl (vp_updL o (0 : Int32).toNatClampNeg x_5))))] ++ ws_4) := ty_permD hD (ty_ordp (E := [(ov, .inl (ct 1, 1, .inr (.inl (vp_updL o (0 : Int32).toNatClampNeg x_5)))), (ty_XO x w sp sv bu bl le)]) (E2 := [(ty_XO x w sp sv bu bl le), (ov, .inl (ct 1, 1, .inr (.inl (vp_updL o (0 : Int32).toNatClampNeg x_5))))]) (n := 2) [1, 0] rfl rfl (by decide))
    exact W.iret (v := 0) hx hb hr (fun t ht hW => ⟨⟨0, (ws_4, (vp_updL o (0 : Int32).toNatClampNeg x_5)), rfl, hT, by rw [ht]; exact hP, by rw [hAe]; exact hD⟩, hS.F ht⟩) hS.2.2 dL_safeCurrent_22
theorem dL_saveSnapshot_0 : decode cL_saveSnapshot 0 = .ok (.aload_n 2, 1) := by decide +kernel
theorem dL_saveSnapshot_1 : decode cL_saveSnapshot 1 = .ok (.iconst 0, 1) := by decide +kernel
theorem dL_saveSnapshot_2 : decode cL_saveSnapshot 2 = .ok (.aload_n 0, 1) := by decide +kernel
theorem dL_saveSnapshot_3 : decode cL_saveSnapshot 3 = .ok (.iload_n 1, 1) := by decide +kernel
theorem dL_saveSnapshot_4 : decode cL_saveSnapshot 4 = .ok (.invokevirtual 166, 3) := by decide +kernel
theorem dL_saveSnapshot_7 : decode cL_saveSnapshot 7 = .ok (.i2l, 1) := by decide +kernel
theorem dL_saveSnapshot_8 : decode cL_saveSnapshot 8 = .ok (.lastore, 1) := by decide +kernel
theorem dL_saveSnapshot_9 : decode cL_saveSnapshot 9 = .ok (.goto 6, 3) := by decide +kernel
theorem dL_saveSnapshot_12 : decode cL_saveSnapshot 12 = .ok (.astore_n 3, 1) := by decide +kernel
theorem dL_saveSnapshot_13 : decode cL_saveSnapshot 13 = .ok (.iconst 1, 1) := by decide +kernel
theorem dL_saveSnapshot_14 : decode cL_saveSnapshot 14 = .ok (.ireturn, 1) := by decide +kernel
theorem dL_saveSnapshot_15 : decode cL_saveSnapshot 15 = .ok (.iconst 0, 1) := by decide +kernel
theorem dL_saveSnapshot_16 : decode cL_saveSnapshot 16 = .ok (.ireturn, 1) := by decide +kernel
set_option maxRecDepth 100000 in
set_option maxHeartbeats 4000000 in
theorem tl_saveSnapshot (l : Launch) (hfl : l.stackTraces = false) (D : va_G) (ct : Nat → ClassId) (S : ty_S) (ws : va_W) (x : Nat) (w : Nat) (sp : Nat) (sv : Nat) (bu : Nat) (bl : Int32) (le : Int32) (p1 : Int32) (ov : Nat) (o : Nat → Int64) (v0 : Option Nat) (v1 : Option Nat) (tt : Int32) (τ0 : Int32) (τ1 : Int32) (cu : Nat) (na : Nat) (pr : Nat) (ch : Nat) (sz : Nat) (hT : ty_V ct S (rp_L w sp sv cu na pr ch v0 v1 tt τ0 τ1) ws) (h_w : S w = some (.inl 9)) (h_sp : S sp = some (.inl 9)) (h_sv : S sv = some (.inr (4, 2))) (h_ch : S ch = some (.inr (3, 6))) (hsd : rp_sd w sp v0 v1) : Met l yL_saveSnapshot (wsw_ yL_saveSnapshot cL_saveSnapshot 4 (some .int) [(0, 9, 12, 13)]) ({ frames := 8, cells := 65, slots := 1109, locals := 189 } : Room) (va_Pc [.ref x, .int p1, .ref ov] (cmPn D ct sz ([(ty_XO x w sp sv bu bl le), (ov, .inl (ct 1, 1, .inr (.inl o)))] ++ ws))) (va_Qi (fun (r : Int32) (u : va_W × ty_S × (Option Nat) × (Option Nat) × Int32 × Int32 × (Nat → Int64)) => match u with | (u9, S9, v01, v11, ta1, tb1, o1) => ty_V ct S9 (rp_L w sp sv cu na pr ch v01 v11 tt ta1 tb1) u9 ∧ ty_le S S9 ∧ ((r = 1 ∧ ¬ (p1 = 0 ∨ p1 = 1) ∧ v01 = v0 ∧ v11 = v1 ∧ ta1 = τ0 ∧ tb1 = τ1) ∨ (r = 0 ∧ rp_sp p1 tt v0 v1 τ0 τ1 v01 v11 ta1 tb1 ∧ o1 (0 : Int32).toNatClampNeg = tt.toInt64)) ∧ rp_sd w sp v01 v11) (cmB D ([(ty_XO x w sp sv bu bl le), (ov, .inl (ct 1, 1, .inr (.inl o)))] ++ ws) sz (fun (u : va_W × ty_S × (Option Nat) × (Option Nat) × Int32 × Int32 × (Nat → Int64)) => match u with | (u9, S9, v01, v11, ta1, tb1, o1) => ([(ty_XO x w sp sv bu bl le), (ov, .inl (ct 1, 1, .inr (.inl o1)))] ++ u9))) (va_A ([(ty_XO x w sp sv bu bl le), (ov, .inl (ct 1, 1, .inr (.inl o)))] ++ ws) sz)) 65 1109 (va_A ([(ty_XO x w sp sv bu bl le), (ov, .inl (ct 1, 1, .inr (.inl o)))] ++ ws) sz) := by
  refine va_MetW (cc := cL_saveSnapshot) (maxL := 4) (ret := (some .int)) (hh := [(0, 9, 12, 13)]) (by decide) rfl ?_
  intro p e s m args below meth c s₁ B hml hv
  have hts0 := atoms_spec (ws := wsw_ yL_saveSnapshot cL_saveSnapshot 4 (some .int) [(0, 9, 12, 13)]) B.pre
  have hts : ∀ w ∈ cm_all, w.before args s = true := fun w h => hts0 w (List.mem_cons_of_mem _ h)
  obtain ⟨rfl, ⟨hsz, hP, hK, hD0, hX⟩, hNc⟩ := hv
  have hx := B.exec
  have hb := B.bytes
  have hr := B.returns
  have htab := vx_table (x := yL_saveSnapshot) B (hts0 _ List.mem_cons_self)
  have hown : s.vm.findClass RL = some m.cls := findClass_of_methodNamed B.named
  have hlocks := B.notSynchronized
  subst hsz
  have hD := hD0.self (sz := s.heap.size)
  generalize hAe : va_A ([(ty_XO x w sp sv bu bl le), (ov, .inl (ct 1, 1, .inr (.inl o)))] ++ ws) s.heap.size = A at hD hX ⊢
  have hA : ∀ q : Nat, s.heap.size ≤ q → A q := fun q h => by rw [← hAe]; exact Or.inr h
  have hS : va_S A s.heap s.heap [] := va_S.rf
  have hl := lv_entry ([.ref x, .int p1, .ref ov]) (n := 4) (Nat.le_of_ble_eq_true rfl)
  rw [lg_entry_eq]
  generalize (lg_sl ([.ref x, .int p1, .ref ov]) ++ List.replicate (4 - (lg_sl ([.ref x, .int p1, .ref ov])).length) Slot.unset).toArray = ls at hl ⊢
  have hl : lv_has ls 4 [(0, .ref x), (1, .int p1), (2, .ref ov)] := hl
  refine lv_aload_n hx hb dL_saveSnapshot_0 rfl (lv_at hl 2 rfl) ?_
  refine lv_iconst (v := 0) hx hb dL_saveSnapshot_1 (by decide) ?_
  refine lv_aload_n hx hb dL_saveSnapshot_2 rfl (lv_at hl 0 rfl) ?_
  refine lv_iload_n hx hb dL_saveSnapshot_3 rfl (lv_at hl 1 rfl) ?_
  have hP : va_P D vwCl ([(ov, .inl (ct 1, 1, .inr (.inl o))), (ty_XO x w sp sv bu bl le)] ++ ws) s.heap := ty_permP hP (ty_ordp (E := [(ty_XO x w sp sv bu bl le), (ov, .inl (ct 1, 1, .inr (.inl o)))]) (E2 := [(ov, .inl (ct 1, 1, .inr (.inl o))), (ty_XO x w sp sv bu bl le)]) (n := 2) [1, 0] rfl rfl (by decide))
  have hD : va_D A ([(ov, .inl (ct 1, 1, .inr (.inl o))), (ty_XO x w sp sv bu bl le)] ++ ws) := ty_permD hD (ty_ordp (E := [(ty_XO x w sp sv bu bl le), (ov, .inl (ct 1, 1, .inr (.inl o)))]) (E2 := [(ov, .inl (ct 1, 1, .inr (.inl o))), (ty_XO x w sp sv bu bl le)]) (n := 2) [1, 0] rfl rfl (by decide))
  refine ty_xi (wr := [(ov, .inl (ct 1, 1, .inr (.inl o)))]) (wc := ([(ty_XO x w sp sv bu bl le)] ++ ws)) (vx_runV (As := [.int p1]) (rest := [.int 0, .ref ov]) ⟨hx, hb, hml, hown, hts⟩ (r_save l hfl D ct S ws x w sp sv bu bl le v0 v1 tt τ0 τ1 cu na pr ch p1 _ hT h_w h_sp h_sv h_ch hsd) (cm_V 1 hts kc_X10_saveSnapshot ki_RX10 kl_RL_166 kv_X10_saveSnapshot kx_X10_saveSnapshot kd_X10_saveSnapshot ⟨Nat.le_of_ble_eq_true rfl, Nat.le_of_ble_eq_true rfl⟩) (ty_preE (wr := [(ov, .inl (ct 1, 1, .inr (.inl o)))]) (wc := ([(ty_XO x w sp sv bu bl le)] ++ ws)) (ci := 10) (q0 := 1) hP hK hD hS hA hX rfl rfl) rfl rfl hl.1 rfl (lv_room (Nat.le_of_ble_eq_true rfl)) dL_saveSnapshot_4 ⟨Nat.le_of_ble_eq_true rfl, Nat.le_of_ble_eq_true rfl⟩) hP hD hS hA (fun E ce q9 u H locs hu hE hP hD hS hce hcv hcl => ?_) (fun r_1 u H locs hw_2 hP hD hS => ?_)
  · obtain ⟨ws_3, rfl⟩ : ∃ z, z = u := ⟨_, rfl⟩
    obtain ⟨hT, hxp⟩ := hu
    have hP : va_P D vwCl ([(ov, .inl (ct 1, 1, .inr (.inl o))), (ty_XO x w sp sv bu bl le)] ++ ws_3) H := hP
    have hD : va_D A ([(ov, .inl (ct 1, 1, .inr (.inl o))), (ty_XO x w sp sv bu bl le)] ++ ws_3) := hD
    obtain rfl := List.mem_singleton.mp hE
    refine vx_catch (name := "java/lang/IllegalArgumentException") hown [] _ _ htab (fun z hz => absurd hz List.not_mem_nil) (by decide) (by decide) (hts _ kl_RL_13) (hts _ kcast_IAE) hce hcv hcl ?_
    refine W.eq (g2 := F0 m 12 ls [.ref q9]) rfl ?_
    refine lv_astore_n (lv' := [(3, .ref q9), (0, .ref x), (1, .int p1), (2, .ref ov)]) hx hb dL_saveSnapshot_12 rfl hl (by decide) rfl (fun ls hl => ?_)
    refine lv_iconst (v := 1) hx hb dL_saveSnapshot_13 (by decide) ?_
    have hP : va_P D vwCl ([(ty_XO x w sp sv bu bl le), (ov, .inl (ct 1, 1, .inr (.inl o)))] ++ ws_3) H := ty_permP hP (ty_ordp (E := [(ov, .inl (ct 1, 1, .inr (.inl o))), (ty_XO x w sp sv bu bl le)]) (E2 := [(ty_XO x w sp sv bu bl le), (ov, .inl (ct 1, 1, .inr (.inl o)))]) (n := 2) [1, 0] rfl rfl (by decide))
    have hD : va_D A ([(ty_XO x w sp sv bu bl le), (ov, .inl (ct 1, 1, .inr (.inl o)))] ++ ws_3) := ty_permD hD (ty_ordp (E := [(ov, .inl (ct 1, 1, .inr (.inl o))), (ty_XO x w sp sv bu bl le)]) (E2 := [(ty_XO x w sp sv bu bl le), (ov, .inl (ct 1, 1, .inr (.inl o)))]) (n := 2) [1, 0] rfl rfl (by decide))
    exact W.iret (v := 1) hx hb hr (fun t ht hW => ⟨⟨1, (ws_3, S, v0, v1, τ0, τ1, o), rfl, ⟨hT, (fun _ _ h9 => h9), ⟨Or.inl ⟨rfl, hxp, rfl, rfl, rfl, rfl⟩, hsd⟩⟩, by rw [ht]; exact hP, by rw [hAe]; exact hD⟩, hS.F ht⟩) hS.2.2 dL_saveSnapshot_14
  · obtain ⟨ws_4, S_5, v01_6, v11_7, ta1_8, tb1_9⟩ := u
    obtain ⟨hT, hle_10, hp_11⟩ := hw_2
    have hp_11 : rp_sp p1 tt v0 v1 τ0 τ1 v01_6 v11_7 ta1_8 tb1_9 ∧ rp_sd w sp v01_6 v11_7 ∧ r_1 = tt := hp_11
    have hg_12 := hle_10 _ _ h_w
    have hg_13 := hle_10 _ _ h_sp
    have hg_14 := hle_10 _ _ h_sv
    have hP : va_P D vwCl ([(ov, .inl (ct 1, 1, .inr (.inl o))), (ty_XO x w sp sv bu bl le)] ++ ws_4) H := hP
    have hD : va_D A ([(ov, .inl (ct 1, 1, .inr (.inl o))), (ty_XO x w sp sv bu bl le)] ++ ws_4) := hD
    refine W.widen (k := 65) (n := 1109) (Nat.le_of_ble_eq_true rfl) (Nat.le_of_ble_eq_true rfl) ?_
    refine lv_i2l hx hb dL_saveSnapshot_7 rfl ?_
    refine va_last hx hb hK hP hD hS 0 1 rfl rfl (cm_vin (by decide)) dL_saveSnapshot_8 (fun H locs hP hD hS => ?_)
    have hP : va_P D vwCl ([(ov, .inl (ct 1, 1, .inr (.inl (vp_updL o (0 : Int32).toNatClampNeg r_1.toInt64)))), (ty_XO x w sp sv bu bl le)] ++ ws_4) H := hP
    have hD : va_D A ([(ov, .inl (ct 1, 1, .inr (.inl (vp_updL o (0 : Int32).toNatClampNeg r_1.toInt64)))), (ty_XO x w sp sv bu bl le)] ++ ws_4) := hD
    refine lv_goto (tgt := 15) hx hb dL_saveSnapshot_9 (by decide) ?_
    refine lv_iconst (v := 0) hx hb dL_saveSnapshot_15 (by decide) ?_
    have hP : va_P D vwCl ([(ty_XO x w sp sv bu bl le), (ov, .inl (ct 1, 1, .inr (.inl (vp_updL o (0 : Int32).toNatClampNeg r_1.toInt64))))] ++ ws_4) H := ty_permP hP (ty_ordp (E := [(ov, .inl (ct 1, 1, .inr (.inl (vp_updL o (0 : Int32).toNatClampNeg r_1.toInt64)))), (ty_XO x w sp sv bu bl le)]) (E2 := [(ty_XO x w sp sv bu bl le), (ov, .inl (ct 1, 1, .inr (.inl (vp_updL o (0 : Int32).toNatClampNeg r_1.toInt64))))]) (n := 2) [1, 0] rfl rfl (by decide))
    have hD : va_D A ([(ty_XO x w sp sv bu bl le), (ov, .inl (ct 1, 1, .inr (.inl (vp_updL o (0 : Int32).toNatClampNeg r_1.toInt64))))] ++ ws_4) := ty_permD hD (ty_ordp (E := [(ov, .inl (ct 1, 1, .inr (.inl (vp_updL o (0 : Int32).toNatClampNeg r_1.toInt64)))), (ty_XO x w sp sv bu bl le)]) (E2 := [(ty_XO x w sp sv bu bl le), (ov, .inl (ct 1, 1, .inr (.inl (vp_updL o (0 : Int32).toNatClampNeg r_1.toInt64))))]) (n := 2) [1, 0] rfl rfl (by decide))
    exact W.iret (v := 0) hx hb hr (fun t ht hW => ⟨⟨0, (ws_4, S_5, v01_6, v11_7, ta1_8, tb1_9, (vp_updL o (0 : Int32).toNatClampNeg r_1.toInt64)), rfl, ⟨hT, (fun a9 k9 h9 => hle_10 _ _ ((fun _ _ h9 => h9) a9 k9 h9)), ⟨Or.inr ⟨rfl, hp_11.1, by rw [← hp_11.2.2]; exact rp_ov⟩, hp_11.2.1⟩⟩, by rw [ht]; exact hP, by rw [hAe]; exact hD⟩, hS.F ht⟩) hS.2.2 dL_saveSnapshot_16
theorem dL_restoreSnapshot_0 : decode cL_restoreSnapshot 0 = .ok (.aload_n 2, 1) := by decide +kernel
theorem dL_restoreSnapshot_1 : decode cL_restoreSnapshot 1 = .ok (.iconst 0, 1) := by decide +kernel
theorem dL_restoreSnapshot_2 : decode cL_restoreSnapshot 2 = .ok (.aload_n 0, 1) := by decide +kernel
theorem dL_restoreSnapshot_3 : decode cL_restoreSnapshot 3 = .ok (.iload_n 1, 1) := by decide +kernel
theorem dL_restoreSnapshot_4 : decode cL_restoreSnapshot 4 = .ok (.invokevirtual 169, 3) := by decide +kernel
theorem dL_restoreSnapshot_7 : decode cL_restoreSnapshot 7 = .ok (.i2l, 1) := by decide +kernel
theorem dL_restoreSnapshot_8 : decode cL_restoreSnapshot 8 = .ok (.lastore, 1) := by decide +kernel
theorem dL_restoreSnapshot_9 : decode cL_restoreSnapshot 9 = .ok (.goto 6, 3) := by decide +kernel
theorem dL_restoreSnapshot_12 : decode cL_restoreSnapshot 12 = .ok (.astore_n 3, 1) := by decide +kernel
theorem dL_restoreSnapshot_13 : decode cL_restoreSnapshot 13 = .ok (.iconst 1, 1) := by decide +kernel
theorem dL_restoreSnapshot_14 : decode cL_restoreSnapshot 14 = .ok (.ireturn, 1) := by decide +kernel
theorem dL_restoreSnapshot_15 : decode cL_restoreSnapshot 15 = .ok (.iconst 0, 1) := by decide +kernel
theorem dL_restoreSnapshot_16 : decode cL_restoreSnapshot 16 = .ok (.ireturn, 1) := by decide +kernel
set_option maxRecDepth 100000 in
set_option maxHeartbeats 4000000 in
theorem tl_restoreSnapshot (l : Launch) (hfl : l.stackTraces = false) (D : va_G) (ct : Nat → ClassId) (S : ty_S) (ws : va_W) (x : Nat) (w : Nat) (sp : Nat) (sv : Nat) (bu : Nat) (bl : Int32) (le : Int32) (p1 : Int32) (ov : Nat) (o : Nat → Int64) (v0 : Option Nat) (v1 : Option Nat) (tt : Int32) (τ0 : Int32) (τ1 : Int32) (cu : Nat) (na : Nat) (pr : Nat) (ch : Nat) (sz : Nat) (hT : ty_V ct S (rp_L w sp sv cu na pr ch v0 v1 tt τ0 τ1) ws) (h_w : S w = some (.inl 9)) (h_sp : S sp = some (.inl 9)) (h_sv : S sv = some (.inr (4, 2))) (h_ch : S ch = some (.inr (3, 6))) (hsd : rp_sd w sp v0 v1) : Met l yL_restoreSnapshot (wsw_ yL_restoreSnapshot cL_restoreSnapshot 4 (some .int) [(0, 9, 12, 13)]) ({ frames := 8, cells := 1, slots := 6, locals := 189 } : Room) (va_Pc [.ref x, .int p1, .ref ov] (cmPn D ct sz ([(ty_XO x w sp sv bu bl le), (ov, .inl (ct 1, 1, .inr (.inl o)))] ++ ws))) (va_Qi (fun (r : Int32) (u : va_W × Int32 × (Nat → Int64)) => match u with | (u9, t1, o1) => ty_V ct S (rp_L w sp sv cu na pr ch v0 v1 t1 τ0 τ1) u9 ∧ ((r = 1 ∧ ¬ (p1 = 0 ∨ p1 = 1) ∧ t1 = tt) ∨ (r = 0 ∧ ∃ q : Int32, rp_rs p1 v0 v1 tt τ0 τ1 t1 q ∧ o1 (0 : Int32).toNatClampNeg = q.toInt64))) (cmB D ([(ty_XO x w sp sv bu bl le), (ov, .inl (ct 1, 1, .inr (.inl o)))] ++ ws) sz (fun (u : va_W × Int32 × (Nat → Int64)) => match u with | (u9, t1, o1) => ([(ty_XO x w sp sv bu bl le), (ov, .inl (ct 1, 1, .inr (.inl o1)))] ++ u9))) (va_A ([(ty_XO x w sp sv bu bl le), (ov, .inl (ct 1, 1, .inr (.inl o)))] ++ ws) sz)) 1 6 (va_A ([(ty_XO x w sp sv bu bl le), (ov, .inl (ct 1, 1, .inr (.inl o)))] ++ ws) sz) := by
  refine va_MetW (cc := cL_restoreSnapshot) (maxL := 4) (ret := (some .int)) (hh := [(0, 9, 12, 13)]) (by decide) rfl ?_
  intro p e s m args below meth c s₁ B hml hv
  have hts0 := atoms_spec (ws := wsw_ yL_restoreSnapshot cL_restoreSnapshot 4 (some .int) [(0, 9, 12, 13)]) B.pre
  have hts : ∀ w ∈ cm_all, w.before args s = true := fun w h => hts0 w (List.mem_cons_of_mem _ h)
  obtain ⟨rfl, ⟨hsz, hP, hK, hD0, hX⟩, hNc⟩ := hv
  have hx := B.exec
  have hb := B.bytes
  have hr := B.returns
  have htab := vx_table (x := yL_restoreSnapshot) B (hts0 _ List.mem_cons_self)
  have hown : s.vm.findClass RL = some m.cls := findClass_of_methodNamed B.named
  have hlocks := B.notSynchronized
  subst hsz
  have hD := hD0.self (sz := s.heap.size)
  generalize hAe : va_A ([(ty_XO x w sp sv bu bl le), (ov, .inl (ct 1, 1, .inr (.inl o)))] ++ ws) s.heap.size = A at hD hX ⊢
  have hA : ∀ q : Nat, s.heap.size ≤ q → A q := fun q h => by rw [← hAe]; exact Or.inr h
  have hS : va_S A s.heap s.heap [] := va_S.rf
  have hl := lv_entry ([.ref x, .int p1, .ref ov]) (n := 4) (Nat.le_of_ble_eq_true rfl)
  rw [lg_entry_eq]
  generalize (lg_sl ([.ref x, .int p1, .ref ov]) ++ List.replicate (4 - (lg_sl ([.ref x, .int p1, .ref ov])).length) Slot.unset).toArray = ls at hl ⊢
  have hl : lv_has ls 4 [(0, .ref x), (1, .int p1), (2, .ref ov)] := hl
  refine lv_aload_n hx hb dL_restoreSnapshot_0 rfl (lv_at hl 2 rfl) ?_
  refine lv_iconst (v := 0) hx hb dL_restoreSnapshot_1 (by decide) ?_
  refine lv_aload_n hx hb dL_restoreSnapshot_2 rfl (lv_at hl 0 rfl) ?_
  refine lv_iload_n hx hb dL_restoreSnapshot_3 rfl (lv_at hl 1 rfl) ?_
  have hP : va_P D vwCl ([(ov, .inl (ct 1, 1, .inr (.inl o))), (ty_XO x w sp sv bu bl le)] ++ ws) s.heap := ty_permP hP (ty_ordp (E := [(ty_XO x w sp sv bu bl le), (ov, .inl (ct 1, 1, .inr (.inl o)))]) (E2 := [(ov, .inl (ct 1, 1, .inr (.inl o))), (ty_XO x w sp sv bu bl le)]) (n := 2) [1, 0] rfl rfl (by decide))
  have hD : va_D A ([(ov, .inl (ct 1, 1, .inr (.inl o))), (ty_XO x w sp sv bu bl le)] ++ ws) := ty_permD hD (ty_ordp (E := [(ty_XO x w sp sv bu bl le), (ov, .inl (ct 1, 1, .inr (.inl o)))]) (E2 := [(ov, .inl (ct 1, 1, .inr (.inl o))), (ty_XO x w sp sv bu bl le)]) (n := 2) [1, 0] rfl rfl (by decide))
  refine ty_xi (wr := [(ov, .inl (ct 1, 1, .inr (.inl o)))]) (wc := ([(ty_XO x w sp sv bu bl le)] ++ ws)) (vx_runV (As := [.int p1]) (rest := [.int 0, .ref ov]) ⟨hx, hb, hml, hown, hts⟩ (r_restore l hfl D ct S ws x w sp sv bu bl le v0 v1 tt τ0 τ1 cu na pr ch p1 _ hT h_w h_sp h_sv hsd) (cm_V 1 hts kc_X10_restoreSnapshot ki_RX10 kl_RL_169 kv_X10_restoreSnapshot kx_X10_restoreSnapshot kd_X10_restoreSnapshot ⟨Nat.le_of_ble_eq_true rfl, Nat.le_of_ble_eq_true rfl⟩) (ty_preE (wr := [(ov, .inl (ct 1, 1, .inr (.inl o)))]) (wc := ([(ty_XO x w sp sv bu bl le)] ++ ws)) (ci := 10) (q0 := 1) hP hK hD hS hA hX rfl rfl) rfl rfl hl.1 rfl (lv_room (Nat.le_of_ble_eq_true rfl)) dL_restoreSnapshot_4 ⟨Nat.le_of_ble_eq_true rfl, Nat.le_of_ble_eq_true rfl⟩) hP hD hS hA (fun E ce q9 u H locs hu hE hP hD hS hce hcv hcl => ?_) (fun r_1 u H locs hw_2 hP hD hS => ?_)
  · obtain ⟨ws_3, rfl⟩ : ∃ z, z = u := ⟨_, rfl⟩
    obtain ⟨hT, hxp⟩ := hu
    have hP : va_P D vwCl ([(ov, .inl (ct 1, 1, .inr (.inl o))), (ty_XO x w sp sv bu bl le)] ++ ws_3) H := hP
    have hD : va_D A ([(ov, .inl (ct 1, 1, .inr (.inl o))), (ty_XO x w sp sv bu bl le)] ++ ws_3) := hD
    obtain rfl := List.mem_singleton.mp hE
    refine vx_catch (name := "java/lang/IllegalArgumentException") hown [] _ _ htab (fun z hz => absurd hz List.not_mem_nil) (by decide) (by decide) (hts _ kl_RL_13) (hts _ kcast_IAE) hce hcv hcl ?_
    refine W.eq (g2 := F0 m 12 ls [.ref q9]) rfl ?_
    refine lv_astore_n (lv' := [(3, .ref q9), (0, .ref x), (1, .int p1), (2, .ref ov)]) hx hb dL_restoreSnapshot_12 rfl hl (by decide) rfl (fun ls hl => ?_)
    refine lv_iconst (v := 1) hx hb dL_restoreSnapshot_13 (by decide) ?_
    have hP : va_P D vwCl ([(ty_XO x w sp sv bu bl le), (ov, .inl (ct 1, 1, .inr (.inl o)))] ++ ws_3) H := ty_permP hP (ty_ordp (E := [(ov, .inl (ct 1, 1, .inr (.inl o))), (ty_XO x w sp sv bu bl le)]) (E2 := [(ty_XO x w sp sv bu bl le), (ov, .inl (ct 1, 1, .inr (.inl o)))]) (n := 2) [1, 0] rfl rfl (by decide))
    have hD : va_D A ([(ty_XO x w sp sv bu bl le), (ov, .inl (ct 1, 1, .inr (.inl o)))] ++ ws_3) := ty_permD hD (ty_ordp (E := [(ov, .inl (ct 1, 1, .inr (.inl o))), (ty_XO x w sp sv bu bl le)]) (E2 := [(ty_XO x w sp sv bu bl le), (ov, .inl (ct 1, 1, .inr (.inl o)))]) (n := 2) [1, 0] rfl rfl (by decide))
    exact W.iret (v := 1) hx hb hr (fun t ht hW => ⟨⟨1, (ws_3, tt, o), rfl, ⟨hT, (Or.inl ⟨rfl, hxp, rfl⟩)⟩, by rw [ht]; exact hP, by rw [hAe]; exact hD⟩, hS.F ht⟩) hS.2.2 dL_restoreSnapshot_14
  · obtain ⟨ws_4, t1_5⟩ := u
    obtain ⟨hT, hp_6⟩ := hw_2
    have hp_6 : rp_rs p1 v0 v1 tt τ0 τ1 t1_5 r_1 := hp_6
    have hP : va_P D vwCl ([(ov, .inl (ct 1, 1, .inr (.inl o))), (ty_XO x w sp sv bu bl le)] ++ ws_4) H := hP
    have hD : va_D A ([(ov, .inl (ct 1, 1, .inr (.inl o))), (ty_XO x w sp sv bu bl le)] ++ ws_4) := hD
    refine W.widen (k := 1) (n := 6) (Nat.le_of_ble_eq_true rfl) (Nat.le_of_ble_eq_true rfl) ?_
    refine lv_i2l hx hb dL_restoreSnapshot_7 rfl ?_
    refine va_last hx hb hK hP hD hS 0 1 rfl rfl (cm_vin (by decide)) dL_restoreSnapshot_8 (fun H locs hP hD hS => ?_)
    have hP : va_P D vwCl ([(ov, .inl (ct 1, 1, .inr (.inl (vp_updL o (0 : Int32).toNatClampNeg r_1.toInt64)))), (ty_XO x w sp sv bu bl le)] ++ ws_4) H := hP
    have hD : va_D A ([(ov, .inl (ct 1, 1, .inr (.inl (vp_updL o (0 : Int32).toNatClampNeg r_1.toInt64)))), (ty_XO x w sp sv bu bl le)] ++ ws_4) := hD
    refine lv_goto (tgt := 15) hx hb dL_restoreSnapshot_9 (by decide) ?_
    refine lv_iconst (v := 0) hx hb dL_restoreSnapshot_15 (by decide) ?_
    have hP : va_P D vwCl ([(ty_XO x w sp sv bu bl le), (ov, .inl (ct 1, 1, .inr (.inl (vp_updL o (0 : Int32).toNatClampNeg r_1.toInt64))))] ++ ws_4) H := ty_permP hP (ty_ordp (E := [(ov, .inl (ct 1, 1, .inr (.inl (vp_updL o (0 : Int32).toNatClampNeg r_1.toInt64)))), (ty_XO x w sp sv bu bl le)]) (E2 := [(ty_XO x w sp sv bu bl le), (ov, .inl (ct 1, 1, .inr (.inl (vp_updL o (0 : Int32).toNatClampNeg r_1.toInt64))))]) (n := 2) [1, 0] rfl rfl (by decide))
    have hD : va_D A ([(ty_XO x w sp sv bu bl le), (ov, .inl (ct 1, 1, .inr (.inl (vp_updL o (0 : Int32).toNatClampNeg r_1.toInt64))))] ++ ws_4) := ty_permD hD (ty_ordp (E := [(ov, .inl (ct 1, 1, .inr (.inl (vp_updL o (0 : Int32).toNatClampNeg r_1.toInt64)))), (ty_XO x w sp sv bu bl le)]) (E2 := [(ty_XO x w sp sv bu bl le), (ov, .inl (ct 1, 1, .inr (.inl (vp_updL o (0 : Int32).toNatClampNeg r_1.toInt64))))]) (n := 2) [1, 0] rfl rfl (by decide))
    exact W.iret (v := 0) hx hb hr (fun t ht hW => ⟨⟨0, (ws_4, t1_5, (vp_updL o (0 : Int32).toNatClampNeg r_1.toInt64)), rfl, ⟨hT, (Or.inr ⟨rfl, _, hp_6, rp_ov⟩)⟩, by rw [ht]; exact hP, by rw [hAe]; exact hD⟩, hS.F ht⟩) hS.2.2 dL_restoreSnapshot_16
