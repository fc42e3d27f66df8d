theorem dL_filling_0 : decode cL_filling 0 = .ok (.aload_n 2, 1) := by decide +kernel
theorem dL_filling_1 : decode cL_filling 1 = .ok (.iconst 0, 1) := by decide +kernel
theorem dL_filling_2 : decode cL_filling 2 = .ok (.aload_n 0, 1) := by decide +kernel
theorem dL_filling_3 : decode cL_filling 3 = .ok (.iload_n 1, 1) := by decide +kernel
theorem dL_filling_4 : decode cL_filling 4 = .ok (.invokevirtual 79, 3) := by decide +kernel
theorem dL_filling_7 : decode cL_filling 7 = .ok (.i2l, 1) := by decide +kernel
theorem dL_filling_8 : decode cL_filling 8 = .ok (.lastore, 1) := by decide +kernel
theorem dL_filling_9 : decode cL_filling 9 = .ok (.goto 6, 3) := by decide +kernel
theorem dL_filling_12 : decode cL_filling 12 = .ok (.astore_n 3, 1) := by decide +kernel
theorem dL_filling_13 : decode cL_filling 13 = .ok (.iconst 1, 1) := by decide +kernel
theorem dL_filling_14 : decode cL_filling 14 = .ok (.ireturn, 1) := by decide +kernel
theorem dL_filling_15 : decode cL_filling 15 = .ok (.iconst 0, 1) := by decide +kernel
theorem dL_filling_16 : decode cL_filling 16 = .ok (.ireturn, 1) := by decide +kernel
set_option maxRecDepth 100000 in
set_option maxHeartbeats 4000000 in
theorem tl_filling (l : Launch) (hfl : l.stackTraces = false) (D : va_G) (ct : Nat → ClassId) (S : ty_S) (ws : va_W) (ph : va_W → Prop) (xx : Nat → Nat → Nat → Prop) (x : Nat) (w : Nat) (sp : Nat) (sv : Nat) (bu : Nat) (ns : Nat) (bl : Int32) (le : Int32) (p1 : Int32) (ov : Nat) (o : Nat → Int64) (sz : Nat) (hT : ty_V ct S ph ws) (h_w : S w = some (.inl 9)) (h_sp : S sp = some (.inl 9)) (h_sv : S sv = some (.inr (4, ns))) (hph : ty_C ph xx) (hy1 : ty_y1 xx) (hy11 : ty_y0 xx 11) : Met l yL_filling (wsw_ yL_filling cL_filling 4 (some .int) [(0, 9, 12, 32)]) ({ frames := 8, cells := 1, slots := 6, locals := 133 } : Room) (va_Pc [.ref x, .int p1, .ref ov] (cmPn D ct sz ([(ty_XO x w sp sv bu bl le), (ov, .inl (ct 1, 1, .inr (.inl o)))] ++ ws))) (va_Qi (fun (r : Int32) (u : va_W × (Nat → Int64)) => match u with | (u9, o1) => ty_V ct S ph u9) (cmB D ([(ty_XO x w sp sv bu bl le), (ov, .inl (ct 1, 1, .inr (.inl o)))] ++ ws) sz (fun (u : va_W × (Nat → Int64)) => match u with | (u9, o1) => ([(ty_XO x w sp sv bu bl le), (ov, .inl (ct 1, 1, .inr (.inl o1)))] ++ u9))) (va_A ([(ty_XO x w sp sv bu bl le), (ov, .inl (ct 1, 1, .inr (.inl o)))] ++ ws) sz)) 1 6 (va_A ([(ty_XO x w sp sv bu bl le), (ov, .inl (ct 1, 1, .inr (.inl o)))] ++ ws) sz) := by
  refine va_MetW (cc := cL_filling) (maxL := 4) (ret := (some .int)) (hh := [(0, 9, 12, 32)]) (by decide) rfl ?_
  intro p e s m args below meth c s₁ B hml hv
  have hts0 := atoms_spec (ws := wsw_ yL_filling cL_filling 4 (some .int) [(0, 9, 12, 32)]) B.pre
  have hts : ∀ w ∈ cm_all, w.before args s = true := fun w h => hts0 w (List.mem_cons_of_mem _ h)
  obtain ⟨rfl, ⟨hsz, hP, hK, hD0, hX⟩, hNc⟩ := hv
  have hx := B.exec
  have hb := B.bytes
  have hr := B.returns
  have htab := vx_table (x := yL_filling) B (hts0 _ List.mem_cons_self)
  have hown : s.vm.findClass RL = some m.cls := findClass_of_methodNamed B.named
  have hlocks := B.notSynchronized
  subst hsz
  have hD := hD0.self (sz := s.heap.size)
  generalize hAe : va_A ([(ty_XO x w sp sv bu bl le), (ov, .inl (ct 1, 1, .inr (.inl o)))] ++ ws) s.heap.size = A at hD hX ⊢
  have hA : ∀ q : Nat, s.heap.size ≤ q → A q := fun q h => by rw [← hAe]; exact Or.inr h
  have hS : va_S A s.heap s.heap [] := va_S.rf
  have hl := lv_entry ([.ref x, .int p1, .ref ov]) (n := 4) (Nat.le_of_ble_eq_true rfl)
  rw [lg_entry_eq]
  generalize (lg_sl ([.ref x, .int p1, .ref ov]) ++ List.replicate (4 - (lg_sl ([.ref x, .int p1, .ref ov])).length) Slot.unset).toArray = ls at hl ⊢
  have hl : lv_has ls 4 [(0, .ref x), (1, .int p1), (2, .ref ov)] := hl
  refine lv_aload_n hx hb dL_filling_0 rfl (lv_at hl 2 rfl) ?_
  refine lv_iconst (v := 0) hx hb dL_filling_1 (by decide) ?_
  refine lv_aload_n hx hb dL_filling_2 rfl (lv_at hl 0 rfl) ?_
  refine lv_iload_n hx hb dL_filling_3 rfl (lv_at hl 1 rfl) ?_
  have hP : va_P D vwCl ([(ov, .inl (ct 1, 1, .inr (.inl o))), (ty_XO x w sp sv bu bl le)] ++ ws) s.heap := ty_permP hP (ty_ordp (E := [(ty_XO x w sp sv bu bl le), (ov, .inl (ct 1, 1, .inr (.inl o)))]) (E2 := [(ov, .inl (ct 1, 1, .inr (.inl o))), (ty_XO x w sp sv bu bl le)]) (n := 2) [1, 0] rfl rfl (by decide))
  have hD : va_D A ([(ov, .inl (ct 1, 1, .inr (.inl o))), (ty_XO x w sp sv bu bl le)] ++ ws) := ty_permD hD (ty_ordp (E := [(ty_XO x w sp sv bu bl le), (ov, .inl (ct 1, 1, .inr (.inl o)))]) (E2 := [(ov, .inl (ct 1, 1, .inr (.inl o))), (ty_XO x w sp sv bu bl le)]) (n := 2) [1, 0] rfl rfl (by decide))
  refine ty_xi (wr := [(ov, .inl (ct 1, 1, .inr (.inl o)))]) (wc := ([(ty_XO x w sp sv bu bl le)] ++ ws)) (vx_runV (As := [.int p1]) (rest := [.int 0, .ref ov]) ⟨hx, hb, hml, hown, hts⟩ (t_X10_filling l hfl D ct S ws ph xx x w sp sv bu ns bl le p1 _ hT h_w h_sp h_sv hph hy1) (cm_V 1 hts kc_X10_filling ki_RX10 kl_RL_79 kv_X10_filling kx_X10_filling kd_X10_filling ⟨Nat.le_of_ble_eq_true rfl, Nat.le_of_ble_eq_true rfl⟩) (ty_preE (wr := [(ov, .inl (ct 1, 1, .inr (.inl o)))]) (wc := ([(ty_XO x w sp sv bu bl le)] ++ ws)) (ci := 10) (q0 := 1) hP hK hD hS hA hX rfl rfl) rfl rfl hl.1 rfl (lv_room (Nat.le_of_ble_eq_true rfl)) dL_filling_4 ⟨Nat.le_of_ble_eq_true rfl, Nat.le_of_ble_eq_true rfl⟩) hP hD hS hA (fun E ce q9 u H locs hu hE hP hD hS hce hcv hcl => ?_) (fun r_1 u H locs hw_2 hP hD hS => ?_)
  · obtain ⟨ws_3, rfl⟩ : ∃ z, z = u := ⟨_, rfl⟩
    have hT := hu
    have hP : va_P D vwCl ([(ov, .inl (ct 1, 1, .inr (.inl o))), (ty_XO x w sp sv bu bl le)] ++ ws_3) H := hP
    have hD : va_D A ([(ov, .inl (ct 1, 1, .inr (.inl o))), (ty_XO x w sp sv bu bl le)] ++ ws_3) := hD
    obtain rfl := List.mem_singleton.mp hE
    refine vx_catch (name := "java/lang/IndexOutOfBoundsException") hown [] _ _ htab (fun z hz => absurd hz List.not_mem_nil) (by decide) (by decide) (hts _ kl_RL_32) (hts _ kcast_IOE) hce hcv hcl ?_
    refine W.eq (g2 := F0 m 12 ls [.ref q9]) rfl ?_
    refine lv_astore_n (lv' := [(3, .ref q9), (0, .ref x), (1, .int p1), (2, .ref ov)]) hx hb dL_filling_12 rfl hl (by decide) rfl (fun ls hl => ?_)
    refine lv_iconst (v := 1) hx hb dL_filling_13 (by decide) ?_
    have hP : va_P D vwCl ([(ty_XO x w sp sv bu bl le), (ov, .inl (ct 1, 1, .inr (.inl o)))] ++ ws_3) H := ty_permP hP (ty_ordp (E := [(ov, .inl (ct 1, 1, .inr (.inl o))), (ty_XO x w sp sv bu bl le)]) (E2 := [(ty_XO x w sp sv bu bl le), (ov, .inl (ct 1, 1, .inr (.inl o)))]) (n := 2) [1, 0] rfl rfl (by decide))
    have hD : va_D A ([(ty_XO x w sp sv bu bl le), (ov, .inl (ct 1, 1, .inr (.inl o)))] ++ ws_3) := ty_permD hD (ty_ordp (E := [(ov, .inl (ct 1, 1, .inr (.inl o))), (ty_XO x w sp sv bu bl le)]) (E2 := [(ty_XO x w sp sv bu bl le), (ov, .inl (ct 1, 1, .inr (.inl o)))]) (n := 2) [1, 0] rfl rfl (by decide))
    exact W.iret (v := 1) hx hb hr (fun t ht hW => ⟨⟨1, (ws_3, o), rfl, hT, by rw [ht]; exact hP, by rw [hAe]; exact hD⟩, hS.F ht⟩) hS.2.2 dL_filling_14
  · obtain ⟨ws_4, rfl⟩ : ∃ z, z = u := ⟨_, rfl⟩
    have hT := hw_2
    have hP : va_P D vwCl ([(ov, .inl (ct 1, 1, .inr (.inl o))), (ty_XO x w sp sv bu bl le)] ++ ws_4) H := hP
    have hD : va_D A ([(ov, .inl (ct 1, 1, .inr (.inl o))), (ty_XO x w sp sv bu bl le)] ++ ws_4) := hD
    refine W.widen (k := 1) (n := 6) (Nat.le_of_ble_eq_true rfl) (Nat.le_of_ble_eq_true rfl) ?_
    refine lv_i2l hx hb dL_filling_7 rfl ?_
    refine lv_topl (fun x_5 _ => ?_)
    refine va_last hx hb hK hP hD hS 0 1 rfl rfl (cm_vin (by decide)) dL_filling_8 (fun H locs hP hD hS => ?_)
    have hP : va_P D vwCl ([(ov, .inl (ct 1, 1, .inr (.inl (vp_updL o (0 : Int32).toNatClampNeg x_5)))), (ty_XO x w sp sv bu bl le)] ++ ws_4) H := hP
    have hD : va_D A ([(ov, .inl (ct 1, 1, .inr (.inl (vp_updL o (0 : Int32).toNatClampNeg x_5)))), (ty_XO x w sp sv bu bl le)] ++ ws_4) := hD
    refine lv_goto (tgt := 15) hx hb dL_filling_9 (by decide) ?_
    refine lv_iconst (v := 0) hx hb dL_filling_15 (by decide) ?_
    have hP : va_P D vwCl ([(ty_XO x w sp sv bu bl le), (ov, .inl (ct 1, 1, .inr (.inl (vp_updL o (0 : Int32).toNatClampNeg x_5))))] ++ ws_4) H := ty_permP hP (ty_ordp (E := [(ov, .inl (ct 1, 1, .inr (.inl (vp_updL o (0 : Int32).toNatClampNeg x_5)))), (ty_XO x w sp sv bu bl le)]) (E2 := [(ty_XO x w sp sv bu bl le), (ov, .inl (ct 1, 1, .inr (.inl (vp_updL o (0 : Int32).toNatClampNeg x_5))))]) (n := 2) [1, 0] rfl rfl (by decide))
    have hD : va_D A ([(ty_XO x w sp sv bu bl le), (ov, .inl (ct 1, 1, .inr (.inl (vp_updL o (0 : Int32).toNatClampNeg x_5))))] ++ ws_4) := ty_permD hD (ty_ordp (E := [(ov, .inl (ct 1, 1, .inr (.inl (vp_updL o (0 : Int32).toNatClampNeg x_5)))), (ty_XO x w sp sv bu bl le)]) (E2 := [(ty_XO x w sp sv bu bl le), (ov, .inl (ct 1, 1, .inr (.inl (vp_updL o (0 : Int32).toNatClampNeg x_5))))]) (n := 2) [1, 0] rfl rfl (by decide))
    exact W.iret (v := 0) hx hb hr (fun t ht hW => ⟨⟨0, (ws_4, (vp_updL o (0 : Int32).toNatClampNeg x_5)), rfl, hT, by rw [ht]; exact hP, by rw [hAe]; exact hD⟩, hS.F ht⟩) hS.2.2 dL_filling_16
theorem dL_ledger_0 : decode cL_ledger 0 = .ok (.aload_n 3, 1) := by decide +kernel
theorem dL_ledger_1 : decode cL_ledger 1 = .ok (.iconst 0, 1) := by decide +kernel
theorem dL_ledger_2 : decode cL_ledger 2 = .ok (.aload_n 0, 1) := by decide +kernel
theorem dL_ledger_3 : decode cL_ledger 3 = .ok (.iload_n 1, 1) := by decide +kernel
theorem dL_ledger_4 : decode cL_ledger 4 = .ok (.iload_n 2, 1) := by decide +kernel
theorem dL_ledger_5 : decode cL_ledger 5 = .ok (.invokevirtual 82, 3) := by decide +kernel
theorem dL_ledger_8 : decode cL_ledger 8 = .ok (.lastore, 1) := by decide +kernel
theorem dL_ledger_9 : decode cL_ledger 9 = .ok (.goto 11, 3) := by decide +kernel
theorem dL_ledger_12 : decode cL_ledger 12 = .ok (.astore 4, 2) := by decide +kernel
theorem dL_ledger_14 : decode cL_ledger 14 = .ok (.iconst 1, 1) := by decide +kernel
theorem dL_ledger_15 : decode cL_ledger 15 = .ok (.ireturn, 1) := by decide +kernel
theorem dL_ledger_16 : decode cL_ledger 16 = .ok (.astore 4, 2) := by decide +kernel
theorem dL_ledger_18 : decode cL_ledger 18 = .ok (.iconst 2, 1) := by decide +kernel
theorem dL_ledger_19 : decode cL_ledger 19 = .ok (.ireturn, 1) := by decide +kernel
theorem dL_ledger_20 : decode cL_ledger 20 = .ok (.iconst 0, 1) := by decide +kernel
theorem dL_ledger_21 : decode cL_ledger 21 = .ok (.ireturn, 1) := by decide +kernel
set_option maxRecDepth 100000 in
set_option maxHeartbeats 4000000 in
theorem tl_ledger (l : Launch) (hfl : l.stackTraces = false) (D : va_G) (ct : Nat → ClassId) (S : ty_S) (ws : va_W) (ph : va_W → Prop) (xx : Nat → Nat → Nat → Prop) (x : Nat) (w : Nat) (sp : Nat) (sv : Nat) (bu : Nat) (ns : Nat) (bl : Int32) (le : Int32) (p1 : Int32) (p2 : Int32) (ov : Nat) (o : Nat → Int64) (sz : Nat) (hT : ty_V ct S ph ws) (h_w : S w = some (.inl 9)) (h_sp : S sp = some (.inl 9)) (h_sv : S sv = some (.inr (4, ns))) (hph : ty_C ph xx) (hy1 : ty_y1 xx) (hy11 : ty_y0 xx 11) : Met l yL_ledger (wsw_ yL_ledger cL_ledger 5 (some .int) [(0, 9, 12, 32), (0, 9, 16, 13)]) ({ frames := 8, cells := 2, slots := 12, locals := 135 } : Room) (va_Pc [.ref x, .int p1, .int p2, .ref ov] (cmPn D ct sz ([(ty_XO x w sp sv bu bl le), (ov, .inl (ct 1, 1, .inr (.inl o)))] ++ ws))) (va_Qi (fun (r : Int32) (u : va_W × (Nat → Int64)) => match u with | (u9, o1) => ty_V ct S ph u9) (cmB D ([(ty_XO x w sp sv bu bl le), (ov, .inl (ct 1, 1, .inr (.inl o)))] ++ ws) sz (fun (u : va_W × (Nat → Int64)) => match u with | (u9, o1) => ([(ty_XO x w sp sv bu bl le), (ov, .inl (ct 1, 1, .inr (.inl o1)))] ++ u9))) (va_A ([(ty_XO x w sp sv bu bl le), (ov, .inl (ct 1, 1, .inr (.inl o)))] ++ ws) sz)) 2 12 (va_A ([(ty_XO x w sp sv bu bl le), (ov, .inl (ct 1, 1, .inr (.inl o)))] ++ ws) sz) := by
  refine va_MetW (cc := cL_ledger) (maxL := 5) (ret := (some .int)) (hh := [(0, 9, 12, 32), (0, 9, 16, 13)]) (by decide) rfl ?_
  intro p e s m args below meth c s₁ B hml hv
  have hts0 := atoms_spec (ws := wsw_ yL_ledger cL_ledger 5 (some .int) [(0, 9, 12, 32), (0, 9, 16, 13)]) B.pre
  have hts : ∀ w ∈ cm_all, w.before args s = true := fun w h => hts0 w (List.mem_cons_of_mem _ h)
  obtain ⟨rfl, ⟨hsz, hP, hK, hD0, hX⟩, hNc⟩ := hv
  have hx := B.exec
  have hb := B.bytes
  have hr := B.returns
  have htab := vx_table (x := yL_ledger) B (hts0 _ List.mem_cons_self)
  have hown : s.vm.findClass RL = some m.cls := findClass_of_methodNamed B.named
  have hlocks := B.notSynchronized
  subst hsz
  have hD := hD0.self (sz := s.heap.size)
  generalize hAe : va_A ([(ty_XO x w sp sv bu bl le), (ov, .inl (ct 1, 1, .inr (.inl o)))] ++ ws) s.heap.size = A at hD hX ⊢
  have hA : ∀ q : Nat, s.heap.size ≤ q → A q := fun q h => by rw [← hAe]; exact Or.inr h
  have hS : va_S A s.heap s.heap [] := va_S.rf
  have hl := lv_entry ([.ref x, .int p1, .int p2, .ref ov]) (n := 5) (Nat.le_of_ble_eq_true rfl)
  rw [lg_entry_eq]
  generalize (lg_sl ([.ref x, .int p1, .int p2, .ref ov]) ++ List.replicate (5 - (lg_sl ([.ref x, .int p1, .int p2, .ref ov])).length) Slot.unset).toArray = ls at hl ⊢
  have hl : lv_has ls 5 [(0, .ref x), (1, .int p1), (2, .int p2), (3, .ref ov)] := hl
  refine lv_aload_n hx hb dL_ledger_0 rfl (lv_at hl 3 rfl) ?_
  refine lv_iconst (v := 0) hx hb dL_ledger_1 (by decide) ?_
  refine lv_aload_n hx hb dL_ledger_2 rfl (lv_at hl 0 rfl) ?_
  refine lv_iload_n hx hb dL_ledger_3 rfl (lv_at hl 1 rfl) ?_
  refine lv_iload_n hx hb dL_ledger_4 rfl (lv_at hl 2 rfl) ?_
  have hP : va_P D vwCl ([(ov, .inl (ct 1, 1, .inr (.inl o))), (ty_XO x w sp sv bu bl le)] ++ ws) s.heap := ty_permP hP (ty_ordp (E := [(ty_XO x w sp sv bu bl le), (ov, .inl (ct 1, 1, .inr (.inl o)))]) (E2 := [(ov, .inl (ct 1, 1, .inr (.inl o))), (ty_XO x w sp sv bu bl le)]) (n := 2) [1, 0] rfl rfl (by decide))
  have hD : va_D A ([(ov, .inl (ct 1, 1, .inr (.inl o))), (ty_XO x w sp sv bu bl le)] ++ ws) := ty_permD hD (ty_ordp (E := [(ty_XO x w sp sv bu bl le), (ov, .inl (ct 1, 1, .inr (.inl o)))]) (E2 := [(ov, .inl (ct 1, 1, .inr (.inl o))), (ty_XO x w sp sv bu bl le)]) (n := 2) [1, 0] rfl rfl (by decide))
  refine ty_xl (wr := [(ov, .inl (ct 1, 1, .inr (.inl o)))]) (wc := ([(ty_XO x w sp sv bu bl le)] ++ ws)) (vx_runV (As := [.int p1, .int p2]) (rest := [.int 0, .ref ov]) ⟨hx, hb, hml, hown, hts⟩ (t_X10_ledger l hfl D ct S ws ph xx x w sp sv bu ns bl le p1 p2 _ hT h_w h_sp h_sv hph hy1) (cm_V 2 hts kc_X10_ledger ki_RX10 kl_RL_82 kv_X10_ledger kx_X10_ledger kd_X10_ledger ⟨Nat.le_of_ble_eq_true rfl, Nat.le_of_ble_eq_true rfl⟩) (ty_preE (wr := [(ov, .inl (ct 1, 1, .inr (.inl o)))]) (wc := ([(ty_XO x w sp sv bu bl le)] ++ ws)) (ci := 10) (q0 := 1) hP hK hD hS hA hX rfl rfl) rfl rfl hl.1 rfl (lv_room (Nat.le_of_ble_eq_true rfl)) dL_ledger_5 ⟨Nat.le_of_ble_eq_true rfl, Nat.le_of_ble_eq_true rfl⟩) hP hD hS hA (fun E ce q9 u H locs hu hE hP hD hS hce hcv hcl => ?_) (fun r_1 u H locs hw_2 hP hD hS => ?_)
  · obtain ⟨ws_3, rfl⟩ : ∃ z, z = u := ⟨_, rfl⟩
    have hT := hu
    have hP : va_P D vwCl ([(ov, .inl (ct 1, 1, .inr (.inl o))), (ty_XO x w sp sv bu bl le)] ++ ws_3) H := hP
    have hD : va_D A ([(ov, .inl (ct 1, 1, .inr (.inl o))), (ty_XO x w sp sv bu bl le)] ++ ws_3) := hD
    rcases List.mem_cons.mp hE with rfl | hE
    · refine vx_catch (name := "java/lang/IllegalArgumentException") hown [_] _ _ htab (fun z hz => by obtain rfl := List.mem_singleton.mp hz; exact Or.inr ⟨by decide, _, hts _ kl_RL_32, hNc⟩) (by decide) (by decide) (hts _ kl_RL_13) (hts _ kcast_IAE) hce hcv hcl ?_
      refine W.eq (g2 := F0 m 16 ls [.ref q9]) rfl ?_
      refine lv_astore (lv' := [(4, .ref q9), (0, .ref x), (1, .int p1), (2, .int p2), (3, .ref ov)]) hx hb dL_ledger_16 hl (by decide) rfl (fun ls hl => ?_)
      refine lv_iconst (v := 2) hx hb dL_ledger_18 (by decide) ?_
      have hP : va_P D vwCl ([(ty_XO x w sp sv bu bl le), (ov, .inl (ct 1, 1, .inr (.inl o)))] ++ ws_3) H := ty_permP hP (ty_ordp (E := [(ov, .inl (ct 1, 1, .inr (.inl o))), (ty_XO x w sp sv bu bl le)]) (E2 := [(ty_XO x w sp sv bu bl le), (ov, .inl (ct 1, 1, .inr (.inl o)))]) (n := 2) [1, 0] rfl rfl (by decide))
      have hD : va_D A ([(ty_XO x w sp sv bu bl le), (ov, .inl (ct 1, 1, .inr (.inl o)))] ++ ws_3) := ty_permD hD (ty_ordp (E := [(ov, .inl (ct 1, 1, .inr (.inl o))), (ty_XO x w sp sv bu bl le)]) (E2 := [(ty_XO x w sp sv bu bl le), (ov, .inl (ct 1, 1, .inr (.inl o)))]) (n := 2) [1, 0] rfl rfl (by decide))
      exact W.iret (v := 2) hx hb hr (fun t ht hW => ⟨⟨2, (ws_3, o), rfl, hT, by rw [ht]; exact hP, by rw [hAe]; exact hD⟩, hS.F ht⟩) hS.2.2 dL_ledger_19
    · obtain rfl := List.mem_singleton.mp hE
      refine vx_catch (name := "java/lang/IndexOutOfBoundsException") hown [] _ _ htab (fun z hz => absurd hz List.not_mem_nil) (by decide) (by decide) (hts _ kl_RL_32) (hts _ kcast_IOE) hce hcv hcl ?_
      refine W.eq (g2 := F0 m 12 ls [.ref q9]) rfl ?_
      refine lv_astore (lv' := [(4, .ref q9), (0, .ref x), (1, .int p1), (2, .int p2), (3, .ref ov)]) hx hb dL_ledger_12 hl (by decide) rfl (fun ls hl => ?_)
      refine lv_iconst (v := 1) hx hb dL_ledger_14 (by decide) ?_
      have hP : va_P D vwCl ([(ty_XO x w sp sv bu bl le), (ov, .inl (ct 1, 1, .inr (.inl o)))] ++ ws_3) H := ty_permP hP (ty_ordp (E := [(ov, .inl (ct 1, 1, .inr (.inl o))), (ty_XO x w sp sv bu bl le)]) (E2 := [(ty_XO x w sp sv bu bl le), (ov, .inl (ct 1, 1, .inr (.inl o)))]) (n := 2) [1, 0] rfl rfl (by decide))
      have hD : va_D A ([(ty_XO x w sp sv bu bl le), (ov, .inl (ct 1, 1, .inr (.inl o)))] ++ ws_3) := ty_permD hD (ty_ordp (E := [(ov, .inl (ct 1, 1, .inr (.inl o))), (ty_XO x w sp sv bu bl le)]) (E2 := [(ty_XO x w sp sv bu bl le), (ov, .inl (ct 1, 1, .inr (.inl o)))]) (n := 2) [1, 0] rfl rfl (by decide))
      exact W.iret (v := 1) hx hb hr (fun t ht hW => ⟨⟨1, (ws_3, o), rfl, hT, by rw [ht]; exact hP, by rw [hAe]; exact hD⟩, hS.F ht⟩) hS.2.2 dL_ledger_15
  · obtain ⟨ws_4, rfl⟩ : ∃ z, z = u := ⟨_, rfl⟩
    have hT := hw_2
    have hP : va_P D vwCl ([(ov, .inl (ct 1, 1, .inr (.inl o))), (ty_XO x w sp sv bu bl le)] ++ ws_4) H := hP
    have hD : va_D A ([(ov, .inl (ct 1, 1, .inr (.inl o))), (ty_XO x w sp sv bu bl le)] ++ ws_4) := hD
    refine W.widen (k := 2) (n := 12) (Nat.le_of_ble_eq_true rfl) (Nat.le_of_ble_eq_true rfl) ?_
    refine va_last hx hb hK hP hD hS 0 1 rfl rfl (cm_vin (by decide)) dL_ledger_8 (fun H locs hP hD hS => ?_)
    have hP : va_P D vwCl ([(ov, .inl (ct 1, 1, .inr (.inl (vp_updL o (0 : Int32).toNatClampNeg r_1)))), (ty_XO x w sp sv bu bl le)] ++ ws_4) H := hP
    have hD : va_D A ([(ov, .inl (ct 1, 1, .inr (.inl (vp_updL o (0 : Int32).toNatClampNeg r_1)))), (ty_XO x w sp sv bu bl le)] ++ ws_4) := hD
    refine lv_goto (tgt := 20) hx hb dL_ledger_9 (by decide) ?_
    refine lv_iconst (v := 0) hx hb dL_ledger_20 (by decide) ?_
    have hP : va_P D vwCl ([(ty_XO x w sp sv bu bl le), (ov, .inl (ct 1, 1, .inr (.inl (vp_updL o (0 : Int32).toNatClampNeg r_1))))] ++ ws_4) H := ty_permP hP (ty_ordp (E := [(ov, .inl (ct 1, 1, .inr (.inl (vp_updL o (0 : Int32).toNatClampNeg r_1)))), (ty_XO x w sp sv bu bl le)]) (E2 := [(ty_XO x w sp sv bu bl le), (ov, .inl (ct 1, 1, .inr (.inl (vp_updL o (0 : Int32).toNatClampNeg r_1))))]) (n := 2) [1, 0] rfl rfl (by decide))
    have hD : va_D A ([(ty_XO x w sp sv bu bl le), (ov, .inl (ct 1, 1, .inr (.inl (vp_updL o (0 : Int32).toNatClampNeg r_1))))] ++ ws_4) := ty_permD hD (ty_ordp (E := [(ov, .inl (ct 1, 1, .inr (.inl (vp_updL o (0 : Int32).toNatClampNeg r_1)))), (ty_XO x w sp sv bu bl le)]) (E2 := [(ty_XO x w sp sv bu bl le), (ov, .inl (ct 1, 1, .inr (.inl (vp_updL o (0 : Int32).toNatClampNeg r_1))))]) (n := 2) [1, 0] rfl rfl (by decide))
    exact W.iret (v := 0) hx hb hr (fun t ht hW => ⟨⟨0, (ws_4, (vp_updL o (0 : Int32).toNatClampNeg r_1)), rfl, hT, by rw [ht]; exact hP, by rw [hAe]; exact hD⟩, hS.F ht⟩) hS.2.2 dL_ledger_21
theorem dL_chargeEfficiency_0 : decode cL_chargeEfficiency 0 = .ok (.aload_n 2, 1) := by decide +kernel
theorem dL_chargeEfficiency_1 : decode cL_chargeEfficiency 1 = .ok (.iconst 0, 1) := by decide +kernel
theorem dL_chargeEfficiency_2 : decode cL_chargeEfficiency 2 = .ok (.aload_n 0, 1) := by decide +kernel
theorem dL_chargeEfficiency_3 : decode cL_chargeEfficiency 3 = .ok (.iload_n 1, 1) := by decide +kernel
theorem dL_chargeEfficiency_4 : decode cL_chargeEfficiency 4 = .ok (.invokevirtual 86, 3) := by decide +kernel
theorem dL_chargeEfficiency_7 : decode cL_chargeEfficiency 7 = .ok (.f2d, 1) := by decide +kernel
theorem dL_chargeEfficiency_8 : decode cL_chargeEfficiency 8 = .ok (.dastore, 1) := by decide +kernel
theorem dL_chargeEfficiency_9 : decode cL_chargeEfficiency 9 = .ok (.goto 6, 3) := by decide +kernel
theorem dL_chargeEfficiency_12 : decode cL_chargeEfficiency 12 = .ok (.astore_n 3, 1) := by decide +kernel
theorem dL_chargeEfficiency_13 : decode cL_chargeEfficiency 13 = .ok (.iconst 1, 1) := by decide +kernel
theorem dL_chargeEfficiency_14 : decode cL_chargeEfficiency 14 = .ok (.ireturn, 1) := by decide +kernel
theorem dL_chargeEfficiency_15 : decode cL_chargeEfficiency 15 = .ok (.iconst 0, 1) := by decide +kernel
theorem dL_chargeEfficiency_16 : decode cL_chargeEfficiency 16 = .ok (.ireturn, 1) := by decide +kernel
set_option maxRecDepth 100000 in
set_option maxHeartbeats 4000000 in
theorem tl_chargeEfficiency (l : Launch) (hfl : l.stackTraces = false) (D : va_G) (ct : Nat → ClassId) (S : ty_S) (ws : va_W) (ph : va_W → Prop) (xx : Nat → Nat → Nat → Prop) (x : Nat) (w : Nat) (sp : Nat) (sv : Nat) (bu : Nat) (ns : Nat) (bl : Int32) (le : Int32) (p1 : Int32) (od : Nat) (v : Nat → UInt64) (sz : Nat) (hT : ty_V ct S ph ws) (h_w : S w = some (.inl 9)) (h_sp : S sp = some (.inl 9)) (h_sv : S sv = some (.inr (4, ns))) (hph : ty_C ph xx) (hy1 : ty_y1 xx) : Met l yL_chargeEfficiency (wsw_ yL_chargeEfficiency cL_chargeEfficiency 4 (some .int) [(0, 9, 12, 32)]) ({ frames := 8, cells := 1, slots := 6, locals := 134 } : Room) (va_Pc [.ref x, .int p1, .ref od] (cmPn D ct sz ([(ty_XO x w sp sv bu bl le), (od, .inl (ct 5, 1, .inr (.inr (.inr (.inl v)))))] ++ ws))) (va_Qi (fun (r : Int32) (u : va_W × (Nat → UInt64)) => match u with | (u9, v1) => ty_V ct S ph u9) (cmB D ([(ty_XO x w sp sv bu bl le), (od, .inl (ct 5, 1, .inr (.inr (.inr (.inl v)))))] ++ ws) sz (fun (u : va_W × (Nat → UInt64)) => match u with | (u9, v1) => ([(ty_XO x w sp sv bu bl le), (od, .inl (ct 5, 1, .inr (.inr (.inr (.inl v1)))))] ++ u9))) (va_A ([(ty_XO x w sp sv bu bl le), (od, .inl (ct 5, 1, .inr (.inr (.inr (.inl v)))))] ++ ws) sz)) 1 6 (va_A ([(ty_XO x w sp sv bu bl le), (od, .inl (ct 5, 1, .inr (.inr (.inr (.inl v)))))] ++ ws) sz) := by
  refine va_MetW (cc := cL_chargeEfficiency) (maxL := 4) (ret := (some .int)) (hh := [(0, 9, 12, 32)]) (by decide) rfl ?_
  intro p e s m args below meth c s₁ B hml hv
  have hts0 := atoms_spec (ws := wsw_ yL_chargeEfficiency cL_chargeEfficiency 4 (some .int) [(0, 9, 12, 32)]) B.pre
  have hts : ∀ w ∈ cm_all, w.before args s = true := fun w h => hts0 w (List.mem_cons_of_mem _ h)
  obtain ⟨rfl, ⟨hsz, hP, hK, hD0, hX⟩, hNc⟩ := hv
  have hx := B.exec
  have hb := B.bytes
  have hr := B.returns
  have htab := vx_table (x := yL_chargeEfficiency) B (hts0 _ List.mem_cons_self)
  have hown : s.vm.findClass RL = some m.cls := findClass_of_methodNamed B.named
  have hlocks := B.notSynchronized
  subst hsz
  have hD := hD0.self (sz := s.heap.size)
  generalize hAe : va_A ([(ty_XO x w sp sv bu bl le), (od, .inl (ct 5, 1, .inr (.inr (.inr (.inl v)))))] ++ ws) s.heap.size = A at hD hX ⊢
  have hA : ∀ q : Nat, s.heap.size ≤ q → A q := fun q h => by rw [← hAe]; exact Or.inr h
  have hS : va_S A s.heap s.heap [] := va_S.rf
  have hl := lv_entry ([.ref x, .int p1, .ref od]) (n := 4) (Nat.le_of_ble_eq_true rfl)
  rw [lg_entry_eq]
  generalize (lg_sl ([.ref x, .int p1, .ref od]) ++ List.replicate (4 - (lg_sl ([.ref x, .int p1, .ref od])).length) Slot.unset).toArray = ls at hl ⊢
  have hl : lv_has ls 4 [(0, .ref x), (1, .int p1), (2, .ref od)] := hl
  refine lv_aload_n hx hb dL_chargeEfficiency_0 rfl (lv_at hl 2 rfl) ?_
  refine lv_iconst (v := 0) hx hb dL_chargeEfficiency_1 (by decide) ?_
  refine lv_aload_n hx hb dL_chargeEfficiency_2 rfl (lv_at hl 0 rfl) ?_
  refine lv_iload_n hx hb dL_chargeEfficiency_3 rfl (lv_at hl 1 rfl) ?_
  have hP : va_P D vwCl ([(od, .inl (ct 5, 1, .inr (.inr (.inr (.inl v))))), (ty_XO x w sp sv bu bl le)] ++ ws) s.heap := ty_permP hP (ty_ordp (E := [(ty_XO x w sp sv bu bl le), (od, .inl (ct 5, 1, .inr (.inr (.inr (.inl v)))))]) (E2 := [(od, .inl (ct 5, 1, .inr (.inr (.inr (.inl v))))), (ty_XO x w sp sv bu bl le)]) (n := 2) [1, 0] rfl rfl (by decide))
  have hD : va_D A ([(od, .inl (ct 5, 1, .inr (.inr (.inr (.inl v))))), (ty_XO x w sp sv bu bl le)] ++ ws) := ty_permD hD (ty_ordp (E := [(ty_XO x w sp sv bu bl le), (od, .inl (ct 5, 1, .inr (.inr (.inr (.inl v)))))]) (E2 := [(od, .inl (ct 5, 1, .inr (.inr (.inr (.inl v))))), (ty_XO x w sp sv bu bl le)]) (n := 2) [1, 0] rfl rfl (by decide))
  refine ty_xf (wr := [(od, .inl (ct 5, 1, .inr (.inr (.inr (.inl v)))))]) (wc := ([(ty_XO x w sp sv bu bl le)] ++ ws)) (vx_runV (As := [.int p1]) (rest := [.int 0, .ref od]) ⟨hx, hb, hml, hown, hts⟩ (t_X10_chargeEfficiency l hfl D ct S ws ph xx x w sp sv bu ns bl le p1 _ hT h_w h_sp h_sv hph hy1) (cm_V 1 hts kc_X10_chargeEfficiency ki_RX10 kl_RL_86 kv_X10_chargeEfficiency kx_X10_chargeEfficiency kd_X10_chargeEfficiency ⟨Nat.le_of_ble_eq_true rfl, Nat.le_of_ble_eq_true rfl⟩) (ty_preE (wr := [(od, .inl (ct 5, 1, .inr (.inr (.inr (.inl v)))))]) (wc := ([(ty_XO x w sp sv bu bl le)] ++ ws)) (ci := 10) (q0 := 1) hP hK hD hS hA hX rfl rfl) rfl rfl hl.1 rfl (lv_room (Nat.le_of_ble_eq_true rfl)) dL_chargeEfficiency_4 ⟨Nat.le_of_ble_eq_true rfl, Nat.le_of_ble_eq_true rfl⟩) hP hD hS hA (fun E ce q9 u H locs hu hE hP hD hS hce hcv hcl => ?_) (fun r_1 u H locs hw_2 hP hD hS => ?_)
  · obtain ⟨ws_3, rfl⟩ : ∃ z, z = u := ⟨_, rfl⟩
    have hT := hu
    have hP : va_P D vwCl ([(od, .inl (ct 5, 1, .inr (.inr (.inr (.inl v))))), (ty_XO x w sp sv bu bl le)] ++ ws_3) H := hP
    have hD : va_D A ([(od, .inl (ct 5, 1, .inr (.inr (.inr (.inl v))))), (ty_XO x w sp sv bu bl le)] ++ ws_3) := hD
    obtain rfl := List.mem_singleton.mp hE
    refine vx_catch (name := "java/lang/IndexOutOfBoundsException") hown [] _ _ htab (fun z hz => absurd hz List.not_mem_nil) (by decide) (by decide) (hts _ kl_RL_32) (hts _ kcast_IOE) hce hcv hcl ?_
    refine W.eq (g2 := F0 m 12 ls [.ref q9]) rfl ?_
    refine lv_astore_n (lv' := [(3, .ref q9), (0, .ref x), (1, .int p1), (2, .ref od)]) hx hb dL_chargeEfficiency_12 rfl hl (by decide) rfl (fun ls hl => ?_)
    refine lv_iconst (v := 1) hx hb dL_chargeEfficiency_13 (by decide) ?_
    have hP : va_P D vwCl ([(ty_XO x w sp sv bu bl le), (od, .inl (ct 5, 1, .inr (.inr (.inr (.inl v)))))] ++ ws_3) H := ty_permP hP (ty_ordp (E := [(od, .inl (ct 5, 1, .inr (.inr (.inr (.inl v))))), (ty_XO x w sp sv bu bl le)]) (E2 := [(ty_XO x w sp sv bu bl le), (od, .inl (ct 5, 1, .inr (.inr (.inr (.inl v)))))]) (n := 2) [1, 0] rfl rfl (by decide))
    have hD : va_D A ([(ty_XO x w sp sv bu bl le), (od, .inl (ct 5, 1, .inr (.inr (.inr (.inl v)))))] ++ ws_3) := ty_permD hD (ty_ordp (E := [(od, .inl (ct 5, 1, .inr (.inr (.inr (.inl v))))), (ty_XO x w sp sv bu bl le)]) (E2 := [(ty_XO x w sp sv bu bl le), (od, .inl (ct 5, 1, .inr (.inr (.inr (.inl v)))))]) (n := 2) [1, 0] rfl rfl (by decide))
    exact W.iret (v := 1) hx hb hr (fun t ht hW => ⟨⟨1, (ws_3, v), rfl, hT, by rw [ht]; exact hP, by rw [hAe]; exact hD⟩, hS.F ht⟩) hS.2.2 dL_chargeEfficiency_14
  · obtain ⟨ws_4, rfl⟩ : ∃ z, z = u := ⟨_, rfl⟩
    obtain ⟨hT, hp_5⟩ := hw_2
    have hp_5 : vf_n32 r_1 := hp_5
    have hP : va_P D vwCl ([(od, .inl (ct 5, 1, .inr (.inr (.inr (.inl v))))), (ty_XO x w sp sv bu bl le)] ++ ws_4) H := hP
    have hD : va_D A ([(od, .inl (ct 5, 1, .inr (.inr (.inr (.inl v))))), (ty_XO x w sp sv bu bl le)] ++ ws_4) := hD
    refine W.widen (k := 1) (n := 6) (Nat.le_of_ble_eq_true rfl) (Nat.le_of_ble_eq_true rfl) ?_
    refine lv_f2d hx hb dL_chargeEfficiency_7 (fd_quo hp_5) ?_
    refine va_dast hx hb hK hP hD hS 0 5 rfl rfl (cm_vin (by decide)) dL_chargeEfficiency_8 (fun H locs hP hD hS => ?_)
    have hP : va_P D vwCl ([(od, .inl (ct 5, 1, .inr (.inr (.inr (.inl (vf_upd v (0 : Int32).toNatClampNeg (FP.f2d r_1))))))), (ty_XO x w sp sv bu bl le)] ++ ws_4) H := hP
    have hD : va_D A ([(od, .inl (ct 5, 1, .inr (.inr (.inr (.inl (vf_upd v (0 : Int32).toNatClampNeg (FP.f2d r_1))))))), (ty_XO x w sp sv bu bl le)] ++ ws_4) := hD
    refine lv_goto (tgt := 15) hx hb dL_chargeEfficiency_9 (by decide) ?_
    refine lv_iconst (v := 0) hx hb dL_chargeEfficiency_15 (by decide) ?_
    have hP : va_P D vwCl ([(ty_XO x w sp sv bu bl le), (od, .inl (ct 5, 1, .inr (.inr (.inr (.inl (vf_upd v (0 : Int32).toNatClampNeg (FP.f2d r_1)))))))] ++ ws_4) H := ty_permP hP (ty_ordp (E := [(od, .inl (ct 5, 1, .inr (.inr (.inr (.inl (vf_upd v (0 : Int32).toNatClampNeg (FP.f2d r_1))))))), (ty_XO x w sp sv bu bl le)]) (E2 := [(ty_XO x w sp sv bu bl le), (od, .inl (ct 5, 1, .inr (.inr (.inr (.inl (vf_upd v (0 : Int32).toNatClampNeg (FP.f2d r_1)))))))]) (n := 2) [1, 0] rfl rfl (by decide))
    have hD : va_D A ([(ty_XO x w sp sv bu bl le), (od, .inl (ct 5, 1, .inr (.inr (.inr (.inl (vf_upd v (0 : Int32).toNatClampNeg (FP.f2d r_1)))))))] ++ ws_4) := ty_permD hD (ty_ordp (E := [(od, .inl (ct 5, 1, .inr (.inr (.inr (.inl (vf_upd v (0 : Int32).toNatClampNeg (FP.f2d r_1))))))), (ty_XO x w sp sv bu bl le)]) (E2 := [(ty_XO x w sp sv bu bl le), (od, .inl (ct 5, 1, .inr (.inr (.inr (.inl (vf_upd v (0 : Int32).toNatClampNeg (FP.f2d r_1)))))))]) (n := 2) [1, 0] rfl rfl (by decide))
    exact W.iret (v := 0) hx hb hr (fun t ht hW => ⟨⟨0, (ws_4, (vf_upd v (0 : Int32).toNatClampNeg (FP.f2d r_1))), rfl, hT, by rw [ht]; exact hP, by rw [hAe]; exact hD⟩, hS.F ht⟩) hS.2.2 dL_chargeEfficiency_16
theorem dL_energyEfficiency_0 : decode cL_energyEfficiency 0 = .ok (.aload_n 2, 1) := by decide +kernel
theorem dL_energyEfficiency_1 : decode cL_energyEfficiency 1 = .ok (.iconst 0, 1) := by decide +kernel
theorem dL_energyEfficiency_2 : decode cL_energyEfficiency 2 = .ok (.aload_n 0, 1) := by decide +kernel
theorem dL_energyEfficiency_3 : decode cL_energyEfficiency 3 = .ok (.iload_n 1, 1) := by decide +kernel
theorem dL_energyEfficiency_4 : decode cL_energyEfficiency 4 = .ok (.invokevirtual 90, 3) := by decide +kernel
theorem dL_energyEfficiency_7 : decode cL_energyEfficiency 7 = .ok (.dastore, 1) := by decide +kernel
theorem dL_energyEfficiency_8 : decode cL_energyEfficiency 8 = .ok (.goto 6, 3) := by decide +kernel
theorem dL_energyEfficiency_11 : decode cL_energyEfficiency 11 = .ok (.astore_n 3, 1) := by decide +kernel
theorem dL_energyEfficiency_12 : decode cL_energyEfficiency 12 = .ok (.iconst 1, 1) := by decide +kernel
theorem dL_energyEfficiency_13 : decode cL_energyEfficiency 13 = .ok (.ireturn, 1) := by decide +kernel
theorem dL_energyEfficiency_14 : decode cL_energyEfficiency 14 = .ok (.iconst 0, 1) := by decide +kernel
theorem dL_energyEfficiency_15 : decode cL_energyEfficiency 15 = .ok (.ireturn, 1) := by decide +kernel
set_option maxRecDepth 100000 in
set_option maxHeartbeats 4000000 in
theorem tl_energyEfficiency (l : Launch) (hfl : l.stackTraces = false) (D : va_G) (ct : Nat → ClassId) (S : ty_S) (ws : va_W) (ph : va_W → Prop) (xx : Nat → Nat → Nat → Prop) (x : Nat) (w : Nat) (sp : Nat) (sv : Nat) (bu : Nat) (ns : Nat) (bl : Int32) (le : Int32) (p1 : Int32) (od : Nat) (v : Nat → UInt64) (sz : Nat) (hT : ty_V ct S ph ws) (h_w : S w = some (.inl 9)) (h_sp : S sp = some (.inl 9)) (h_sv : S sv = some (.inr (4, ns))) (hph : ty_C ph xx) (hy1 : ty_y1 xx) : Met l yL_energyEfficiency (wsw_ yL_energyEfficiency cL_energyEfficiency 4 (some .int) [(0, 8, 11, 32)]) ({ frames := 8, cells := 1, slots := 6, locals := 134 } : Room) (va_Pc [.ref x, .int p1, .ref od] (cmPn D ct sz ([(ty_XO x w sp sv bu bl le), (od, .inl (ct 5, 1, .inr (.inr (.inr (.inl v)))))] ++ ws))) (va_Qi (fun (r : Int32) (u : va_W × (Nat → UInt64)) => match u with | (u9, v1) => ty_V ct S ph u9) (cmB D ([(ty_XO x w sp sv bu bl le), (od, .inl (ct 5, 1, .inr (.inr (.inr (.inl v)))))] ++ ws) sz (fun (u : va_W × (Nat → UInt64)) => match u with | (u9, v1) => ([(ty_XO x w sp sv bu bl le), (od, .inl (ct 5, 1, .inr (.inr (.inr (.inl v1)))))] ++ u9))) (va_A ([(ty_XO x w sp sv bu bl le), (od, .inl (ct 5, 1, .inr (.inr (.inr (.inl v)))))] ++ ws) sz)) 1 6 (va_A ([(ty_XO x w sp sv bu bl le), (od, .inl (ct 5, 1, .inr (.inr (.inr (.inl v)))))] ++ ws) sz) := by
  refine va_MetW (cc := cL_energyEfficiency) (maxL := 4) (ret := (some .int)) (hh := [(0, 8, 11, 32)]) (by decide) rfl ?_
  intro p e s m args below meth c s₁ B hml hv
  have hts0 := atoms_spec (ws := wsw_ yL_energyEfficiency cL_energyEfficiency 4 (some .int) [(0, 8, 11, 32)]) B.pre
  have hts : ∀ w ∈ cm_all, w.before args s = true := fun w h => hts0 w (List.mem_cons_of_mem _ h)
  obtain ⟨rfl, ⟨hsz, hP, hK, hD0, hX⟩, hNc⟩ := hv
  have hx := B.exec
  have hb := B.bytes
  have hr := B.returns
  have htab := vx_table (x := yL_energyEfficiency) B (hts0 _ List.mem_cons_self)
  have hown : s.vm.findClass RL = some m.cls := findClass_of_methodNamed B.named
  have hlocks := B.notSynchronized
  subst hsz
  have hD := hD0.self (sz := s.heap.size)
  generalize hAe : va_A ([(ty_XO x w sp sv bu bl le), (od, .inl (ct 5, 1, .inr (.inr (.inr (.inl v)))))] ++ ws) s.heap.size = A at hD hX ⊢
  have hA : ∀ q : Nat, s.heap.size ≤ q → A q := fun q h => by rw [← hAe]; exact Or.inr h
  have hS : va_S A s.heap s.heap [] := va_S.rf
  have hl := lv_entry ([.ref x, .int p1, .ref od]) (n := 4) (Nat.le_of_ble_eq_true rfl)
  rw [lg_entry_eq]
  generalize (lg_sl ([.ref x, .int p1, .ref od]) ++ List.replicate (4 - (lg_sl ([.ref x, .int p1, .ref od])).length) Slot.unset).toArray = ls at hl ⊢
  have hl : lv_has ls 4 [(0, .ref x), (1, .int p1), (2, .ref od)] := hl
  refine lv_aload_n hx hb dL_energyEfficiency_0 rfl (lv_at hl 2 rfl) ?_
  refine lv_iconst (v := 0) hx hb dL_energyEfficiency_1 (by decide) ?_
  refine lv_aload_n hx hb dL_energyEfficiency_2 rfl (lv_at hl 0 rfl) ?_
  refine lv_iload_n hx hb dL_energyEfficiency_3 rfl (lv_at hl 1 rfl) ?_
  have hP : va_P D vwCl ([(od, .inl (ct 5, 1, .inr (.inr (.inr (.inl v))))), (ty_XO x w sp sv bu bl le)] ++ ws) s.heap := ty_permP hP (ty_ordp (E := [(ty_XO x w sp sv bu bl le), (od, .inl (ct 5, 1, .inr (.inr (.inr (.inl v)))))]) (E2 := [(od, .inl (ct 5, 1, .inr (.inr (.inr (.inl v))))), (ty_XO x w sp sv bu bl le)]) (n := 2) [1, 0] rfl rfl (by decide))
  have hD : va_D A ([(od, .inl (ct 5, 1, .inr (.inr (.inr (.inl v))))), (ty_XO x w sp sv bu bl le)] ++ ws) := ty_permD hD (ty_ordp (E := [(ty_XO x w sp sv bu bl le), (od, .inl (ct 5, 1, .inr (.inr (.inr (.inl v)))))]) (E2 := [(od, .inl (ct 5, 1, .inr (.inr (.inr (.inl v))))), (ty_XO x w sp sv bu bl le)]) (n := 2) [1, 0] rfl rfl (by decide))
  refine ty_xd (wr := [(od, .inl (ct 5, 1, .inr (.inr (.inr (.inl v)))))]) (wc := ([(ty_XO x w sp sv bu bl le)] ++ ws)) (vx_runV (As := [.int p1]) (rest := [.int 0, .ref od]) ⟨hx, hb, hml, hown, hts⟩ (t_X10_energyEfficiency l hfl D ct S ws ph xx x w sp sv bu ns bl le p1 _ hT h_w h_sp h_sv hph hy1) (cm_V 1 hts kc_X10_energyEfficiency ki_RX10 kl_RL_90 kv_X10_energyEfficiency kx_X10_energyEfficiency kd_X10_energyEfficiency ⟨Nat.le_of_ble_eq_true rfl, Nat.le_of_ble_eq_true rfl⟩) (ty_preE (wr := [(od, .inl (ct 5, 1, .inr (.inr (.inr (.inl v)))))]) (wc := ([(ty_XO x w sp sv bu bl le)] ++ ws)) (ci := 10) (q0 := 1) hP hK hD hS hA hX rfl rfl) rfl rfl hl.1 rfl (lv_room (Nat.le_of_ble_eq_true rfl)) dL_energyEfficiency_4 ⟨Nat.le_of_ble_eq_true rfl, Nat.le_of_ble_eq_true rfl⟩) hP hD hS hA (fun E ce q9 u H locs hu hE hP hD hS hce hcv hcl => ?_) (fun r_1 u H locs hw_2 hP hD hS => ?_)
  · obtain ⟨ws_3, rfl⟩ : ∃ z, z = u := ⟨_, rfl⟩
    have hT := hu
    have hP : va_P D vwCl ([(od, .inl (ct 5, 1, .inr (.inr (.inr (.inl v))))), (ty_XO x w sp sv bu bl le)] ++ ws_3) H := hP
    have hD : va_D A ([(od, .inl (ct 5, 1, .inr (.inr (.inr (.inl v))))), (ty_XO x w sp sv bu bl le)] ++ ws_3) := hD
    obtain rfl := List.mem_singleton.mp hE
    refine vx_catch (name := "java/lang/IndexOutOfBoundsException") hown [] _ _ htab (fun z hz => absurd hz List.not_mem_nil) (by decide) (by decide) (hts _ kl_RL_32) (hts _ kcast_IOE) hce hcv hcl ?_
    refine W.eq (g2 := F0 m 11 ls [.ref q9]) rfl ?_
    refine lv_astore_n (lv' := [(3, .ref q9), (0, .ref x), (1, .int p1), (2, .ref od)]) hx hb dL_energyEfficiency_11 rfl hl (by decide) rfl (fun ls hl => ?_)
    refine lv_iconst (v := 1) hx hb dL_energyEfficiency_12 (by decide) ?_
    have hP : va_P D vwCl ([(ty_XO x w sp sv bu bl le), (od, .inl (ct 5, 1, .inr (.inr (.inr (.inl v)))))] ++ ws_3) H := ty_permP hP (ty_ordp (E := [(od, .inl (ct 5, 1, .inr (.inr (.inr (.inl v))))), (ty_XO x w sp sv bu bl le)]) (E2 := [(ty_XO x w sp sv bu bl le), (od, .inl (ct 5, 1, .inr (.inr (.inr (.inl v)))))]) (n := 2) [1, 0] rfl rfl (by decide))
    have hD : va_D A ([(ty_XO x w sp sv bu bl le), (od, .inl (ct 5, 1, .inr (.inr (.inr (.inl v)))))] ++ ws_3) := ty_permD hD (ty_ordp (E := [(od, .inl (ct 5, 1, .inr (.inr (.inr (.inl v))))), (ty_XO x w sp sv bu bl le)]) (E2 := [(ty_XO x w sp sv bu bl le), (od, .inl (ct 5, 1, .inr (.inr (.inr (.inl v)))))]) (n := 2) [1, 0] rfl rfl (by decide))
    exact W.iret (v := 1) hx hb hr (fun t ht hW => ⟨⟨1, (ws_3, v), rfl, hT, by rw [ht]; exact hP, by rw [hAe]; exact hD⟩, hS.F ht⟩) hS.2.2 dL_energyEfficiency_13
  · obtain ⟨ws_4, rfl⟩ : ∃ z, z = u := ⟨_, rfl⟩
    have hT := hw_2
    have hP : va_P D vwCl ([(od, .inl (ct 5, 1, .inr (.inr (.inr (.inl v))))), (ty_XO x w sp sv bu bl le)] ++ ws_4) H := hP
    have hD : va_D A ([(od, .inl (ct 5, 1, .inr (.inr (.inr (.inl v))))), (ty_XO x w sp sv bu bl le)] ++ ws_4) := hD
    refine W.widen (k := 1) (n := 6) (Nat.le_of_ble_eq_true rfl) (Nat.le_of_ble_eq_true rfl) ?_
    refine va_dast hx hb hK hP hD hS 0 5 rfl rfl (cm_vin (by decide)) dL_energyEfficiency_7 (fun H locs hP hD hS => ?_)
    have hP : va_P D vwCl ([(od, .inl (ct 5, 1, .inr (.inr (.inr (.inl (vf_upd v (0 : Int32).toNatClampNeg r_1)))))), (ty_XO x w sp sv bu bl le)] ++ ws_4) H := hP
    have hD : va_D A ([(od, .inl (ct 5, 1, .inr (.inr (.inr (.inl (vf_upd v (0 : Int32).toNatClampNeg r_1)))))), (ty_XO x w sp sv bu bl le)] ++ ws_4) := hD
    refine lv_goto (tgt := 14) hx hb dL_energyEfficiency_8 (by decide) ?_
    refine lv_iconst (v := 0) hx hb dL_energyEfficiency_14 (by decide) ?_
    have hP : va_P D vwCl ([(ty_XO x w sp sv bu bl le), (od, .inl (ct 5, 1, .inr (.inr (.inr (.inl (vf_upd v (0 : Int32).toNatClampNeg r_1))))))] ++ ws_4) H := ty_permP hP (ty_ordp (E := [(od, .inl (ct 5, 1, .inr (.inr (.inr (.inl (vf_upd v (0 : Int32).toNatClampNeg r_1)))))), (ty_XO x w sp sv bu bl le)]) (E2 := [(ty_XO x w sp sv bu bl le), (od, .inl (ct 5, 1, .inr (.inr (.inr (.inl (vf_upd v (0 : Int32).toNatClampNeg r_1))))))]) (n := 2) [1, 0] rfl rfl (by decide))
    have hD : va_D A ([(ty_XO x w sp sv bu bl le), (od, .inl (ct 5, 1, .inr (.inr (.inr (.inl (vf_upd v (0 : Int32).toNatClampNeg r_1))))))] ++ ws_4) := ty_permD hD (ty_ordp (E := [(od, .inl (ct 5, 1, .inr (.inr (.inr (.inl (vf_upd v (0 : Int32).toNatClampNeg r_1)))))), (ty_XO x w sp sv bu bl le)]) (E2 := [(ty_XO x w sp sv bu bl le), (od, .inl (ct 5, 1, .inr (.inr (.inr (.inl (vf_upd v (0 : Int32).toNatClampNeg r_1))))))]) (n := 2) [1, 0] rfl rfl (by decide))
    exact W.iret (v := 0) hx hb hr (fun t ht hW => ⟨⟨0, (ws_4, (vf_upd v (0 : Int32).toNatClampNeg r_1)), rfl, hT, by rw [ht]; exact hP, by rw [hAe]; exact hD⟩, hS.F ht⟩) hS.2.2 dL_energyEfficiency_15
theorem dL_power_0 : decode cL_power 0 = .ok (.aload_n 2, 1) := by decide +kernel
theorem dL_power_1 : decode cL_power 1 = .ok (.iconst 0, 1) := by decide +kernel
theorem dL_power_2 : decode cL_power 2 = .ok (.aload_n 0, 1) := by decide +kernel
theorem dL_power_3 : decode cL_power 3 = .ok (.iload_n 1, 1) := by decide +kernel
theorem dL_power_4 : decode cL_power 4 = .ok (.invokevirtual 94, 3) := by decide +kernel
theorem dL_power_7 : decode cL_power 7 = .ok (.i2l, 1) := by decide +kernel
theorem dL_power_8 : decode cL_power 8 = .ok (.lastore, 1) := by decide +kernel
theorem dL_power_9 : decode cL_power 9 = .ok (.goto 6, 3) := by decide +kernel
theorem dL_power_12 : decode cL_power 12 = .ok (.astore_n 3, 1) := by decide +kernel
theorem dL_power_13 : decode cL_power 13 = .ok (.iconst 1, 1) := by decide +kernel
theorem dL_power_14 : decode cL_power 14 = .ok (.ireturn, 1) := by decide +kernel
theorem dL_power_15 : decode cL_power 15 = .ok (.iconst 0, 1) := by decide +kernel
theorem dL_power_16 : decode cL_power 16 = .ok (.ireturn, 1) := by decide +kernel
set_option maxRecDepth 100000 in
set_option maxHeartbeats 4000000 in
theorem tl_power (l : Launch) (hfl : l.stackTraces = false) (D : va_G) (ct : Nat → ClassId) (S : ty_S) (ws : va_W) (ph : va_W → Prop) (xx : Nat → Nat → Nat → Prop) (x : Nat) (w : Nat) (sp : Nat) (sv : Nat) (bu : Nat) (ns : Nat) (bl : Int32) (le : Int32) (p1 : Int32) (ov : Nat) (o : Nat → Int64) (sz : Nat) (hT : ty_V ct S ph ws) (h_w : S w = some (.inl 9)) (h_sp : S sp = some (.inl 9)) (h_sv : S sv = some (.inr (4, ns))) (hph : ty_C ph xx) (hy1 : ty_y1 xx) (hy11 : ty_y0 xx 11) : Met l yL_power (wsw_ yL_power cL_power 4 (some .int) [(0, 9, 12, 32)]) ({ frames := 8, cells := 1, slots := 6, locals := 134 } : Room) (va_Pc [.ref x, .int p1, .ref ov] (cmPn D ct sz ([(ty_XO x w sp sv bu bl le), (ov, .inl (ct 1, 1, .inr (.inl o)))] ++ ws))) (va_Qi (fun (r : Int32) (u : va_W × (Nat → Int64)) => match u with | (u9, o1) => ty_V ct S ph u9) (cmB D ([(ty_XO x w sp sv bu bl le), (ov, .inl (ct 1, 1, .inr (.inl o)))] ++ ws) sz (fun (u : va_W × (Nat → Int64)) => match u with | (u9, o1) => ([(ty_XO x w sp sv bu bl le), (ov, .inl (ct 1, 1, .inr (.inl o1)))] ++ u9))) (va_A ([(ty_XO x w sp sv bu bl le), (ov, .inl (ct 1, 1, .inr (.inl o)))] ++ ws) sz)) 1 6 (va_A ([(ty_XO x w sp sv bu bl le), (ov, .inl (ct 1, 1, .inr (.inl o)))] ++ ws) sz) := by
  refine va_MetW (cc := cL_power) (maxL := 4) (ret := (some .int)) (hh := [(0, 9, 12, 32)]) (by decide) rfl ?_
  intro p e s m args below meth c s₁ B hml hv
  have hts0 := atoms_spec (ws := wsw_ yL_power cL_power 4 (some .int) [(0, 9, 12, 32)]) B.pre
  have hts : ∀ w ∈ cm_all, w.before args s = true := fun w h => hts0 w (List.mem_cons_of_mem _ h)
  obtain ⟨rfl, ⟨hsz, hP, hK, hD0, hX⟩, hNc⟩ := hv
  have hx := B.exec
  have hb := B.bytes
  have hr := B.returns
  have htab := vx_table (x := yL_power) B (hts0 _ List.mem_cons_self)
  have hown : s.vm.findClass RL = some m.cls := findClass_of_methodNamed B.named
  have hlocks := B.notSynchronized
  subst hsz
  have hD := hD0.self (sz := s.heap.size)
  generalize hAe : va_A ([(ty_XO x w sp sv bu bl le), (ov, .inl (ct 1, 1, .inr (.inl o)))] ++ ws) s.heap.size = A at hD hX ⊢
  have hA : ∀ q : Nat, s.heap.size ≤ q → A q := fun q h => by rw [← hAe]; exact Or.inr h
  have hS : va_S A s.heap s.heap [] := va_S.rf
  have hl := lv_entry ([.ref x, .int p1, .ref ov]) (n := 4) (Nat.le_of_ble_eq_true rfl)
  rw [lg_entry_eq]
  generalize (lg_sl ([.ref x, .int p1, .ref ov]) ++ List.replicate (4 - (lg_sl ([.ref x, .int p1, .ref ov])).length) Slot.unset).toArray = ls at hl ⊢
  have hl : lv_has ls 4 [(0, .ref x), (1, .int p1), (2, .ref ov)] := hl
  refine lv_aload_n hx hb dL_power_0 rfl (lv_at hl 2 rfl) ?_
  refine lv_iconst (v := 0) hx hb dL_power_1 (by decide) ?_
  refine lv_aload_n hx hb dL_power_2 rfl (lv_at hl 0 rfl) ?_
  refine lv_iload_n hx hb dL_power_3 rfl (lv_at hl 1 rfl) ?_
  have hP : va_P D vwCl ([(ov, .inl (ct 1, 1, .inr (.inl o))), (ty_XO x w sp sv bu bl le)] ++ ws) s.heap := ty_permP hP (ty_ordp (E := [(ty_XO x w sp sv bu bl le), (ov, .inl (ct 1, 1, .inr (.inl o)))]) (E2 := [(ov, .inl (ct 1, 1, .inr (.inl o))), (ty_XO x w sp sv bu bl le)]) (n := 2) [1, 0] rfl rfl (by decide))
  have hD : va_D A ([(ov, .inl (ct 1, 1, .inr (.inl o))), (ty_XO x w sp sv bu bl le)] ++ ws) := ty_permD hD (ty_ordp (E := [(ty_XO x w sp sv bu bl le), (ov, .inl (ct 1, 1, .inr (.inl o)))]) (E2 := [(ov, .inl (ct 1, 1, .inr (.inl o))), (ty_XO x w sp sv bu bl le)]) (n := 2) [1, 0] rfl rfl (by decide))
  refine ty_xi (wr := [(ov, .inl (ct 1, 1, .inr (.inl o)))]) (wc := ([(ty_XO x w sp sv bu bl le)] ++ ws)) (vx_runV (As := [.int p1]) (rest := [.int 0, .ref ov]) ⟨hx, hb, hml, hown, hts⟩ (t_X10_power l hfl D ct S ws ph xx x w sp sv bu ns bl le p1 _ hT h_w h_sp h_sv hph hy1) (cm_V 1 hts kc_X10_power ki_RX10 kl_RL_94 kv_X10_power kx_X10_power kd_X10_power ⟨Nat.le_of_ble_eq_true rfl, Nat.le_of_ble_eq_true rfl⟩) (ty_preE (wr := [(ov, .inl (ct 1, 1, .inr (.inl o)))]) (wc := ([(ty_XO x w sp sv bu bl le)] ++ ws)) (ci := 10) (q0 := 1) hP hK hD hS hA hX rfl rfl) rfl rfl hl.1 rfl (lv_room (Nat.le_of_ble_eq_true rfl)) dL_power_4 ⟨Nat.le_of_ble_eq_true rfl, Nat.le_of_ble_eq_true rfl⟩) hP hD hS hA (fun E ce q9 u H locs hu hE hP hD hS hce hcv hcl => ?_) (fun r_1 u H locs hw_2 hP hD hS => ?_)
  · obtain ⟨ws_3, rfl⟩ : ∃ z, z = u := ⟨_, rfl⟩
    have hT := hu
    have hP : va_P D vwCl ([(ov, .inl (ct 1, 1, .inr (.inl o))), (ty_XO x w sp sv bu bl le)] ++ ws_3) H := hP
    have hD : va_D A ([(ov, .inl (ct 1, 1, .inr (.inl o))), (ty_XO x w sp sv bu bl le)] ++ ws_3) := hD
    obtain rfl := List.mem_singleton.mp hE
    refine vx_catch (name := "java/lang/IndexOutOfBoundsException") hown [] _ _ htab (fun z hz => absurd hz List.not_mem_nil) (by decide) (by decide) (hts _ kl_RL_32) (hts _ kcast_IOE) hce hcv hcl ?_
    refine W.eq (g2 := F0 m 12 ls [.ref q9]) rfl ?_
    refine lv_astore_n (lv' := [(3, .ref q9), (0, .ref x), (1, .int p1), (2, .ref ov)]) hx hb dL_power_12 rfl hl (by decide) rfl (fun ls hl => ?_)
    refine lv_iconst (v := 1) hx hb dL_power_13 (by decide) ?_
    have hP : va_P D vwCl ([(ty_XO x w sp sv bu bl le), (ov, .inl (ct 1, 1, .inr (.inl o)))] ++ ws_3) H := ty_permP hP (ty_ordp (E := [(ov, .inl (ct 1, 1, .inr (.inl o))), (ty_XO x w sp sv bu bl le)]) (E2 := [(ty_XO x w sp sv bu bl le), (ov, .inl (ct 1, 1, .inr (.inl o)))]) (n := 2) [1, 0] rfl rfl (by decide))
    have hD : va_D A ([(ty_XO x w sp sv bu bl le), (ov, .inl (ct 1, 1, .inr (.inl o)))] ++ ws_3) := ty_permD hD (ty_ordp (E := [(ov, .inl (ct 1, 1, .inr (.inl o))), (ty_XO x w sp sv bu bl le)]) (E2 := [(ty_XO x w sp sv bu bl le), (ov, .inl (ct 1, 1, .inr (.inl o)))]) (n := 2) [1, 0] rfl rfl (by decide))
    exact W.iret (v := 1) hx hb hr (fun t ht hW => ⟨⟨1, (ws_3, o), rfl, hT, by rw [ht]; exact hP, by rw [hAe]; exact hD⟩, hS.F ht⟩) hS.2.2 dL_power_14
  · obtain ⟨ws_4, rfl⟩ : ∃ z, z = u := ⟨_, rfl⟩
    have hT := hw_2
    have hP : va_P D vwCl ([(ov, .inl (ct 1, 1, .inr (.inl o))), (ty_XO x w sp sv bu bl le)] ++ ws_4) H := hP
    have hD : va_D A ([(ov, .inl (ct 1, 1, .inr (.inl o))), (ty_XO x w sp sv bu bl le)] ++ ws_4) := hD
    refine W.widen (k := 1) (n := 6) (Nat.le_of_ble_eq_true rfl) (Nat.le_of_ble_eq_true rfl) ?_
    refine lv_i2l hx hb dL_power_7 rfl ?_
    refine lv_topl (fun x_5 _ => ?_)
    refine va_last hx hb hK hP hD hS 0 1 rfl rfl (cm_vin (by decide)) dL_power_8 (fun H locs hP hD hS => ?_)
    have hP : va_P D vwCl ([(ov, .inl (ct 1, 1, .inr (.inl (vp_updL o (0 : Int32).toNatClampNeg x_5)))), (ty_XO x w sp sv bu bl le)] ++ ws_4) H := hP
    have hD : va_D A ([(ov, .inl (ct 1, 1, .inr (.inl (vp_updL o (0 : Int32).toNatClampNeg x_5)))), (ty_XO x w sp sv bu bl le)] ++ ws_4) := hD
    refine lv_goto (tgt := 15) hx hb dL_power_9 (by decide) ?_
    refine lv_iconst (v := 0) hx hb dL_power_15 (by decide) ?_
    have hP : va_P D vwCl ([(ty_XO x w sp sv bu bl le), (ov, .inl (ct 1, 1, .inr (.inl (vp_updL o (0 : Int32).toNatClampNeg x_5))))] ++ ws_4) H := ty_permP hP (ty_ordp (E := [(ov, .inl (ct 1, 1, .inr (.inl (vp_updL o (0 : Int32).toNatClampNeg x_5)))), (ty_XO x w sp sv bu bl le)]) (E2 := [(ty_XO x w sp sv bu bl le), (ov, .inl (ct 1, 1, .inr (.inl (vp_updL o (0 : Int32).toNatClampNeg x_5))))]) (n := 2) [1, 0] rfl rfl (by decide))
    have hD : va_D A ([(ty_XO x w sp sv bu bl le), (ov, .inl (ct 1, 1, .inr (.inl (vp_updL o (0 : Int32).toNatClampNeg x_5))))] ++ ws_4) := ty_permD hD (ty_ordp (E := [(ov, .inl (ct 1, 1, .inr (.inl (vp_updL o (0 : Int32).toNatClampNeg x_5)))), (ty_XO x w sp sv bu bl le)]) (E2 := [(ty_XO x w sp sv bu bl le), (ov, .inl (ct 1, 1, .inr (.inl (vp_updL o (0 : Int32).toNatClampNeg x_5))))]) (n := 2) [1, 0] rfl rfl (by decide))
    exact W.iret (v := 0) hx hb hr (fun t ht hW => ⟨⟨0, (ws_4, (vp_updL o (0 : Int32).toNatClampNeg x_5)), rfl, hT, by rw [ht]; exact hP, by rw [hAe]; exact hD⟩, hS.F ht⟩) hS.2.2 dL_power_16
theorem dL_measuredRest_0 : decode cL_measuredRest 0 = .ok (.aload_n 2, 1) := by decide +kernel
theorem dL_measuredRest_1 : decode cL_measuredRest 1 = .ok (.iconst 0, 1) := by decide +kernel
theorem dL_measuredRest_2 : decode cL_measuredRest 2 = .ok (.aload_n 0, 1) := by decide +kernel
theorem dL_measuredRest_3 : decode cL_measuredRest 3 = .ok (.iload_n 1, 1) := by decide +kernel
theorem dL_measuredRest_4 : decode cL_measuredRest 4 = .ok (.invokevirtual 97, 3) := by decide +kernel
theorem dL_measuredRest_7 : decode cL_measuredRest 7 = .ok (.i2l, 1) := by decide +kernel
theorem dL_measuredRest_8 : decode cL_measuredRest 8 = .ok (.lastore, 1) := by decide +kernel
theorem dL_measuredRest_9 : decode cL_measuredRest 9 = .ok (.goto 6, 3) := by decide +kernel
theorem dL_measuredRest_12 : decode cL_measuredRest 12 = .ok (.astore_n 3, 1) := by decide +kernel
theorem dL_measuredRest_13 : decode cL_measuredRest 13 = .ok (.iconst 1, 1) := by decide +kernel
theorem dL_measuredRest_14 : decode cL_measuredRest 14 = .ok (.ireturn, 1) := by decide +kernel
theorem dL_measuredRest_15 : decode cL_measuredRest 15 = .ok (.iconst 0, 1) := by decide +kernel
theorem dL_measuredRest_16 : decode cL_measuredRest 16 = .ok (.ireturn, 1) := by decide +kernel
set_option maxRecDepth 100000 in
set_option maxHeartbeats 4000000 in
theorem tl_measuredRest (l : Launch) (hfl : l.stackTraces = false) (D : va_G) (ct : Nat → ClassId) (S : ty_S) (ws : va_W) (ph : va_W → Prop) (xx : Nat → Nat → Nat → Prop) (x : Nat) (w : Nat) (sp : Nat) (sv : Nat) (bu : Nat) (ns : Nat) (bl : Int32) (le : Int32) (p1 : Int32) (ov : Nat) (o : Nat → Int64) (sz : Nat) (hT : ty_V ct S ph ws) (h_w : S w = some (.inl 9)) (h_sp : S sp = some (.inl 9)) (h_sv : S sv = some (.inr (4, ns))) (hph : ty_C ph xx) (hy1 : ty_y1 xx) (hy11 : ty_y0 xx 11) : Met l yL_measuredRest (wsw_ yL_measuredRest cL_measuredRest 4 (some .int) [(0, 9, 12, 32)]) ({ frames := 8, cells := 1, slots := 6, locals := 133 } : Room) (va_Pc [.ref x, .int p1, .ref ov] (cmPn D ct sz ([(ty_XO x w sp sv bu bl le), (ov, .inl (ct 1, 1, .inr (.inl o)))] ++ ws))) (va_Qi (fun (r : Int32) (u : va_W × (Nat → Int64)) => match u with | (u9, o1) => ty_V ct S ph u9) (cmB D ([(ty_XO x w sp sv bu bl le), (ov, .inl (ct 1, 1, .inr (.inl o)))] ++ ws) sz (fun (u : va_W × (Nat → Int64)) => match u with | (u9, o1) => ([(ty_XO x w sp sv bu bl le), (ov, .inl (ct 1, 1, .inr (.inl o1)))] ++ u9))) (va_A ([(ty_XO x w sp sv bu bl le), (ov, .inl (ct 1, 1, .inr (.inl o)))] ++ ws) sz)) 1 6 (va_A ([(ty_XO x w sp sv bu bl le), (ov, .inl (ct 1, 1, .inr (.inl o)))] ++ ws) sz) := by
  refine va_MetW (cc := cL_measuredRest) (maxL := 4) (ret := (some .int)) (hh := [(0, 9, 12, 32)]) (by decide) rfl ?_
  intro p e s m args below meth c s₁ B hml hv
  have hts0 := atoms_spec (ws := wsw_ yL_measuredRest cL_measuredRest 4 (some .int) [(0, 9, 12, 32)]) B.pre
  have hts : ∀ w ∈ cm_all, w.before args s = true := fun w h => hts0 w (List.mem_cons_of_mem _ h)
  obtain ⟨rfl, ⟨hsz, hP, hK, hD0, hX⟩, hNc⟩ := hv
  have hx := B.exec
  have hb := B.bytes
  have hr := B.returns
  have htab := vx_table (x := yL_measuredRest) B (hts0 _ List.mem_cons_self)
  have hown : s.vm.findClass RL = some m.cls := findClass_of_methodNamed B.named
  have hlocks := B.notSynchronized
  subst hsz
  have hD := hD0.self (sz := s.heap.size)
  generalize hAe : va_A ([(ty_XO x w sp sv bu bl le), (ov, .inl (ct 1, 1, .inr (.inl o)))] ++ ws) s.heap.size = A at hD hX ⊢
  have hA : ∀ q : Nat, s.heap.size ≤ q → A q := fun q h => by rw [← hAe]; exact Or.inr h
  have hS : va_S A s.heap s.heap [] := va_S.rf
  have hl := lv_entry ([.ref x, .int p1, .ref ov]) (n := 4) (Nat.le_of_ble_eq_true rfl)
  rw [lg_entry_eq]
  generalize (lg_sl ([.ref x, .int p1, .ref ov]) ++ List.replicate (4 - (lg_sl ([.ref x, .int p1, .ref ov])).length) Slot.unset).toArray = ls at hl ⊢
  have hl : lv_has ls 4 [(0, .ref x), (1, .int p1), (2, .ref ov)] := hl
  refine lv_aload_n hx hb dL_measuredRest_0 rfl (lv_at hl 2 rfl) ?_
  refine lv_iconst (v := 0) hx hb dL_measuredRest_1 (by decide) ?_
  refine lv_aload_n hx hb dL_measuredRest_2 rfl (lv_at hl 0 rfl) ?_
  refine lv_iload_n hx hb dL_measuredRest_3 rfl (lv_at hl 1 rfl) ?_
  have hP : va_P D vwCl ([(ov, .inl (ct 1, 1, .inr (.inl o))), (ty_XO x w sp sv bu bl le)] ++ ws) s.heap := ty_permP hP (ty_ordp (E := [(ty_XO x w sp sv bu bl le), (ov, .inl (ct 1, 1, .inr (.inl o)))]) (E2 := [(ov, .inl (ct 1, 1, .inr (.inl o))), (ty_XO x w sp sv bu bl le)]) (n := 2) [1, 0] rfl rfl (by decide))
  have hD : va_D A ([(ov, .inl (ct 1, 1, .inr (.inl o))), (ty_XO x w sp sv bu bl le)] ++ ws) := ty_permD hD (ty_ordp (E := [(ty_XO x w sp sv bu bl le), (ov, .inl (ct 1, 1, .inr (.inl o)))]) (E2 := [(ov, .inl (ct 1, 1, .inr (.inl o))), (ty_XO x w sp sv bu bl le)]) (n := 2) [1, 0] rfl rfl (by decide))
  refine ty_xi (wr := [(ov, .inl (ct 1, 1, .inr (.inl o)))]) (wc := ([(ty_XO x w sp sv bu bl le)] ++ ws)) (vx_runV (As := [.int p1]) (rest := [.int 0, .ref ov]) ⟨hx, hb, hml, hown, hts⟩ (t_X10_measuredRest l hfl D ct S ws ph xx x w sp sv bu ns bl le p1 _ hT h_w h_sp h_sv hph hy1) (cm_V 1 hts kc_X10_measuredRest ki_RX10 kl_RL_97 kv_X10_measuredRest kx_X10_measuredRest kd_X10_measuredRest ⟨Nat.le_of_ble_eq_true rfl, Nat.le_of_ble_eq_true rfl⟩) (ty_preE (wr := [(ov, .inl (ct 1, 1, .inr (.inl o)))]) (wc := ([(ty_XO x w sp sv bu bl le)] ++ ws)) (ci := 10) (q0 := 1) hP hK hD hS hA hX rfl rfl) rfl rfl hl.1 rfl (lv_room (Nat.le_of_ble_eq_true rfl)) dL_measuredRest_4 ⟨Nat.le_of_ble_eq_true rfl, Nat.le_of_ble_eq_true rfl⟩) hP hD hS hA (fun E ce q9 u H locs hu hE hP hD hS hce hcv hcl => ?_) (fun r_1 u H locs hw_2 hP hD hS => ?_)
  · obtain ⟨ws_3, rfl⟩ : ∃ z, z = u := ⟨_, rfl⟩
    have hT := hu
    have hP : va_P D vwCl ([(ov, .inl (ct 1, 1, .inr (.inl o))), (ty_XO x w sp sv bu bl le)] ++ ws_3) H := hP
    have hD : va_D A ([(ov, .inl (ct 1, 1, .inr (.inl o))), (ty_XO x w sp sv bu bl le)] ++ ws_3) := hD
    obtain rfl := List.mem_singleton.mp hE
    refine vx_catch (name := "java/lang/IndexOutOfBoundsException") hown [] _ _ htab (fun z hz => absurd hz List.not_mem_nil) (by decide) (by decide) (hts _ kl_RL_32) (hts _ kcast_IOE) hce hcv hcl ?_
    refine W.eq (g2 := F0 m 12 ls [.ref q9]) rfl ?_
    refine lv_astore_n (lv' := [(3, .ref q9), (0, .ref x), (1, .int p1), (2, .ref ov)]) hx hb dL_measuredRest_12 rfl hl (by decide) rfl (fun ls hl => ?_)
    refine lv_iconst (v := 1) hx hb dL_measuredRest_13 (by decide) ?_
    have hP : va_P D vwCl ([(ty_XO x w sp sv bu bl le), (ov, .inl (ct 1, 1, .inr (.inl o)))] ++ ws_3) H := ty_permP hP (ty_ordp (E := [(ov, .inl (ct 1, 1, .inr (.inl o))), (ty_XO x w sp sv bu bl le)]) (E2 := [(ty_XO x w sp sv bu bl le), (ov, .inl (ct 1, 1, .inr (.inl o)))]) (n := 2) [1, 0] rfl rfl (by decide))
    have hD : va_D A ([(ty_XO x w sp sv bu bl le), (ov, .inl (ct 1, 1, .inr (.inl o)))] ++ ws_3) := ty_permD hD (ty_ordp (E := [(ov, .inl (ct 1, 1, .inr (.inl o))), (ty_XO x w sp sv bu bl le)]) (E2 := [(ty_XO x w sp sv bu bl le), (ov, .inl (ct 1, 1, .inr (.inl o)))]) (n := 2) [1, 0] rfl rfl (by decide))
    exact W.iret (v := 1) hx hb hr (fun t ht hW => ⟨⟨1, (ws_3, o), rfl, hT, by rw [ht]; exact hP, by rw [hAe]; exact hD⟩, hS.F ht⟩) hS.2.2 dL_measuredRest_14
  · obtain ⟨ws_4, rfl⟩ : ∃ z, z = u := ⟨_, rfl⟩
    have hT := hw_2
    have hP : va_P D vwCl ([(ov, .inl (ct 1, 1, .inr (.inl o))), (ty_XO x w sp sv bu bl le)] ++ ws_4) H := hP
    have hD : va_D A ([(ov, .inl (ct 1, 1, .inr (.inl o))), (ty_XO x w sp sv bu bl le)] ++ ws_4) := hD
    refine W.widen (k := 1) (n := 6) (Nat.le_of_ble_eq_true rfl) (Nat.le_of_ble_eq_true rfl) ?_
    refine lv_i2l hx hb dL_measuredRest_7 rfl ?_
    refine lv_topl (fun x_5 _ => ?_)
    refine va_last hx hb hK hP hD hS 0 1 rfl rfl (cm_vin (by decide)) dL_measuredRest_8 (fun H locs hP hD hS => ?_)
    have hP : va_P D vwCl ([(ov, .inl (ct 1, 1, .inr (.inl (vp_updL o (0 : Int32).toNatClampNeg x_5)))), (ty_XO x w sp sv bu bl le)] ++ ws_4) H := hP
    have hD : va_D A ([(ov, .inl (ct 1, 1, .inr (.inl (vp_updL o (0 : Int32).toNatClampNeg x_5)))), (ty_XO x w sp sv bu bl le)] ++ ws_4) := hD
    refine lv_goto (tgt := 15) hx hb dL_measuredRest_9 (by decide) ?_
    refine lv_iconst (v := 0) hx hb dL_measuredRest_15 (by decide) ?_
    have hP : va_P D vwCl ([(ty_XO x w sp sv bu bl le), (ov, .inl (ct 1, 1, .inr (.inl (vp_updL o (0 : Int32).toNatClampNeg x_5))))] ++ ws_4) H := ty_permP hP (ty_ordp (E := [(ov, .inl (ct 1, 1, .inr (.inl (vp_updL o (0 : Int32).toNatClampNeg x_5)))), (ty_XO x w sp sv bu bl le)]) (E2 := [(ty_XO x w sp sv bu bl le), (ov, .inl (ct 1, 1, .inr (.inl (vp_updL o (0 : Int32).toNatClampNeg x_5))))]) (n := 2) [1, 0] rfl rfl (by decide))
    have hD : va_D A ([(ty_XO x w sp sv bu bl le), (ov, .inl (ct 1, 1, .inr (.inl (vp_updL o (0 : Int32).toNatClampNeg x_5))))] ++ ws_4) := ty_permD hD (ty_ordp (E := [(ov, .inl (ct 1, 1, .inr (.inl (vp_updL o (0 : Int32).toNatClampNeg x_5)))), (ty_XO x w sp sv bu bl le)]) (E2 := [(ty_XO x w sp sv bu bl le), (ov, .inl (ct 1, 1, .inr (.inl (vp_updL o (0 : Int32).toNatClampNeg x_5))))]) (n := 2) [1, 0] rfl rfl (by decide))
    exact W.iret (v := 0) hx hb hr (fun t ht hW => ⟨⟨0, (ws_4, (vp_updL o (0 : Int32).toNatClampNeg x_5)), rfl, hT, by rw [ht]; exact hP, by rw [hAe]; exact hD⟩, hS.F ht⟩) hS.2.2 dL_measuredRest_16
theorem dL_capacityByRule_0 : decode cL_capacityByRule 0 = .ok (.aload_n 2, 1) := by decide +kernel
theorem dL_capacityByRule_1 : decode cL_capacityByRule 1 = .ok (.iconst 0, 1) := by decide +kernel
theorem dL_capacityByRule_2 : decode cL_capacityByRule 2 = .ok (.aload_n 0, 1) := by decide +kernel
theorem dL_capacityByRule_3 : decode cL_capacityByRule 3 = .ok (.iload_n 1, 1) := by decide +kernel
theorem dL_capacityByRule_4 : decode cL_capacityByRule 4 = .ok (.invokevirtual 100, 3) := by decide +kernel
theorem dL_capacityByRule_7 : decode cL_capacityByRule 7 = .ok (.i2l, 1) := by decide +kernel
theorem dL_capacityByRule_8 : decode cL_capacityByRule 8 = .ok (.lastore, 1) := by decide +kernel
theorem dL_capacityByRule_9 : decode cL_capacityByRule 9 = .ok (.goto 6, 3) := by decide +kernel
theorem dL_capacityByRule_12 : decode cL_capacityByRule 12 = .ok (.astore_n 3, 1) := by decide +kernel
theorem dL_capacityByRule_13 : decode cL_capacityByRule 13 = .ok (.iconst 1, 1) := by decide +kernel
theorem dL_capacityByRule_14 : decode cL_capacityByRule 14 = .ok (.ireturn, 1) := by decide +kernel
theorem dL_capacityByRule_15 : decode cL_capacityByRule 15 = .ok (.iconst 0, 1) := by decide +kernel
theorem dL_capacityByRule_16 : decode cL_capacityByRule 16 = .ok (.ireturn, 1) := by decide +kernel
set_option maxRecDepth 100000 in
set_option maxHeartbeats 4000000 in
theorem tl_capacityByRule (l : Launch) (hfl : l.stackTraces = false) (D : va_G) (ct : Nat → ClassId) (S : ty_S) (ws : va_W) (ph : va_W → Prop) (xx : Nat → Nat → Nat → Prop) (x : Nat) (w : Nat) (sp : Nat) (sv : Nat) (bu : Nat) (ns : Nat) (bl : Int32) (le : Int32) (p1 : Int32) (ov : Nat) (o : Nat → Int64) (sz : Nat) (hT : ty_V ct S ph ws) (h_w : S w = some (.inl 9)) (h_sp : S sp = some (.inl 9)) (h_sv : S sv = some (.inr (4, ns))) (hph : ty_C ph xx) (hy1 : ty_y1 xx) (hy11 : ty_y0 xx 11) : Met l yL_capacityByRule (wsw_ yL_capacityByRule cL_capacityByRule 4 (some .int) [(0, 9, 12, 32)]) ({ frames := 8, cells := 1, slots := 6, locals := 133 } : Room) (va_Pc [.ref x, .int p1, .ref ov] (cmPn D ct sz ([(ty_XO x w sp sv bu bl le), (ov, .inl (ct 1, 1, .inr (.inl o)))] ++ ws))) (va_Qi (fun (r : Int32) (u : va_W × (Nat → Int64)) => match u with | (u9, o1) => ty_V ct S ph u9) (cmB D ([(ty_XO x w sp sv bu bl le), (ov, .inl (ct 1, 1, .inr (.inl o)))] ++ ws) sz (fun (u : va_W × (Nat → Int64)) => match u with | (u9, o1) => ([(ty_XO x w sp sv bu bl le), (ov, .inl (ct 1, 1, .inr (.inl o1)))] ++ u9))) (va_A ([(ty_XO x w sp sv bu bl le), (ov, .inl (ct 1, 1, .inr (.inl o)))] ++ ws) sz)) 1 6 (va_A ([(ty_XO x w sp sv bu bl le), (ov, .inl (ct 1, 1, .inr (.inl o)))] ++ ws) sz) := by
  refine va_MetW (cc := cL_capacityByRule) (maxL := 4) (ret := (some .int)) (hh := [(0, 9, 12, 32)]) (by decide) rfl ?_
  intro p e s m args below meth c s₁ B hml hv
  have hts0 := atoms_spec (ws := wsw_ yL_capacityByRule cL_capacityByRule 4 (some .int) [(0, 9, 12, 32)]) B.pre
  have hts : ∀ w ∈ cm_all, w.before args s = true := fun w h => hts0 w (List.mem_cons_of_mem _ h)
  obtain ⟨rfl, ⟨hsz, hP, hK, hD0, hX⟩, hNc⟩ := hv
  have hx := B.exec
  have hb := B.bytes
  have hr := B.returns
  have htab := vx_table (x := yL_capacityByRule) B (hts0 _ List.mem_cons_self)
  have hown : s.vm.findClass RL = some m.cls := findClass_of_methodNamed B.named
  have hlocks := B.notSynchronized
  subst hsz
  have hD := hD0.self (sz := s.heap.size)
  generalize hAe : va_A ([(ty_XO x w sp sv bu bl le), (ov, .inl (ct 1, 1, .inr (.inl o)))] ++ ws) s.heap.size = A at hD hX ⊢
  have hA : ∀ q : Nat, s.heap.size ≤ q → A q := fun q h => by rw [← hAe]; exact Or.inr h
  have hS : va_S A s.heap s.heap [] := va_S.rf
  have hl := lv_entry ([.ref x, .int p1, .ref ov]) (n := 4) (Nat.le_of_ble_eq_true rfl)
  rw [lg_entry_eq]
  generalize (lg_sl ([.ref x, .int p1, .ref ov]) ++ List.replicate (4 - (lg_sl ([.ref x, .int p1, .ref ov])).length) Slot.unset).toArray = ls at hl ⊢
  have hl : lv_has ls 4 [(0, .ref x), (1, .int p1), (2, .ref ov)] := hl
  refine lv_aload_n hx hb dL_capacityByRule_0 rfl (lv_at hl 2 rfl) ?_
  refine lv_iconst (v := 0) hx hb dL_capacityByRule_1 (by decide) ?_
  refine lv_aload_n hx hb dL_capacityByRule_2 rfl (lv_at hl 0 rfl) ?_
  refine lv_iload_n hx hb dL_capacityByRule_3 rfl (lv_at hl 1 rfl) ?_
  have hP : va_P D vwCl ([(ov, .inl (ct 1, 1, .inr (.inl o))), (ty_XO x w sp sv bu bl le)] ++ ws) s.heap := ty_permP hP (ty_ordp (E := [(ty_XO x w sp sv bu bl le), (ov, .inl (ct 1, 1, .inr (.inl o)))]) (E2 := [(ov, .inl (ct 1, 1, .inr (.inl o))), (ty_XO x w sp sv bu bl le)]) (n := 2) [1, 0] rfl rfl (by decide))
  have hD : va_D A ([(ov, .inl (ct 1, 1, .inr (.inl o))), (ty_XO x w sp sv bu bl le)] ++ ws) := ty_permD hD (ty_ordp (E := [(ty_XO x w sp sv bu bl le), (ov, .inl (ct 1, 1, .inr (.inl o)))]) (E2 := [(ov, .inl (ct 1, 1, .inr (.inl o))), (ty_XO x w sp sv bu bl le)]) (n := 2) [1, 0] rfl rfl (by decide))
  refine ty_xi (wr := [(ov, .inl (ct 1, 1, .inr (.inl o)))]) (wc := ([(ty_XO x w sp sv bu bl le)] ++ ws)) (vx_runV (As := [.int p1]) (rest := [.int 0, .ref ov]) ⟨hx, hb, hml, hown, hts⟩ (t_X10_capacityByRule l hfl D ct S ws ph xx x w sp sv bu ns bl le p1 _ hT h_w h_sp h_sv hph hy1) (cm_V 1 hts kc_X10_capacityByRule ki_RX10 kl_RL_100 kv_X10_capacityByRule kx_X10_capacityByRule kd_X10_capacityByRule ⟨Nat.le_of_ble_eq_true rfl, Nat.le_of_ble_eq_true rfl⟩) (ty_preE (wr := [(ov, .inl (ct 1, 1, .inr (.inl o)))]) (wc := ([(ty_XO x w sp sv bu bl le)] ++ ws)) (ci := 10) (q0 := 1) hP hK hD hS hA hX rfl rfl) rfl rfl hl.1 rfl (lv_room (Nat.le_of_ble_eq_true rfl)) dL_capacityByRule_4 ⟨Nat.le_of_ble_eq_true rfl, Nat.le_of_ble_eq_true rfl⟩) hP hD hS hA (fun E ce q9 u H locs hu hE hP hD hS hce hcv hcl => ?_) (fun r_1 u H locs hw_2 hP hD hS => ?_)
  · obtain ⟨ws_3, rfl⟩ : ∃ z, z = u := ⟨_, rfl⟩
    have hT := hu
    have hP : va_P D vwCl ([(ov, .inl (ct 1, 1, .inr (.inl o))), (ty_XO x w sp sv bu bl le)] ++ ws_3) H := hP
    have hD : va_D A ([(ov, .inl (ct 1, 1, .inr (.inl o))), (ty_XO x w sp sv bu bl le)] ++ ws_3) := hD
    obtain rfl := List.mem_singleton.mp hE
    refine vx_catch (name := "java/lang/IndexOutOfBoundsException") hown [] _ _ htab (fun z hz => absurd hz List.not_mem_nil) (by decide) (by decide) (hts _ kl_RL_32) (hts _ kcast_IOE) hce hcv hcl ?_
    refine W.eq (g2 := F0 m 12 ls [.ref q9]) rfl ?_
    refine lv_astore_n (lv' := [(3, .ref q9), (0, .ref x), (1, .int p1), (2, .ref ov)]) hx hb dL_capacityByRule_12 rfl hl (by decide) rfl (fun ls hl => ?_)
    refine lv_iconst (v := 1) hx hb dL_capacityByRule_13 (by decide) ?_
    have hP : va_P D vwCl ([(ty_XO x w sp sv bu bl le), (ov, .inl (ct 1, 1, .inr (.inl o)))] ++ ws_3) H := ty_permP hP (ty_ordp (E := [(ov, .inl (ct 1, 1, .inr (.inl o))), (ty_XO x w sp sv bu bl le)]) (E2 := [(ty_XO x w sp sv bu bl le), (ov, .inl (ct 1, 1, .inr (.inl o)))]) (n := 2) [1, 0] rfl rfl (by decide))
    have hD : va_D A ([(ty_XO x w sp sv bu bl le), (ov, .inl (ct 1, 1, .inr (.inl o)))] ++ ws_3) := ty_permD hD (ty_ordp (E := [(ov, .inl (ct 1, 1, .inr (.inl o))), (ty_XO x w sp sv bu bl le)]) (E2 := [(ty_XO x w sp sv bu bl le), (ov, .inl (ct 1, 1, .inr (.inl o)))]) (n := 2) [1, 0] rfl rfl (by decide))
    exact W.iret (v := 1) hx hb hr (fun t ht hW => ⟨⟨1, (ws_3, o), rfl, hT, by rw [ht]; exact hP, by rw [hAe]; exact hD⟩, hS.F ht⟩) hS.2.2 dL_capacityByRule_14
  · obtain ⟨ws_4, rfl⟩ : ∃ z, z = u := ⟨_, rfl⟩
    have hT := hw_2
    have hP : va_P D vwCl ([(ov, .inl (ct 1, 1, .inr (.inl o))), (ty_XO x w sp sv bu bl le)] ++ ws_4) H := hP
    have hD : va_D A ([(ov, .inl (ct 1, 1, .inr (.inl o))), (ty_XO x w sp sv bu bl le)] ++ ws_4) := hD
    refine W.widen (k := 1) (n := 6) (Nat.le_of_ble_eq_true rfl) (Nat.le_of_ble_eq_true rfl) ?_
    refine lv_i2l hx hb dL_capacityByRule_7 rfl ?_
    refine lv_topl (fun x_5 _ => ?_)
    refine va_last hx hb hK hP hD hS 0 1 rfl rfl (cm_vin (by decide)) dL_capacityByRule_8 (fun H locs hP hD hS => ?_)
    have hP : va_P D vwCl ([(ov, .inl (ct 1, 1, .inr (.inl (vp_updL o (0 : Int32).toNatClampNeg x_5)))), (ty_XO x w sp sv bu bl le)] ++ ws_4) H := hP
    have hD : va_D A ([(ov, .inl (ct 1, 1, .inr (.inl (vp_updL o (0 : Int32).toNatClampNeg x_5)))), (ty_XO x w sp sv bu bl le)] ++ ws_4) := hD
    refine lv_goto (tgt := 15) hx hb dL_capacityByRule_9 (by decide) ?_
    refine lv_iconst (v := 0) hx hb dL_capacityByRule_15 (by decide) ?_
    have hP : va_P D vwCl ([(ty_XO x w sp sv bu bl le), (ov, .inl (ct 1, 1, .inr (.inl (vp_updL o (0 : Int32).toNatClampNeg x_5))))] ++ ws_4) H := ty_permP hP (ty_ordp (E := [(ov, .inl (ct 1, 1, .inr (.inl (vp_updL o (0 : Int32).toNatClampNeg x_5)))), (ty_XO x w sp sv bu bl le)]) (E2 := [(ty_XO x w sp sv bu bl le), (ov, .inl (ct 1, 1, .inr (.inl (vp_updL o (0 : Int32).toNatClampNeg x_5))))]) (n := 2) [1, 0] rfl rfl (by decide))
    have hD : va_D A ([(ty_XO x w sp sv bu bl le), (ov, .inl (ct 1, 1, .inr (.inl (vp_updL o (0 : Int32).toNatClampNeg x_5))))] ++ ws_4) := ty_permD hD (ty_ordp (E := [(ov, .inl (ct 1, 1, .inr (.inl (vp_updL o (0 : Int32).toNatClampNeg x_5)))), (ty_XO x w sp sv bu bl le)]) (E2 := [(ty_XO x w sp sv bu bl le), (ov, .inl (ct 1, 1, .inr (.inl (vp_updL o (0 : Int32).toNatClampNeg x_5))))]) (n := 2) [1, 0] rfl rfl (by decide))
    exact W.iret (v := 0) hx hb hr (fun t ht hW => ⟨⟨0, (ws_4, (vp_updL o (0 : Int32).toNatClampNeg x_5)), rfl, hT, by rw [ht]; exact hP, by rw [hAe]; exact hD⟩, hS.F ht⟩) hS.2.2 dL_capacityByRule_16
theorem dL_internalResistance_0 : decode cL_internalResistance 0 = .ok (.aload_n 2, 1) := by decide +kernel
theorem dL_internalResistance_1 : decode cL_internalResistance 1 = .ok (.iconst 0, 1) := by decide +kernel
theorem dL_internalResistance_2 : decode cL_internalResistance 2 = .ok (.aload_n 0, 1) := by decide +kernel
theorem dL_internalResistance_3 : decode cL_internalResistance 3 = .ok (.iload_n 1, 1) := by decide +kernel
theorem dL_internalResistance_4 : decode cL_internalResistance 4 = .ok (.invokevirtual 103, 3) := by decide +kernel
theorem dL_internalResistance_7 : decode cL_internalResistance 7 = .ok (.i2l, 1) := by decide +kernel
theorem dL_internalResistance_8 : decode cL_internalResistance 8 = .ok (.lastore, 1) := by decide +kernel
theorem dL_internalResistance_9 : decode cL_internalResistance 9 = .ok (.goto 6, 3) := by decide +kernel
theorem dL_internalResistance_12 : decode cL_internalResistance 12 = .ok (.astore_n 3, 1) := by decide +kernel
theorem dL_internalResistance_13 : decode cL_internalResistance 13 = .ok (.iconst 1, 1) := by decide +kernel
theorem dL_internalResistance_14 : decode cL_internalResistance 14 = .ok (.ireturn, 1) := by decide +kernel
theorem dL_internalResistance_15 : decode cL_internalResistance 15 = .ok (.iconst 0, 1) := by decide +kernel
theorem dL_internalResistance_16 : decode cL_internalResistance 16 = .ok (.ireturn, 1) := by decide +kernel
set_option maxRecDepth 100000 in
set_option maxHeartbeats 4000000 in
theorem tl_internalResistance (l : Launch) (hfl : l.stackTraces = false) (D : va_G) (ct : Nat → ClassId) (S : ty_S) (ws : va_W) (ph : va_W → Prop) (xx : Nat → Nat → Nat → Prop) (x : Nat) (w : Nat) (sp : Nat) (sv : Nat) (bu : Nat) (ns : Nat) (bl : Int32) (le : Int32) (p1 : Int32) (ov : Nat) (o : Nat → Int64) (sz : Nat) (hT : ty_V ct S ph ws) (h_w : S w = some (.inl 9)) (h_sp : S sp = some (.inl 9)) (h_sv : S sv = some (.inr (4, ns))) (hph : ty_C ph xx) (hy1 : ty_y1 xx) (hy11 : ty_y0 xx 11) : Met l yL_internalResistance (wsw_ yL_internalResistance cL_internalResistance 4 (some .int) [(0, 9, 12, 32)]) ({ frames := 8, cells := 1, slots := 6, locals := 133 } : Room) (va_Pc [.ref x, .int p1, .ref ov] (cmPn D ct sz ([(ty_XO x w sp sv bu bl le), (ov, .inl (ct 1, 1, .inr (.inl o)))] ++ ws))) (va_Qi (fun (r : Int32) (u : va_W × (Nat → Int64)) => match u with | (u9, o1) => ty_V ct S ph u9) (cmB D ([(ty_XO x w sp sv bu bl le), (ov, .inl (ct 1, 1, .inr (.inl o)))] ++ ws) sz (fun (u : va_W × (Nat → Int64)) => match u with | (u9, o1) => ([(ty_XO x w sp sv bu bl le), (ov, .inl (ct 1, 1, .inr (.inl o1)))] ++ u9))) (va_A ([(ty_XO x w sp sv bu bl le), (ov, .inl (ct 1, 1, .inr (.inl o)))] ++ ws) sz)) 1 6 (va_A ([(ty_XO x w sp sv bu bl le), (ov, .inl (ct 1, 1, .inr (.inl o)))] ++ ws) sz) := by
  refine va_MetW (cc := cL_internalResistance) (maxL := 4) (ret := (some .int)) (hh := [(0, 9, 12, 32)]) (by decide) rfl ?_
  intro p e s m args below meth c s₁ B hml hv
  have hts0 := atoms_spec (ws := wsw_ yL_internalResistance cL_internalResistance 4 (some .int) [(0, 9, 12, 32)]) B.pre
  have hts : ∀ w ∈ cm_all, w.before args s = true := fun w h => hts0 w (List.mem_cons_of_mem _ h)
  obtain ⟨rfl, ⟨hsz, hP, hK, hD0, hX⟩, hNc⟩ := hv
  have hx := B.exec
  have hb := B.bytes
  have hr := B.returns
  have htab := vx_table (x := yL_internalResistance) B (hts0 _ List.mem_cons_self)
  have hown : s.vm.findClass RL = some m.cls := findClass_of_methodNamed B.named
  have hlocks := B.notSynchronized
  subst hsz
  have hD := hD0.self (sz := s.heap.size)
  generalize hAe : va_A ([(ty_XO x w sp sv bu bl le), (ov, .inl (ct 1, 1, .inr (.inl o)))] ++ ws) s.heap.size = A at hD hX ⊢
  have hA : ∀ q : Nat, s.heap.size ≤ q → A q := fun q h => by rw [← hAe]; exact Or.inr h
  have hS : va_S A s.heap s.heap [] := va_S.rf
  have hl := lv_entry ([.ref x, .int p1, .ref ov]) (n := 4) (Nat.le_of_ble_eq_true rfl)
  rw [lg_entry_eq]
  generalize (lg_sl ([.ref x, .int p1, .ref ov]) ++ List.replicate (4 - (lg_sl ([.ref x, .int p1, .ref ov])).length) Slot.unset).toArray = ls at hl ⊢
  have hl : lv_has ls 4 [(0, .ref x), (1, .int p1), (2, .ref ov)] := hl
  refine lv_aload_n hx hb dL_internalResistance_0 rfl (lv_at hl 2 rfl) ?_
  refine lv_iconst (v := 0) hx hb dL_internalResistance_1 (by decide) ?_
  refine lv_aload_n hx hb dL_internalResistance_2 rfl (lv_at hl 0 rfl) ?_
  refine lv_iload_n hx hb dL_internalResistance_3 rfl (lv_at hl 1 rfl) ?_
  have hP : va_P D vwCl ([(ov, .inl (ct 1, 1, .inr (.inl o))), (ty_XO x w sp sv bu bl le)] ++ ws) s.heap := ty_permP hP (ty_ordp (E := [(ty_XO x w sp sv bu bl le), (ov, .inl (ct 1, 1, .inr (.inl o)))]) (E2 := [(ov, .inl (ct 1, 1, .inr (.inl o))), (ty_XO x w sp sv bu bl le)]) (n := 2) [1, 0] rfl rfl (by decide))
  have hD : va_D A ([(ov, .inl (ct 1, 1, .inr (.inl o))), (ty_XO x w sp sv bu bl le)] ++ ws) := ty_permD hD (ty_ordp (E := [(ty_XO x w sp sv bu bl le), (ov, .inl (ct 1, 1, .inr (.inl o)))]) (E2 := [(ov, .inl (ct 1, 1, .inr (.inl o))), (ty_XO x w sp sv bu bl le)]) (n := 2) [1, 0] rfl rfl (by decide))
  refine ty_xi (wr := [(ov, .inl (ct 1, 1, .inr (.inl o)))]) (wc := ([(ty_XO x w sp sv bu bl le)] ++ ws)) (vx_runV (As := [.int p1]) (rest := [.int 0, .ref ov]) ⟨hx, hb, hml, hown, hts⟩ (t_X10_internalResistance l hfl D ct S ws ph xx x w sp sv bu ns bl le p1 _ hT h_w h_sp h_sv hph hy1) (cm_V 1 hts kc_X10_internalResistance ki_RX10 kl_RL_103 kv_X10_internalResistance kx_X10_internalResistance kd_X10_internalResistance ⟨Nat.le_of_ble_eq_true rfl, Nat.le_of_ble_eq_true rfl⟩) (ty_preE (wr := [(ov, .inl (ct 1, 1, .inr (.inl o)))]) (wc := ([(ty_XO x w sp sv bu bl le)] ++ ws)) (ci := 10) (q0 := 1) hP hK hD hS hA hX rfl rfl) rfl rfl hl.1 rfl (lv_room (Nat.le_of_ble_eq_true rfl)) dL_internalResistance_4 ⟨Nat.le_of_ble_eq_true rfl, Nat.le_of_ble_eq_true rfl⟩) hP hD hS hA (fun E ce q9 u H locs hu hE hP hD hS hce hcv hcl => ?_) (fun r_1 u H locs hw_2 hP hD hS => ?_)
  · obtain ⟨ws_3, rfl⟩ : ∃ z, z = u := ⟨_, rfl⟩
    have hT := hu
    have hP : va_P D vwCl ([(ov, .inl (ct 1, 1, .inr (.inl o))), (ty_XO x w sp sv bu bl le)] ++ ws_3) H := hP
    have hD : va_D A ([(ov, .inl (ct 1, 1, .inr (.inl o))), (ty_XO x w sp sv bu bl le)] ++ ws_3) := hD
    obtain rfl := List.mem_singleton.mp hE
    refine vx_catch (name := "java/lang/IndexOutOfBoundsException") hown [] _ _ htab (fun z hz => absurd hz List.not_mem_nil) (by decide) (by decide) (hts _ kl_RL_32) (hts _ kcast_IOE) hce hcv hcl ?_
    refine W.eq (g2 := F0 m 12 ls [.ref q9]) rfl ?_
    refine lv_astore_n (lv' := [(3, .ref q9), (0, .ref x), (1, .int p1), (2, .ref ov)]) hx hb dL_internalResistance_12 rfl hl (by decide) rfl (fun ls hl => ?_)
    refine lv_iconst (v := 1) hx hb dL_internalResistance_13 (by decide) ?_
    have hP : va_P D vwCl ([(ty_XO x w sp sv bu bl le), (ov, .inl (ct 1, 1, .inr (.inl o)))] ++ ws_3) H := ty_permP hP (ty_ordp (E := [(ov, .inl (ct 1, 1, .inr (.inl o))), (ty_XO x w sp sv bu bl le)]) (E2 := [(ty_XO x w sp sv bu bl le), (ov, .inl (ct 1, 1, .inr (.inl o)))]) (n := 2) [1, 0] rfl rfl (by decide))
    have hD : va_D A ([(ty_XO x w sp sv bu bl le), (ov, .inl (ct 1, 1, .inr (.inl o)))] ++ ws_3) := ty_permD hD (ty_ordp (E := [(ov, .inl (ct 1, 1, .inr (.inl o))), (ty_XO x w sp sv bu bl le)]) (E2 := [(ty_XO x w sp sv bu bl le), (ov, .inl (ct 1, 1, .inr (.inl o)))]) (n := 2) [1, 0] rfl rfl (by decide))
    exact W.iret (v := 1) hx hb hr (fun t ht hW => ⟨⟨1, (ws_3, o), rfl, hT, by rw [ht]; exact hP, by rw [hAe]; exact hD⟩, hS.F ht⟩) hS.2.2 dL_internalResistance_14
  · obtain ⟨ws_4, rfl⟩ : ∃ z, z = u := ⟨_, rfl⟩
    have hT := hw_2
    have hP : va_P D vwCl ([(ov, .inl (ct 1, 1, .inr (.inl o))), (ty_XO x w sp sv bu bl le)] ++ ws_4) H := hP
    have hD : va_D A ([(ov, .inl (ct 1, 1, .inr (.inl o))), (ty_XO x w sp sv bu bl le)] ++ ws_4) := hD
    refine W.widen (k := 1) (n := 6) (Nat.le_of_ble_eq_true rfl) (Nat.le_of_ble_eq_true rfl) ?_
    refine lv_i2l hx hb dL_internalResistance_7 rfl ?_
    refine lv_topl (fun x_5 _ => ?_)
    refine va_last hx hb hK hP hD hS 0 1 rfl rfl (cm_vin (by decide)) dL_internalResistance_8 (fun H locs hP hD hS => ?_)
    have hP : va_P D vwCl ([(ov, .inl (ct 1, 1, .inr (.inl (vp_updL o (0 : Int32).toNatClampNeg x_5)))), (ty_XO x w sp sv bu bl le)] ++ ws_4) H := hP
    have hD : va_D A ([(ov, .inl (ct 1, 1, .inr (.inl (vp_updL o (0 : Int32).toNatClampNeg x_5)))), (ty_XO x w sp sv bu bl le)] ++ ws_4) := hD
    refine lv_goto (tgt := 15) hx hb dL_internalResistance_9 (by decide) ?_
    refine lv_iconst (v := 0) hx hb dL_internalResistance_15 (by decide) ?_
    have hP : va_P D vwCl ([(ty_XO x w sp sv bu bl le), (ov, .inl (ct 1, 1, .inr (.inl (vp_updL o (0 : Int32).toNatClampNeg x_5))))] ++ ws_4) H := ty_permP hP (ty_ordp (E := [(ov, .inl (ct 1, 1, .inr (.inl (vp_updL o (0 : Int32).toNatClampNeg x_5)))), (ty_XO x w sp sv bu bl le)]) (E2 := [(ty_XO x w sp sv bu bl le), (ov, .inl (ct 1, 1, .inr (.inl (vp_updL o (0 : Int32).toNatClampNeg x_5))))]) (n := 2) [1, 0] rfl rfl (by decide))
    have hD : va_D A ([(ty_XO x w sp sv bu bl le), (ov, .inl (ct 1, 1, .inr (.inl (vp_updL o (0 : Int32).toNatClampNeg x_5))))] ++ ws_4) := ty_permD hD (ty_ordp (E := [(ov, .inl (ct 1, 1, .inr (.inl (vp_updL o (0 : Int32).toNatClampNeg x_5)))), (ty_XO x w sp sv bu bl le)]) (E2 := [(ty_XO x w sp sv bu bl le), (ov, .inl (ct 1, 1, .inr (.inl (vp_updL o (0 : Int32).toNatClampNeg x_5))))]) (n := 2) [1, 0] rfl rfl (by decide))
    exact W.iret (v := 0) hx hb hr (fun t ht hW => ⟨⟨0, (ws_4, (vp_updL o (0 : Int32).toNatClampNeg x_5)), rfl, hT, by rw [ht]; exact hP, by rw [hAe]; exact hD⟩, hS.F ht⟩) hS.2.2 dL_internalResistance_16
theorem dL_ticksIn_0 : decode cL_ticksIn 0 = .ok (.aload_n 3, 1) := by decide +kernel
theorem dL_ticksIn_1 : decode cL_ticksIn 1 = .ok (.iconst 0, 1) := by decide +kernel
theorem dL_ticksIn_2 : decode cL_ticksIn 2 = .ok (.aload_n 0, 1) := by decide +kernel
theorem dL_ticksIn_3 : decode cL_ticksIn 3 = .ok (.iload_n 1, 1) := by decide +kernel
theorem dL_ticksIn_4 : decode cL_ticksIn 4 = .ok (.iload_n 2, 1) := by decide +kernel
theorem dL_ticksIn_5 : decode cL_ticksIn 5 = .ok (.invokevirtual 106, 3) := by decide +kernel
theorem dL_ticksIn_8 : decode cL_ticksIn 8 = .ok (.i2l, 1) := by decide +kernel
theorem dL_ticksIn_9 : decode cL_ticksIn 9 = .ok (.lastore, 1) := by decide +kernel
theorem dL_ticksIn_10 : decode cL_ticksIn 10 = .ok (.goto 11, 3) := by decide +kernel
theorem dL_ticksIn_13 : decode cL_ticksIn 13 = .ok (.astore 4, 2) := by decide +kernel
theorem dL_ticksIn_15 : decode cL_ticksIn 15 = .ok (.iconst 1, 1) := by decide +kernel
theorem dL_ticksIn_16 : decode cL_ticksIn 16 = .ok (.ireturn, 1) := by decide +kernel
theorem dL_ticksIn_17 : decode cL_ticksIn 17 = .ok (.astore 4, 2) := by decide +kernel
theorem dL_ticksIn_19 : decode cL_ticksIn 19 = .ok (.iconst 2, 1) := by decide +kernel
theorem dL_ticksIn_20 : decode cL_ticksIn 20 = .ok (.ireturn, 1) := by decide +kernel
theorem dL_ticksIn_21 : decode cL_ticksIn 21 = .ok (.iconst 0, 1) := by decide +kernel
theorem dL_ticksIn_22 : decode cL_ticksIn 22 = .ok (.ireturn, 1) := by decide +kernel
set_option maxRecDepth 100000 in
set_option maxHeartbeats 4000000 in
theorem tl_ticksIn (l : Launch) (hfl : l.stackTraces = false) (D : va_G) (ct : Nat → ClassId) (S : ty_S) (ws : va_W) (ph : va_W → Prop) (xx : Nat → Nat → Nat → Prop) (x : Nat) (w : Nat) (sp : Nat) (sv : Nat) (bu : Nat) (ns : Nat) (bl : Int32) (le : Int32) (p1 : Int32) (p2 : Int32) (ov : Nat) (o : Nat → Int64) (sz : Nat) (hT : ty_V ct S ph ws) (h_w : S w = some (.inl 9)) (h_sp : S sp = some (.inl 9)) (h_sv : S sv = some (.inr (4, ns))) (hph : ty_C ph xx) (hy1 : ty_y1 xx) (hy11 : ty_y0 xx 11) : Met l yL_ticksIn (wsw_ yL_ticksIn cL_ticksIn 5 (some .int) [(0, 10, 13, 32), (0, 10, 17, 13)]) ({ frames := 8, cells := 2, slots := 12, locals := 135 } : Room) (va_Pc [.ref x, .int p1, .int p2, .ref ov] (cmPn D ct sz ([(ty_XO x w sp sv bu bl le), (ov, .inl (ct 1, 1, .inr (.inl o)))] ++ ws))) (va_Qi (fun (r : Int32) (u : va_W × (Nat → Int64)) => match u with | (u9, o1) => ty_V ct S ph u9) (cmB D ([(ty_XO x w sp sv bu bl le), (ov, .inl (ct 1, 1, .inr (.inl o)))] ++ ws) sz (fun (u : va_W × (Nat → Int64)) => match u with | (u9, o1) => ([(ty_XO x w sp sv bu bl le), (ov, .inl (ct 1, 1, .inr (.inl o1)))] ++ u9))) (va_A ([(ty_XO x w sp sv bu bl le), (ov, .inl (ct 1, 1, .inr (.inl o)))] ++ ws) sz)) 2 12 (va_A ([(ty_XO x w sp sv bu bl le), (ov, .inl (ct 1, 1, .inr (.inl o)))] ++ ws) sz) := by
  refine va_MetW (cc := cL_ticksIn) (maxL := 5) (ret := (some .int)) (hh := [(0, 10, 13, 32), (0, 10, 17, 13)]) (by decide) rfl ?_
  intro p e s m args below meth c s₁ B hml hv
  have hts0 := atoms_spec (ws := wsw_ yL_ticksIn cL_ticksIn 5 (some .int) [(0, 10, 13, 32), (0, 10, 17, 13)]) B.pre
  have hts : ∀ w ∈ cm_all, w.before args s = true := fun w h => hts0 w (List.mem_cons_of_mem _ h)
  obtain ⟨rfl, ⟨hsz, hP, hK, hD0, hX⟩, hNc⟩ := hv
  have hx := B.exec
  have hb := B.bytes
  have hr := B.returns
  have htab := vx_table (x := yL_ticksIn) B (hts0 _ List.mem_cons_self)
  have hown : s.vm.findClass RL = some m.cls := findClass_of_methodNamed B.named
  have hlocks := B.notSynchronized
  subst hsz
  have hD := hD0.self (sz := s.heap.size)
  generalize hAe : va_A ([(ty_XO x w sp sv bu bl le), (ov, .inl (ct 1, 1, .inr (.inl o)))] ++ ws) s.heap.size = A at hD hX ⊢
  have hA : ∀ q : Nat, s.heap.size ≤ q → A q := fun q h => by rw [← hAe]; exact Or.inr h
  have hS : va_S A s.heap s.heap [] := va_S.rf
  have hl := lv_entry ([.ref x, .int p1, .int p2, .ref ov]) (n := 5) (Nat.le_of_ble_eq_true rfl)
  rw [lg_entry_eq]
  generalize (lg_sl ([.ref x, .int p1, .int p2, .ref ov]) ++ List.replicate (5 - (lg_sl ([.ref x, .int p1, .int p2, .ref ov])).length) Slot.unset).toArray = ls at hl ⊢
  have hl : lv_has ls 5 [(0, .ref x), (1, .int p1), (2, .int p2), (3, .ref ov)] := hl
  refine lv_aload_n hx hb dL_ticksIn_0 rfl (lv_at hl 3 rfl) ?_
  refine lv_iconst (v := 0) hx hb dL_ticksIn_1 (by decide) ?_
  refine lv_aload_n hx hb dL_ticksIn_2 rfl (lv_at hl 0 rfl) ?_
  refine lv_iload_n hx hb dL_ticksIn_3 rfl (lv_at hl 1 rfl) ?_
  refine lv_iload_n hx hb dL_ticksIn_4 rfl (lv_at hl 2 rfl) ?_
  have hP : va_P D vwCl ([(ov, .inl (ct 1, 1, .inr (.inl o))), (ty_XO x w sp sv bu bl le)] ++ ws) s.heap := ty_permP hP (ty_ordp (E := [(ty_XO x w sp sv bu bl le), (ov, .inl (ct 1, 1, .inr (.inl o)))]) (E2 := [(ov, .inl (ct 1, 1, .inr (.inl o))), (ty_XO x w sp sv bu bl le)]) (n := 2) [1, 0] rfl rfl (by decide))
  have hD : va_D A ([(ov, .inl (ct 1, 1, .inr (.inl o))), (ty_XO x w sp sv bu bl le)] ++ ws) := ty_permD hD (ty_ordp (E := [(ty_XO x w sp sv bu bl le), (ov, .inl (ct 1, 1, .inr (.inl o)))]) (E2 := [(ov, .inl (ct 1, 1, .inr (.inl o))), (ty_XO x w sp sv bu bl le)]) (n := 2) [1, 0] rfl rfl (by decide))
  refine ty_xi (wr := [(ov, .inl (ct 1, 1, .inr (.inl o)))]) (wc := ([(ty_XO x w sp sv bu bl le)] ++ ws)) (vx_runV (As := [.int p1, .int p2]) (rest := [.int 0, .ref ov]) ⟨hx, hb, hml, hown, hts⟩ (t_X10_ticksIn l hfl D ct S ws ph xx x w sp sv bu ns bl le p1 p2 _ hT h_w h_sp h_sv hph hy1) (cm_V 2 hts kc_X10_ticksIn ki_RX10 kl_RL_106 kv_X10_ticksIn kx_X10_ticksIn kd_X10_ticksIn ⟨Nat.le_of_ble_eq_true rfl, Nat.le_of_ble_eq_true rfl⟩) (ty_preE (wr := [(ov, .inl (ct 1, 1, .inr (.inl o)))]) (wc := ([(ty_XO x w sp sv bu bl le)] ++ ws)) (ci := 10) (q0 := 1) hP hK hD hS hA hX rfl rfl) rfl rfl hl.1 rfl (lv_room (Nat.le_of_ble_eq_true rfl)) dL_ticksIn_5 ⟨Nat.le_of_ble_eq_true rfl, Nat.le_of_ble_eq_true rfl⟩) hP hD hS hA (fun E ce q9 u H locs hu hE hP hD hS hce hcv hcl => ?_) (fun r_1 u H locs hw_2 hP hD hS => ?_)
  · obtain ⟨ws_3, rfl⟩ : ∃ z, z = u := ⟨_, rfl⟩
    have hT := hu
    have hP : va_P D vwCl ([(ov, .inl (ct 1, 1, .inr (.inl o))), (ty_XO x w sp sv bu bl le)] ++ ws_3) H := hP
    have hD : va_D A ([(ov, .inl (ct 1, 1, .inr (.inl o))), (ty_XO x w sp sv bu bl le)] ++ ws_3) := hD
    rcases List.mem_cons.mp hE with rfl | hE
    · refine vx_catch (name := "java/lang/IllegalArgumentException") hown [_] _ _ htab (fun z hz => by obtain rfl := List.mem_singleton.mp hz; exact Or.inr ⟨by decide, _, hts _ kl_RL_32, hNc⟩) (by decide) (by decide) (hts _ kl_RL_13) (hts _ kcast_IAE) hce hcv hcl ?_
      refine W.eq (g2 := F0 m 17 ls [.ref q9]) rfl ?_
      refine lv_astore (lv' := [(4, .ref q9), (0, .ref x), (1, .int p1), (2, .int p2), (3, .ref ov)]) hx hb dL_ticksIn_17 hl (by decide) rfl (fun ls hl => ?_)
      refine lv_iconst (v := 2) hx hb dL_ticksIn_19 (by decide) ?_
      have hP : va_P D vwCl ([(ty_XO x w sp sv bu bl le), (ov, .inl (ct 1, 1, .inr (.inl o)))] ++ ws_3) H := ty_permP hP (ty_ordp (E := [(ov, .inl (ct 1, 1, .inr (.inl o))), (ty_XO x w sp sv bu bl le)]) (E2 := [(ty_XO x w sp sv bu bl le), (ov, .inl (ct 1, 1, .inr (.inl o)))]) (n := 2) [1, 0] rfl rfl (by decide))
      have hD : va_D A ([(ty_XO x w sp sv bu bl le), (ov, .inl (ct 1, 1, .inr (.inl o)))] ++ ws_3) := ty_permD hD (ty_ordp (E := [(ov, .inl (ct 1, 1, .inr (.inl o))), (ty_XO x w sp sv bu bl le)]) (E2 := [(ty_XO x w sp sv bu bl le), (ov, .inl (ct 1, 1, .inr (.inl o)))]) (n := 2) [1, 0] rfl rfl (by decide))
      exact W.iret (v := 2) hx hb hr (fun t ht hW => ⟨⟨2, (ws_3, o), rfl, hT, by rw [ht]; exact hP, by rw [hAe]; exact hD⟩, hS.F ht⟩) hS.2.2 dL_ticksIn_20
    · obtain rfl := List.mem_singleton.mp hE
      refine vx_catch (name := "java/lang/IndexOutOfBoundsException") hown [] _ _ htab (fun z hz => absurd hz List.not_mem_nil) (by decide) (by decide) (hts _ kl_RL_32) (hts _ kcast_IOE) hce hcv hcl ?_
      refine W.eq (g2 := F0 m 13 ls [.ref q9]) rfl ?_
      refine lv_astore (lv' := [(4, .ref q9), (0, .ref x), (1, .int p1), (2, .int p2), (3, .ref ov)]) hx hb dL_ticksIn_13 hl (by decide) rfl (fun ls hl => ?_)
      refine lv_iconst (v := 1) hx hb dL_ticksIn_15 (by decide) ?_
      have hP : va_P D vwCl ([(ty_XO x w sp sv bu bl le), (ov, .inl (ct 1, 1, .inr (.inl o)))] ++ ws_3) H := ty_permP hP (ty_ordp (E := [(ov, .inl (ct 1, 1, .inr (.inl o))), (ty_XO x w sp sv bu bl le)]) (E2 := [(ty_XO x w sp sv bu bl le), (ov, .inl (ct 1, 1, .inr (.inl o)))]) (n := 2) [1, 0] rfl rfl (by decide))
      have hD : va_D A ([(ty_XO x w sp sv bu bl le), (ov, .inl (ct 1, 1, .inr (.inl o)))] ++ ws_3) := ty_permD hD (ty_ordp (E := [(ov, .inl (ct 1, 1, .inr (.inl o))), (ty_XO x w sp sv bu bl le)]) (E2 := [(ty_XO x w sp sv bu bl le), (ov, .inl (ct 1, 1, .inr (.inl o)))]) (n := 2) [1, 0] rfl rfl (by decide))
      exact W.iret (v := 1) hx hb hr (fun t ht hW => ⟨⟨1, (ws_3, o), rfl, hT, by rw [ht]; exact hP, by rw [hAe]; exact hD⟩, hS.F ht⟩) hS.2.2 dL_ticksIn_16
  · obtain ⟨ws_4, rfl⟩ : ∃ z, z = u := ⟨_, rfl⟩
    have hT := hw_2
    have hP : va_P D vwCl ([(ov, .inl (ct 1, 1, .inr (.inl o))), (ty_XO x w sp sv bu bl le)] ++ ws_4) H := hP
    have hD : va_D A ([(ov, .inl (ct 1, 1, .inr (.inl o))), (ty_XO x w sp sv bu bl le)] ++ ws_4) := hD
    refine W.widen (k := 2) (n := 12) (Nat.le_of_ble_eq_true rfl) (Nat.le_of_ble_eq_true rfl) ?_
    refine lv_i2l hx hb dL_ticksIn_8 rfl ?_
    refine lv_topl (fun x_5 _ => ?_)
    refine va_last hx hb hK hP hD hS 0 1 rfl rfl (cm_vin (by decide)) dL_ticksIn_9 (fun H locs hP hD hS => ?_)
    have hP : va_P D vwCl ([(ov, .inl (ct 1, 1, .inr (.inl (vp_updL o (0 : Int32).toNatClampNeg x_5)))), (ty_XO x w sp sv bu bl le)] ++ ws_4) H := hP
    have hD : va_D A ([(ov, .inl (ct 1, 1, .inr (.inl (vp_updL o (0 : Int32).toNatClampNeg x_5)))), (ty_XO x w sp sv bu bl le)] ++ ws_4) := hD
    refine lv_goto (tgt := 21) hx hb dL_ticksIn_10 (by decide) ?_
    refine lv_iconst (v := 0) hx hb dL_ticksIn_21 (by decide) ?_
    have hP : va_P D vwCl ([(ty_XO x w sp sv bu bl le), (ov, .inl (ct 1, 1, .inr (.inl (vp_updL o (0 : Int32).toNatClampNeg x_5))))] ++ ws_4) H := ty_permP hP (ty_ordp (E := [(ov, .inl (ct 1, 1, .inr (.inl (vp_updL o (0 : Int32).toNatClampNeg x_5)))), (ty_XO x w sp sv bu bl le)]) (E2 := [(ty_XO x w sp sv bu bl le), (ov, .inl (ct 1, 1, .inr (.inl (vp_updL o (0 : Int32).toNatClampNeg x_5))))]) (n := 2) [1, 0] rfl rfl (by decide))
    have hD : va_D A ([(ty_XO x w sp sv bu bl le), (ov, .inl (ct 1, 1, .inr (.inl (vp_updL o (0 : Int32).toNatClampNeg x_5))))] ++ ws_4) := ty_permD hD (ty_ordp (E := [(ov, .inl (ct 1, 1, .inr (.inl (vp_updL o (0 : Int32).toNatClampNeg x_5)))), (ty_XO x w sp sv bu bl le)]) (E2 := [(ty_XO x w sp sv bu bl le), (ov, .inl (ct 1, 1, .inr (.inl (vp_updL o (0 : Int32).toNatClampNeg x_5))))]) (n := 2) [1, 0] rfl rfl (by decide))
    exact W.iret (v := 0) hx hb hr (fun t ht hW => ⟨⟨0, (ws_4, (vp_updL o (0 : Int32).toNatClampNeg x_5)), rfl, hT, by rw [ht]; exact hP, by rw [hAe]; exact hD⟩, hS.F ht⟩) hS.2.2 dL_ticksIn_22
theorem dL_warnings_0 : decode cL_warnings 0 = .ok (.aload_n 2, 1) := by decide +kernel
theorem dL_warnings_1 : decode cL_warnings 1 = .ok (.iconst 0, 1) := by decide +kernel
theorem dL_warnings_2 : decode cL_warnings 2 = .ok (.aload_n 0, 1) := by decide +kernel
theorem dL_warnings_3 : decode cL_warnings 3 = .ok (.iload_n 1, 1) := by decide +kernel
theorem dL_warnings_4 : decode cL_warnings 4 = .ok (.invokevirtual 109, 3) := by decide +kernel
theorem dL_warnings_7 : decode cL_warnings 7 = .ok (.i2l, 1) := by decide +kernel
theorem dL_warnings_8 : decode cL_warnings 8 = .ok (.lastore, 1) := by decide +kernel
theorem dL_warnings_9 : decode cL_warnings 9 = .ok (.goto 6, 3) := by decide +kernel
theorem dL_warnings_12 : decode cL_warnings 12 = .ok (.astore_n 3, 1) := by decide +kernel
theorem dL_warnings_13 : decode cL_warnings 13 = .ok (.iconst 1, 1) := by decide +kernel
theorem dL_warnings_14 : decode cL_warnings 14 = .ok (.ireturn, 1) := by decide +kernel
theorem dL_warnings_15 : decode cL_warnings 15 = .ok (.iconst 0, 1) := by decide +kernel
theorem dL_warnings_16 : decode cL_warnings 16 = .ok (.ireturn, 1) := by decide +kernel
set_option maxRecDepth 100000 in
set_option maxHeartbeats 4000000 in
theorem tl_warnings (l : Launch) (hfl : l.stackTraces = false) (D : va_G) (ct : Nat → ClassId) (S : ty_S) (ws : va_W) (ph : va_W → Prop) (xx : Nat → Nat → Nat → Prop) (x : Nat) (w : Nat) (sp : Nat) (sv : Nat) (bu : Nat) (ns : Nat) (bl : Int32) (le : Int32) (p1 : Int32) (ov : Nat) (o : Nat → Int64) (sz : Nat) (hT : ty_V ct S ph ws) (h_w : S w = some (.inl 9)) (h_sp : S sp = some (.inl 9)) (h_sv : S sv = some (.inr (4, ns))) (hph : ty_C ph xx) (hy1 : ty_y1 xx) (hy11 : ty_y0 xx 11) : Met l yL_warnings (wsw_ yL_warnings cL_warnings 4 (some .int) [(0, 9, 12, 32)]) ({ frames := 8, cells := 1, slots := 6, locals := 133 } : Room) (va_Pc [.ref x, .int p1, .ref ov] (cmPn D ct sz ([(ty_XO x w sp sv bu bl le), (ov, .inl (ct 1, 1, .inr (.inl o)))] ++ ws))) (va_Qi (fun (r : Int32) (u : va_W × (Nat → Int64)) => match u with | (u9, o1) => ty_V ct S ph u9) (cmB D ([(ty_XO x w sp sv bu bl le), (ov, .inl (ct 1, 1, .inr (.inl o)))] ++ ws) sz (fun (u : va_W × (Nat → Int64)) => match u with | (u9, o1) => ([(ty_XO x w sp sv bu bl le), (ov, .inl (ct 1, 1, .inr (.inl o1)))] ++ u9))) (va_A ([(ty_XO x w sp sv bu bl le), (ov, .inl (ct 1, 1, .inr (.inl o)))] ++ ws) sz)) 1 6 (va_A ([(ty_XO x w sp sv bu bl le), (ov, .inl (ct 1, 1, .inr (.inl o)))] ++ ws) sz) := by
  refine va_MetW (cc := cL_warnings) (maxL := 4) (ret := (some .int)) (hh := [(0, 9, 12, 32)]) (by decide) rfl ?_
  intro p e s m args below meth c s₁ B hml hv
  have hts0 := atoms_spec (ws := wsw_ yL_warnings cL_warnings 4 (some .int) [(0, 9, 12, 32)]) B.pre
  have hts : ∀ w ∈ cm_all, w.before args s = true := fun w h => hts0 w (List.mem_cons_of_mem _ h)
  obtain ⟨rfl, ⟨hsz, hP, hK, hD0, hX⟩, hNc⟩ := hv
  have hx := B.exec
  have hb := B.bytes
  have hr := B.returns
  have htab := vx_table (x := yL_warnings) B (hts0 _ List.mem_cons_self)
  have hown : s.vm.findClass RL = some m.cls := findClass_of_methodNamed B.named
  have hlocks := B.notSynchronized
  subst hsz
  have hD := hD0.self (sz := s.heap.size)
  generalize hAe : va_A ([(ty_XO x w sp sv bu bl le), (ov, .inl (ct 1, 1, .inr (.inl o)))] ++ ws) s.heap.size = A at hD hX ⊢
  have hA : ∀ q : Nat, s.heap.size ≤ q → A q := fun q h => by rw [← hAe]; exact Or.inr h
  have hS : va_S A s.heap s.heap [] := va_S.rf
  have hl := lv_entry ([.ref x, .int p1, .ref ov]) (n := 4) (Nat.le_of_ble_eq_true rfl)
  rw [lg_entry_eq]
  generalize (lg_sl ([.ref x, .int p1, .ref ov]) ++ List.replicate (4 - (lg_sl ([.ref x, .int p1, .ref ov])).length) Slot.unset).toArray = ls at hl ⊢
  have hl : lv_has ls 4 [(0, .ref x), (1, .int p1), (2, .ref ov)] := hl
  refine lv_aload_n hx hb dL_warnings_0 rfl (lv_at hl 2 rfl) ?_
  refine lv_iconst (v := 0) hx hb dL_warnings_1 (by decide) ?_
  refine lv_aload_n hx hb dL_warnings_2 rfl (lv_at hl 0 rfl) ?_
  refine lv_iload_n hx hb dL_warnings_3 rfl (lv_at hl 1 rfl) ?_
  have hP : va_P D vwCl ([(ov, .inl (ct 1, 1, .inr (.inl o))), (ty_XO x w sp sv bu bl le)] ++ ws) s.heap := ty_permP hP (ty_ordp (E := [(ty_XO x w sp sv bu bl le), (ov, .inl (ct 1, 1, .inr (.inl o)))]) (E2 := [(ov, .inl (ct 1, 1, .inr (.inl o))), (ty_XO x w sp sv bu bl le)]) (n := 2) [1, 0] rfl rfl (by decide))
  have hD : va_D A ([(ov, .inl (ct 1, 1, .inr (.inl o))), (ty_XO x w sp sv bu bl le)] ++ ws) := ty_permD hD (ty_ordp (E := [(ty_XO x w sp sv bu bl le), (ov, .inl (ct 1, 1, .inr (.inl o)))]) (E2 := [(ov, .inl (ct 1, 1, .inr (.inl o))), (ty_XO x w sp sv bu bl le)]) (n := 2) [1, 0] rfl rfl (by decide))
  refine ty_xi (wr := [(ov, .inl (ct 1, 1, .inr (.inl o)))]) (wc := ([(ty_XO x w sp sv bu bl le)] ++ ws)) (vx_runV (As := [.int p1]) (rest := [.int 0, .ref ov]) ⟨hx, hb, hml, hown, hts⟩ (t_X10_warnings l hfl D ct S ws ph xx x w sp sv bu ns bl le p1 _ hT h_w h_sp h_sv hph hy1) (cm_V 1 hts kc_X10_warnings ki_RX10 kl_RL_109 kv_X10_warnings kx_X10_warnings kd_X10_warnings ⟨Nat.le_of_ble_eq_true rfl, Nat.le_of_ble_eq_true rfl⟩) (ty_preE (wr := [(ov, .inl (ct 1, 1, .inr (.inl o)))]) (wc := ([(ty_XO x w sp sv bu bl le)] ++ ws)) (ci := 10) (q0 := 1) hP hK hD hS hA hX rfl rfl) rfl rfl hl.1 rfl (lv_room (Nat.le_of_ble_eq_true rfl)) dL_warnings_4 ⟨Nat.le_of_ble_eq_true rfl, Nat.le_of_ble_eq_true rfl⟩) hP hD hS hA (fun E ce q9 u H locs hu hE hP hD hS hce hcv hcl => ?_) (fun r_1 u H locs hw_2 hP hD hS => ?_)
  · obtain ⟨ws_3, rfl⟩ : ∃ z, z = u := ⟨_, rfl⟩
    have hT := hu
    have hP : va_P D vwCl ([(ov, .inl (ct 1, 1, .inr (.inl o))), (ty_XO x w sp sv bu bl le)] ++ ws_3) H := hP
    have hD : va_D A ([(ov, .inl (ct 1, 1, .inr (.inl o))), (ty_XO x w sp sv bu bl le)] ++ ws_3) := hD
    obtain rfl := List.mem_singleton.mp hE
    refine vx_catch (name := "java/lang/IndexOutOfBoundsException") hown [] _ _ htab (fun z hz => absurd hz List.not_mem_nil) (by decide) (by decide) (hts _ kl_RL_32) (hts _ kcast_IOE) hce hcv hcl ?_
    refine W.eq (g2 := F0 m 12 ls [.ref q9]) rfl ?_
    refine lv_astore_n (lv' := [(3, .ref q9), (0, .ref x), (1, .int p1), (2, .ref ov)]) hx hb dL_warnings_12 rfl hl (by decide) rfl (fun ls hl => ?_)
    refine lv_iconst (v := 1) hx hb dL_warnings_13 (by decide) ?_
    have hP : va_P D vwCl ([(ty_XO x w sp sv bu bl le), (ov, .inl (ct 1, 1, .inr (.inl o)))] ++ ws_3) H := ty_permP hP (ty_ordp (E := [(ov, .inl (ct 1, 1, .inr (.inl o))), (ty_XO x w sp sv bu bl le)]) (E2 := [(ty_XO x w sp sv bu bl le), (ov, .inl (ct 1, 1, .inr (.inl o)))]) (n := 2) [1, 0] rfl rfl (by decide))
    have hD : va_D A ([(ty_XO x w sp sv bu bl le), (ov, .inl (ct 1, 1, .inr (.inl o)))] ++ ws_3) := ty_permD hD (ty_ordp (E := [(ov, .inl (ct 1, 1, .inr (.inl o))), (ty_XO x w sp sv bu bl le)]) (E2 := [(ty_XO x w sp sv bu bl le), (ov, .inl (ct 1, 1, .inr (.inl o)))]) (n := 2) [1, 0] rfl rfl (by decide))
    exact W.iret (v := 1) hx hb hr (fun t ht hW => ⟨⟨1, (ws_3, o), rfl, hT, by rw [ht]; exact hP, by rw [hAe]; exact hD⟩, hS.F ht⟩) hS.2.2 dL_warnings_14
  · obtain ⟨ws_4, rfl⟩ : ∃ z, z = u := ⟨_, rfl⟩
    have hT := hw_2
    have hP : va_P D vwCl ([(ov, .inl (ct 1, 1, .inr (.inl o))), (ty_XO x w sp sv bu bl le)] ++ ws_4) H := hP
    have hD : va_D A ([(ov, .inl (ct 1, 1, .inr (.inl o))), (ty_XO x w sp sv bu bl le)] ++ ws_4) := hD
    refine W.widen (k := 1) (n := 6) (Nat.le_of_ble_eq_true rfl) (Nat.le_of_ble_eq_true rfl) ?_
    refine lv_i2l hx hb dL_warnings_7 rfl ?_
    refine lv_topl (fun x_5 _ => ?_)
    refine va_last hx hb hK hP hD hS 0 1 rfl rfl (cm_vin (by decide)) dL_warnings_8 (fun H locs hP hD hS => ?_)
    have hP : va_P D vwCl ([(ov, .inl (ct 1, 1, .inr (.inl (vp_updL o (0 : Int32).toNatClampNeg x_5)))), (ty_XO x w sp sv bu bl le)] ++ ws_4) H := hP
    have hD : va_D A ([(ov, .inl (ct 1, 1, .inr (.inl (vp_updL o (0 : Int32).toNatClampNeg x_5)))), (ty_XO x w sp sv bu bl le)] ++ ws_4) := hD
    refine lv_goto (tgt := 15) hx hb dL_warnings_9 (by decide) ?_
    refine lv_iconst (v := 0) hx hb dL_warnings_15 (by decide) ?_
    have hP : va_P D vwCl ([(ty_XO x w sp sv bu bl le), (ov, .inl (ct 1, 1, .inr (.inl (vp_updL o (0 : Int32).toNatClampNeg x_5))))] ++ ws_4) H := ty_permP hP (ty_ordp (E := [(ov, .inl (ct 1, 1, .inr (.inl (vp_updL o (0 : Int32).toNatClampNeg x_5)))), (ty_XO x w sp sv bu bl le)]) (E2 := [(ty_XO x w sp sv bu bl le), (ov, .inl (ct 1, 1, .inr (.inl (vp_updL o (0 : Int32).toNatClampNeg x_5))))]) (n := 2) [1, 0] rfl rfl (by decide))
    have hD : va_D A ([(ty_XO x w sp sv bu bl le), (ov, .inl (ct 1, 1, .inr (.inl (vp_updL o (0 : Int32).toNatClampNeg x_5))))] ++ ws_4) := ty_permD hD (ty_ordp (E := [(ov, .inl (ct 1, 1, .inr (.inl (vp_updL o (0 : Int32).toNatClampNeg x_5)))), (ty_XO x w sp sv bu bl le)]) (E2 := [(ty_XO x w sp sv bu bl le), (ov, .inl (ct 1, 1, .inr (.inl (vp_updL o (0 : Int32).toNatClampNeg x_5))))]) (n := 2) [1, 0] rfl rfl (by decide))
    exact W.iret (v := 0) hx hb hr (fun t ht hW => ⟨⟨0, (ws_4, (vp_updL o (0 : Int32).toNatClampNeg x_5)), rfl, hT, by rw [ht]; exact hP, by rw [hAe]; exact hD⟩, hS.F ht⟩) hS.2.2 dL_warnings_16
theorem dL_warned_0 : decode cL_warned 0 = .ok (.aload_n 2, 1) := by decide +kernel
theorem dL_warned_1 : decode cL_warned 1 = .ok (.iconst 0, 1) := by decide +kernel
theorem dL_warned_2 : decode cL_warned 2 = .ok (.aload_n 0, 1) := by decide +kernel
theorem dL_warned_3 : decode cL_warned 3 = .ok (.iload_n 1, 1) := by decide +kernel
theorem dL_warned_4 : decode cL_warned 4 = .ok (.invokevirtual 112, 3) := by decide +kernel
theorem dL_warned_7 : decode cL_warned 7 = .ok (.i2l, 1) := by decide +kernel
theorem dL_warned_8 : decode cL_warned 8 = .ok (.lastore, 1) := by decide +kernel
theorem dL_warned_9 : decode cL_warned 9 = .ok (.goto 6, 3) := by decide +kernel
theorem dL_warned_12 : decode cL_warned 12 = .ok (.astore_n 3, 1) := by decide +kernel
theorem dL_warned_13 : decode cL_warned 13 = .ok (.iconst 1, 1) := by decide +kernel
theorem dL_warned_14 : decode cL_warned 14 = .ok (.ireturn, 1) := by decide +kernel
theorem dL_warned_15 : decode cL_warned 15 = .ok (.iconst 0, 1) := by decide +kernel
theorem dL_warned_16 : decode cL_warned 16 = .ok (.ireturn, 1) := by decide +kernel
set_option maxRecDepth 100000 in
set_option maxHeartbeats 4000000 in
theorem tl_warned (l : Launch) (hfl : l.stackTraces = false) (D : va_G) (ct : Nat → ClassId) (S : ty_S) (ws : va_W) (ph : va_W → Prop) (xx : Nat → Nat → Nat → Prop) (x : Nat) (w : Nat) (sp : Nat) (sv : Nat) (bu : Nat) (ns : Nat) (bl : Int32) (le : Int32) (p1 : Int32) (ov : Nat) (o : Nat → Int64) (sz : Nat) (hT : ty_V ct S ph ws) (h_w : S w = some (.inl 9)) (h_sp : S sp = some (.inl 9)) (h_sv : S sv = some (.inr (4, ns))) (hph : ty_C ph xx) (hy1 : ty_y1 xx) (hy11 : ty_y0 xx 11) : Met l yL_warned (wsw_ yL_warned cL_warned 4 (some .int) [(0, 9, 12, 32)]) ({ frames := 8, cells := 1, slots := 6, locals := 133 } : Room) (va_Pc [.ref x, .int p1, .ref ov] (cmPn D ct sz ([(ty_XO x w sp sv bu bl le), (ov, .inl (ct 1, 1, .inr (.inl o)))] ++ ws))) (va_Qi (fun (r : Int32) (u : va_W × (Nat → Int64)) => match u with | (u9, o1) => ty_V ct S ph u9) (cmB D ([(ty_XO x w sp sv bu bl le), (ov, .inl (ct 1, 1, .inr (.inl o)))] ++ ws) sz (fun (u : va_W × (Nat → Int64)) => match u with | (u9, o1) => ([(ty_XO x w sp sv bu bl le), (ov, .inl (ct 1, 1, .inr (.inl o1)))] ++ u9))) (va_A ([(ty_XO x w sp sv bu bl le), (ov, .inl (ct 1, 1, .inr (.inl o)))] ++ ws) sz)) 1 6 (va_A ([(ty_XO x w sp sv bu bl le), (ov, .inl (ct 1, 1, .inr (.inl o)))] ++ ws) sz) := by
  refine va_MetW (cc := cL_warned) (maxL := 4) (ret := (some .int)) (hh := [(0, 9, 12, 32)]) (by decide) rfl ?_
  intro p e s m args below meth c s₁ B hml hv
  have hts0 := atoms_spec (ws := wsw_ yL_warned cL_warned 4 (some .int) [(0, 9, 12, 32)]) B.pre
  have hts : ∀ w ∈ cm_all, w.before args s = true := fun w h => hts0 w (List.mem_cons_of_mem _ h)
  obtain ⟨rfl, ⟨hsz, hP, hK, hD0, hX⟩, hNc⟩ := hv
  have hx := B.exec
  have hb := B.bytes
  have hr := B.returns
  have htab := vx_table (x := yL_warned) B (hts0 _ List.mem_cons_self)
  have hown : s.vm.findClass RL = some m.cls := findClass_of_methodNamed B.named
  have hlocks := B.notSynchronized
  subst hsz
  have hD := hD0.self (sz := s.heap.size)
  generalize hAe : va_A ([(ty_XO x w sp sv bu bl le), (ov, .inl (ct 1, 1, .inr (.inl o)))] ++ ws) s.heap.size = A at hD hX ⊢
  have hA : ∀ q : Nat, s.heap.size ≤ q → A q := fun q h => by rw [← hAe]; exact Or.inr h
  have hS : va_S A s.heap s.heap [] := va_S.rf
  have hl := lv_entry ([.ref x, .int p1, .ref ov]) (n := 4) (Nat.le_of_ble_eq_true rfl)
  rw [lg_entry_eq]
  generalize (lg_sl ([.ref x, .int p1, .ref ov]) ++ List.replicate (4 - (lg_sl ([.ref x, .int p1, .ref ov])).length) Slot.unset).toArray = ls at hl ⊢
  have hl : lv_has ls 4 [(0, .ref x), (1, .int p1), (2, .ref ov)] := hl
  refine lv_aload_n hx hb dL_warned_0 rfl (lv_at hl 2 rfl) ?_
  refine lv_iconst (v := 0) hx hb dL_warned_1 (by decide) ?_
  refine lv_aload_n hx hb dL_warned_2 rfl (lv_at hl 0 rfl) ?_
  refine lv_iload_n hx hb dL_warned_3 rfl (lv_at hl 1 rfl) ?_
  have hP : va_P D vwCl ([(ov, .inl (ct 1, 1, .inr (.inl o))), (ty_XO x w sp sv bu bl le)] ++ ws) s.heap := ty_permP hP (ty_ordp (E := [(ty_XO x w sp sv bu bl le), (ov, .inl (ct 1, 1, .inr (.inl o)))]) (E2 := [(ov, .inl (ct 1, 1, .inr (.inl o))), (ty_XO x w sp sv bu bl le)]) (n := 2) [1, 0] rfl rfl (by decide))
  have hD : va_D A ([(ov, .inl (ct 1, 1, .inr (.inl o))), (ty_XO x w sp sv bu bl le)] ++ ws) := ty_permD hD (ty_ordp (E := [(ty_XO x w sp sv bu bl le), (ov, .inl (ct 1, 1, .inr (.inl o)))]) (E2 := [(ov, .inl (ct 1, 1, .inr (.inl o))), (ty_XO x w sp sv bu bl le)]) (n := 2) [1, 0] rfl rfl (by decide))
  refine ty_xi (wr := [(ov, .inl (ct 1, 1, .inr (.inl o)))]) (wc := ([(ty_XO x w sp sv bu bl le)] ++ ws)) (vx_runV (As := [.int p1]) (rest := [.int 0, .ref ov]) ⟨hx, hb, hml, hown, hts⟩ (t_X10_warned l hfl D ct S ws ph xx x w sp sv bu ns bl le p1 _ hT h_w h_sp h_sv hph hy1) (cm_V 1 hts kc_X10_warned ki_RX10 kl_RL_112 kv_X10_warned kx_X10_warned kd_X10_warned ⟨Nat.le_of_ble_eq_true rfl, Nat.le_of_ble_eq_true rfl⟩) (ty_preE (wr := [(ov, .inl (ct 1, 1, .inr (.inl o)))]) (wc := ([(ty_XO x w sp sv bu bl le)] ++ ws)) (ci := 10) (q0 := 1) hP hK hD hS hA hX rfl rfl) rfl rfl hl.1 rfl (lv_room (Nat.le_of_ble_eq_true rfl)) dL_warned_4 ⟨Nat.le_of_ble_eq_true rfl, Nat.le_of_ble_eq_true rfl⟩) hP hD hS hA (fun E ce q9 u H locs hu hE hP hD hS hce hcv hcl => ?_) (fun r_1 u H locs hw_2 hP hD hS => ?_)
  · obtain ⟨ws_3, rfl⟩ : ∃ z, z = u := ⟨_, rfl⟩
    have hT := hu
    have hP : va_P D vwCl ([(ov, .inl (ct 1, 1, .inr (.inl o))), (ty_XO x w sp sv bu bl le)] ++ ws_3) H := hP
    have hD : va_D A ([(ov, .inl (ct 1, 1, .inr (.inl o))), (ty_XO x w sp sv bu bl le)] ++ ws_3) := hD
    obtain rfl := List.mem_singleton.mp hE
    refine vx_catch (name := "java/lang/IndexOutOfBoundsException") hown [] _ _ htab (fun z hz => absurd hz List.not_mem_nil) (by decide) (by decide) (hts _ kl_RL_32) (hts _ kcast_IOE) hce hcv hcl ?_
    refine W.eq (g2 := F0 m 12 ls [.ref q9]) rfl ?_
    refine lv_astore_n (lv' := [(3, .ref q9), (0, .ref x), (1, .int p1), (2, .ref ov)]) hx hb dL_warned_12 rfl hl (by decide) rfl (fun ls hl => ?_)
    refine lv_iconst (v := 1) hx hb dL_warned_13 (by decide) ?_
    have hP : va_P D vwCl ([(ty_XO x w sp sv bu bl le), (ov, .inl (ct 1, 1, .inr (.inl o)))] ++ ws_3) H := ty_permP hP (ty_ordp (E := [(ov, .inl (ct 1, 1, .inr (.inl o))), (ty_XO x w sp sv bu bl le)]) (E2 := [(ty_XO x w sp sv bu bl le), (ov, .inl (ct 1, 1, .inr (.inl o)))]) (n := 2) [1, 0] rfl rfl (by decide))
    have hD : va_D A ([(ty_XO x w sp sv bu bl le), (ov, .inl (ct 1, 1, .inr (.inl o)))] ++ ws_3) := ty_permD hD (ty_ordp (E := [(ov, .inl (ct 1, 1, .inr (.inl o))), (ty_XO x w sp sv bu bl le)]) (E2 := [(ty_XO x w sp sv bu bl le), (ov, .inl (ct 1, 1, .inr (.inl o)))]) (n := 2) [1, 0] rfl rfl (by decide))
    exact W.iret (v := 1) hx hb hr (fun t ht hW => ⟨⟨1, (ws_3, o), rfl, hT, by rw [ht]; exact hP, by rw [hAe]; exact hD⟩, hS.F ht⟩) hS.2.2 dL_warned_14
  · obtain ⟨ws_4, rfl⟩ : ∃ z, z = u := ⟨_, rfl⟩
    have hT := hw_2
    have hP : va_P D vwCl ([(ov, .inl (ct 1, 1, .inr (.inl o))), (ty_XO x w sp sv bu bl le)] ++ ws_4) H := hP
    have hD : va_D A ([(ov, .inl (ct 1, 1, .inr (.inl o))), (ty_XO x w sp sv bu bl le)] ++ ws_4) := hD
    refine W.widen (k := 1) (n := 6) (Nat.le_of_ble_eq_true rfl) (Nat.le_of_ble_eq_true rfl) ?_
    refine lv_i2l hx hb dL_warned_7 rfl ?_
    refine lv_topl (fun x_5 _ => ?_)
    refine va_last hx hb hK hP hD hS 0 1 rfl rfl (cm_vin (by decide)) dL_warned_8 (fun H locs hP hD hS => ?_)
    have hP : va_P D vwCl ([(ov, .inl (ct 1, 1, .inr (.inl (vp_updL o (0 : Int32).toNatClampNeg x_5)))), (ty_XO x w sp sv bu bl le)] ++ ws_4) H := hP
    have hD : va_D A ([(ov, .inl (ct 1, 1, .inr (.inl (vp_updL o (0 : Int32).toNatClampNeg x_5)))), (ty_XO x w sp sv bu bl le)] ++ ws_4) := hD
    refine lv_goto (tgt := 15) hx hb dL_warned_9 (by decide) ?_
    refine lv_iconst (v := 0) hx hb dL_warned_15 (by decide) ?_
    have hP : va_P D vwCl ([(ty_XO x w sp sv bu bl le), (ov, .inl (ct 1, 1, .inr (.inl (vp_updL o (0 : Int32).toNatClampNeg x_5))))] ++ ws_4) H := ty_permP hP (ty_ordp (E := [(ov, .inl (ct 1, 1, .inr (.inl (vp_updL o (0 : Int32).toNatClampNeg x_5)))), (ty_XO x w sp sv bu bl le)]) (E2 := [(ty_XO x w sp sv bu bl le), (ov, .inl (ct 1, 1, .inr (.inl (vp_updL o (0 : Int32).toNatClampNeg x_5))))]) (n := 2) [1, 0] rfl rfl (by decide))
    have hD : va_D A ([(ty_XO x w sp sv bu bl le), (ov, .inl (ct 1, 1, .inr (.inl (vp_updL o (0 : Int32).toNatClampNeg x_5))))] ++ ws_4) := ty_permD hD (ty_ordp (E := [(ov, .inl (ct 1, 1, .inr (.inl (vp_updL o (0 : Int32).toNatClampNeg x_5)))), (ty_XO x w sp sv bu bl le)]) (E2 := [(ty_XO x w sp sv bu bl le), (ov, .inl (ct 1, 1, .inr (.inl (vp_updL o (0 : Int32).toNatClampNeg x_5))))]) (n := 2) [1, 0] rfl rfl (by decide))
    exact W.iret (v := 0) hx hb hr (fun t ht hW => ⟨⟨0, (ws_4, (vp_updL o (0 : Int32).toNatClampNeg x_5)), rfl, hT, by rw [ht]; exact hP, by rw [hAe]; exact hD⟩, hS.F ht⟩) hS.2.2 dL_warned_16
theorem dL_repeats_0 : decode cL_repeats 0 = .ok (.aload_n 3, 1) := by decide +kernel
theorem dL_repeats_1 : decode cL_repeats 1 = .ok (.iconst 0, 1) := by decide +kernel
theorem dL_repeats_2 : decode cL_repeats 2 = .ok (.aload_n 0, 1) := by decide +kernel
theorem dL_repeats_3 : decode cL_repeats 3 = .ok (.iload_n 1, 1) := by decide +kernel
theorem dL_repeats_4 : decode cL_repeats 4 = .ok (.iload_n 2, 1) := by decide +kernel
theorem dL_repeats_5 : decode cL_repeats 5 = .ok (.invokevirtual 115, 3) := by decide +kernel
theorem dL_repeats_8 : decode cL_repeats 8 = .ok (.i2l, 1) := by decide +kernel
theorem dL_repeats_9 : decode cL_repeats 9 = .ok (.lastore, 1) := by decide +kernel
theorem dL_repeats_10 : decode cL_repeats 10 = .ok (.goto 7, 3) := by decide +kernel
theorem dL_repeats_13 : decode cL_repeats 13 = .ok (.astore 4, 2) := by decide +kernel
theorem dL_repeats_15 : decode cL_repeats 15 = .ok (.iconst 1, 1) := by decide +kernel
theorem dL_repeats_16 : decode cL_repeats 16 = .ok (.ireturn, 1) := by decide +kernel
theorem dL_repeats_17 : decode cL_repeats 17 = .ok (.iconst 0, 1) := by decide +kernel
theorem dL_repeats_18 : decode cL_repeats 18 = .ok (.ireturn, 1) := by decide +kernel
set_option maxRecDepth 100000 in
set_option maxHeartbeats 4000000 in
theorem tl_repeats (l : Launch) (hfl : l.stackTraces = false) (D : va_G) (ct : Nat → ClassId) (S : ty_S) (ws : va_W) (ph : va_W → Prop) (xx : Nat → Nat → Nat → Prop) (x : Nat) (w : Nat) (sp : Nat) (sv : Nat) (bu : Nat) (ns : Nat) (bl : Int32) (le : Int32) (p1 : Int32) (p2 : Int32) (ov : Nat) (o : Nat → Int64) (sz : Nat) (hT : ty_V ct S ph ws) (h_w : S w = some (.inl 9)) (h_sp : S sp = some (.inl 9)) (h_sv : S sv = some (.inr (4, ns))) (hph : ty_C ph xx) (hy1 : ty_y1 xx) (hy11 : ty_y0 xx 11) : Met l yL_repeats (wsw_ yL_repeats cL_repeats 5 (some .int) [(0, 10, 13, 32)]) ({ frames := 8, cells := 1, slots := 6, locals := 134 } : Room) (va_Pc [.ref x, .int p1, .int p2, .ref ov] (cmPn D ct sz ([(ty_XO x w sp sv bu bl le), (ov, .inl (ct 1, 1, .inr (.inl o)))] ++ ws))) (va_Qi (fun (r : Int32) (u : va_W × (Nat → Int64)) => match u with | (u9, o1) => ty_V ct S ph u9) (cmB D ([(ty_XO x w sp sv bu bl le), (ov, .inl (ct 1, 1, .inr (.inl o)))] ++ ws) sz (fun (u : va_W × (Nat → Int64)) => match u with | (u9, o1) => ([(ty_XO x w sp sv bu bl le), (ov, .inl (ct 1, 1, .inr (.inl o1)))] ++ u9))) (va_A ([(ty_XO x w sp sv bu bl le), (ov, .inl (ct 1, 1, .inr (.inl o)))] ++ ws) sz)) 1 6 (va_A ([(ty_XO x w sp sv bu bl le), (ov, .inl (ct 1, 1, .inr (.inl o)))] ++ ws) sz) := by
  refine va_MetW (cc := cL_repeats) (maxL := 5) (ret := (some .int)) (hh := [(0, 10, 13, 32)]) (by decide) rfl ?_
  intro p e s m args below meth c s₁ B hml hv
  have hts0 := atoms_spec (ws := wsw_ yL_repeats cL_repeats 5 (some .int) [(0, 10, 13, 32)]) B.pre
  have hts : ∀ w ∈ cm_all, w.before args s = true := fun w h => hts0 w (List.mem_cons_of_mem _ h)
  obtain ⟨rfl, ⟨hsz, hP, hK, hD0, hX⟩, hNc⟩ := hv
  have hx := B.exec
  have hb := B.bytes
  have hr := B.returns
  have htab := vx_table (x := yL_repeats) B (hts0 _ List.mem_cons_self)
  have hown : s.vm.findClass RL = some m.cls := findClass_of_methodNamed B.named
  have hlocks := B.notSynchronized
  subst hsz
  have hD := hD0.self (sz := s.heap.size)
  generalize hAe : va_A ([(ty_XO x w sp sv bu bl le), (ov, .inl (ct 1, 1, .inr (.inl o)))] ++ ws) s.heap.size = A at hD hX ⊢
  have hA : ∀ q : Nat, s.heap.size ≤ q → A q := fun q h => by rw [← hAe]; exact Or.inr h
  have hS : va_S A s.heap s.heap [] := va_S.rf
  have hl := lv_entry ([.ref x, .int p1, .int p2, .ref ov]) (n := 5) (Nat.le_of_ble_eq_true rfl)
  rw [lg_entry_eq]
  generalize (lg_sl ([.ref x, .int p1, .int p2, .ref ov]) ++ List.replicate (5 - (lg_sl ([.ref x, .int p1, .int p2, .ref ov])).length) Slot.unset).toArray = ls at hl ⊢
  have hl : lv_has ls 5 [(0, .ref x), (1, .int p1), (2, .int p2), (3, .ref ov)] := hl
  refine lv_aload_n hx hb dL_repeats_0 rfl (lv_at hl 3 rfl) ?_
  refine lv_iconst (v := 0) hx hb dL_repeats_1 (by decide) ?_
  refine lv_aload_n hx hb dL_repeats_2 rfl (lv_at hl 0 rfl) ?_
  refine lv_iload_n hx hb dL_repeats_3 rfl (lv_at hl 1 rfl) ?_
  refine lv_iload_n hx hb dL_repeats_4 rfl (lv_at hl 2 rfl) ?_
  have hP : va_P D vwCl ([(ov, .inl (ct 1, 1, .inr (.inl o))), (ty_XO x w sp sv bu bl le)] ++ ws) s.heap := ty_permP hP (ty_ordp (E := [(ty_XO x w sp sv bu bl le), (ov, .inl (ct 1, 1, .inr (.inl o)))]) (E2 := [(ov, .inl (ct 1, 1, .inr (.inl o))), (ty_XO x w sp sv bu bl le)]) (n := 2) [1, 0] rfl rfl (by decide))
  have hD : va_D A ([(ov, .inl (ct 1, 1, .inr (.inl o))), (ty_XO x w sp sv bu bl le)] ++ ws) := ty_permD hD (ty_ordp (E := [(ty_XO x w sp sv bu bl le), (ov, .inl (ct 1, 1, .inr (.inl o)))]) (E2 := [(ov, .inl (ct 1, 1, .inr (.inl o))), (ty_XO x w sp sv bu bl le)]) (n := 2) [1, 0] rfl rfl (by decide))
  refine ty_xi (wr := [(ov, .inl (ct 1, 1, .inr (.inl o)))]) (wc := ([(ty_XO x w sp sv bu bl le)] ++ ws)) (vx_runV (As := [.int p1, .int p2]) (rest := [.int 0, .ref ov]) ⟨hx, hb, hml, hown, hts⟩ (t_X10_repeats l hfl D ct S ws ph xx x w sp sv bu ns bl le p1 p2 _ hT h_w h_sp h_sv hph hy1) (cm_V 2 hts kc_X10_repeats ki_RX10 kl_RL_115 kv_X10_repeats kx_X10_repeats kd_X10_repeats ⟨Nat.le_of_ble_eq_true rfl, Nat.le_of_ble_eq_true rfl⟩) (ty_preE (wr := [(ov, .inl (ct 1, 1, .inr (.inl o)))]) (wc := ([(ty_XO x w sp sv bu bl le)] ++ ws)) (ci := 10) (q0 := 1) hP hK hD hS hA hX rfl rfl) rfl rfl hl.1 rfl (lv_room (Nat.le_of_ble_eq_true rfl)) dL_repeats_5 ⟨Nat.le_of_ble_eq_true rfl, Nat.le_of_ble_eq_true rfl⟩) hP hD hS hA (fun E ce q9 u H locs hu hE hP hD hS hce hcv hcl => ?_) (fun r_1 u H locs hw_2 hP hD hS => ?_)
  · obtain ⟨ws_3, rfl⟩ : ∃ z, z = u := ⟨_, rfl⟩
    have hT := hu
    have hP : va_P D vwCl ([(ov, .inl (ct 1, 1, .inr (.inl o))), (ty_XO x w sp sv bu bl le)] ++ ws_3) H := hP
    have hD : va_D A ([(ov, .inl (ct 1, 1, .inr (.inl o))), (ty_XO x w sp sv bu bl le)] ++ ws_3) := hD
    obtain rfl := List.mem_singleton.mp hE
    refine vx_catch (name := "java/lang/IndexOutOfBoundsException") hown [] _ _ htab (fun z hz => absurd hz List.not_mem_nil) (by decide) (by decide) (hts _ kl_RL_32) (hts _ kcast_IOE) hce hcv hcl ?_
    refine W.eq (g2 := F0 m 13 ls [.ref q9]) rfl ?_
    refine lv_astore (lv' := [(4, .ref q9), (0, .ref x), (1, .int p1), (2, .int p2), (3, .ref ov)]) hx hb dL_repeats_13 hl (by decide) rfl (fun ls hl => ?_)
    refine lv_iconst (v := 1) hx hb dL_repeats_15 (by decide) ?_
    have hP : va_P D vwCl ([(ty_XO x w sp sv bu bl le), (ov, .inl (ct 1, 1, .inr (.inl o)))] ++ ws_3) H := ty_permP hP (ty_ordp (E := [(ov, .inl (ct 1, 1, .inr (.inl o))), (ty_XO x w sp sv bu bl le)]) (E2 := [(ty_XO x w sp sv bu bl le), (ov, .inl (ct 1, 1, .inr (.inl o)))]) (n := 2) [1, 0] rfl rfl (by decide))
    have hD : va_D A ([(ty_XO x w sp sv bu bl le), (ov, .inl (ct 1, 1, .inr (.inl o)))] ++ ws_3) := ty_permD hD (ty_ordp (E := [(ov, .inl (ct 1, 1, .inr (.inl o))), (ty_XO x w sp sv bu bl le)]) (E2 := [(ty_XO x w sp sv bu bl le), (ov, .inl (ct 1, 1, .inr (.inl o)))]) (n := 2) [1, 0] rfl rfl (by decide))
    exact W.iret (v := 1) hx hb hr (fun t ht hW => ⟨⟨1, (ws_3, o), rfl, hT, by rw [ht]; exact hP, by rw [hAe]; exact hD⟩, hS.F ht⟩) hS.2.2 dL_repeats_16
  · obtain ⟨ws_4, rfl⟩ : ∃ z, z = u := ⟨_, rfl⟩
    have hT := hw_2
    have hP : va_P D vwCl ([(ov, .inl (ct 1, 1, .inr (.inl o))), (ty_XO x w sp sv bu bl le)] ++ ws_4) H := hP
    have hD : va_D A ([(ov, .inl (ct 1, 1, .inr (.inl o))), (ty_XO x w sp sv bu bl le)] ++ ws_4) := hD
    refine W.widen (k := 1) (n := 6) (Nat.le_of_ble_eq_true rfl) (Nat.le_of_ble_eq_true rfl) ?_
    refine lv_i2l hx hb dL_repeats_8 rfl ?_
    refine lv_topl (fun x_5 _ => ?_)
    refine va_last hx hb hK hP hD hS 0 1 rfl rfl (cm_vin (by decide)) dL_repeats_9 (fun H locs hP hD hS => ?_)
    have hP : va_P D vwCl ([(ov, .inl (ct 1, 1, .inr (.inl (vp_updL o (0 : Int32).toNatClampNeg x_5)))), (ty_XO x w sp sv bu bl le)] ++ ws_4) H := hP
    have hD : va_D A ([(ov, .inl (ct 1, 1, .inr (.inl (vp_updL o (0 : Int32).toNatClampNeg x_5)))), (ty_XO x w sp sv bu bl le)] ++ ws_4) := hD
    refine lv_goto (tgt := 17) hx hb dL_repeats_10 (by decide) ?_
    refine lv_iconst (v := 0) hx hb dL_repeats_17 (by decide) ?_
    have hP : va_P D vwCl ([(ty_XO x w sp sv bu bl le), (ov, .inl (ct 1, 1, .inr (.inl (vp_updL o (0 : Int32).toNatClampNeg x_5))))] ++ ws_4) H := ty_permP hP (ty_ordp (E := [(ov, .inl (ct 1, 1, .inr (.inl (vp_updL o (0 : Int32).toNatClampNeg x_5)))), (ty_XO x w sp sv bu bl le)]) (E2 := [(ty_XO x w sp sv bu bl le), (ov, .inl (ct 1, 1, .inr (.inl (vp_updL o (0 : Int32).toNatClampNeg x_5))))]) (n := 2) [1, 0] rfl rfl (by decide))
    have hD : va_D A ([(ty_XO x w sp sv bu bl le), (ov, .inl (ct 1, 1, .inr (.inl (vp_updL o (0 : Int32).toNatClampNeg x_5))))] ++ ws_4) := ty_permD hD (ty_ordp (E := [(ov, .inl (ct 1, 1, .inr (.inl (vp_updL o (0 : Int32).toNatClampNeg x_5)))), (ty_XO x w sp sv bu bl le)]) (E2 := [(ty_XO x w sp sv bu bl le), (ov, .inl (ct 1, 1, .inr (.inl (vp_updL o (0 : Int32).toNatClampNeg x_5))))]) (n := 2) [1, 0] rfl rfl (by decide))
    exact W.iret (v := 0) hx hb hr (fun t ht hW => ⟨⟨0, (ws_4, (vp_updL o (0 : Int32).toNatClampNeg x_5)), rfl, hT, by rw [ht]; exact hP, by rw [hAe]; exact hD⟩, hS.F ht⟩) hS.2.2 dL_repeats_18
theorem dL_inState_0 : decode cL_inState 0 = .ok (.aload_n 2, 1) := by decide +kernel
theorem dL_inState_1 : decode cL_inState 1 = .ok (.iconst 0, 1) := by decide +kernel
theorem dL_inState_2 : decode cL_inState 2 = .ok (.aload_n 0, 1) := by decide +kernel
theorem dL_inState_3 : decode cL_inState 3 = .ok (.iload_n 1, 1) := by decide +kernel
theorem dL_inState_4 : decode cL_inState 4 = .ok (.invokevirtual 118, 3) := by decide +kernel
theorem dL_inState_7 : decode cL_inState 7 = .ok (.i2l, 1) := by decide +kernel
theorem dL_inState_8 : decode cL_inState 8 = .ok (.lastore, 1) := by decide +kernel
theorem dL_inState_9 : decode cL_inState 9 = .ok (.goto 6, 3) := by decide +kernel
theorem dL_inState_12 : decode cL_inState 12 = .ok (.astore_n 3, 1) := by decide +kernel
theorem dL_inState_13 : decode cL_inState 13 = .ok (.iconst 1, 1) := by decide +kernel
theorem dL_inState_14 : decode cL_inState 14 = .ok (.ireturn, 1) := by decide +kernel
theorem dL_inState_15 : decode cL_inState 15 = .ok (.iconst 0, 1) := by decide +kernel
theorem dL_inState_16 : decode cL_inState 16 = .ok (.ireturn, 1) := by decide +kernel
set_option maxRecDepth 100000 in
set_option maxHeartbeats 4000000 in
theorem tl_inState (l : Launch) (hfl : l.stackTraces = false) (D : va_G) (ct : Nat → ClassId) (S : ty_S) (ws : va_W) (ph : va_W → Prop) (xx : Nat → Nat → Nat → Prop) (x : Nat) (w : Nat) (sp : Nat) (sv : Nat) (bu : Nat) (ns : Nat) (bl : Int32) (le : Int32) (p1 : Int32) (ov : Nat) (o : Nat → Int64) (sz : Nat) (hT : ty_V ct S ph ws) (h_w : S w = some (.inl 9)) (h_sp : S sp = some (.inl 9)) (h_sv : S sv = some (.inr (4, ns))) (hph : ty_C ph xx) (hy1 : ty_y1 xx) (hy11 : ty_y0 xx 11) : Met l yL_inState (wsw_ yL_inState cL_inState 4 (some .int) [(0, 9, 12, 13)]) ({ frames := 8, cells := 1, slots := 6, locals := 133 } : Room) (va_Pc [.ref x, .int p1, .ref ov] (cmPn D ct sz ([(ty_XO x w sp sv bu bl le), (ov, .inl (ct 1, 1, .inr (.inl o)))] ++ ws))) (va_Qi (fun (r : Int32) (u : va_W × (Nat → Int64)) => match u with | (u9, o1) => ty_V ct S ph u9) (cmB D ([(ty_XO x w sp sv bu bl le), (ov, .inl (ct 1, 1, .inr (.inl o)))] ++ ws) sz (fun (u : va_W × (Nat → Int64)) => match u with | (u9, o1) => ([(ty_XO x w sp sv bu bl le), (ov, .inl (ct 1, 1, .inr (.inl o1)))] ++ u9))) (va_A ([(ty_XO x w sp sv bu bl le), (ov, .inl (ct 1, 1, .inr (.inl o)))] ++ ws) sz)) 1 6 (va_A ([(ty_XO x w sp sv bu bl le), (ov, .inl (ct 1, 1, .inr (.inl o)))] ++ ws) sz) := by
  refine va_MetW (cc := cL_inState) (maxL := 4) (ret := (some .int)) (hh := [(0, 9, 12, 13)]) (by decide) rfl ?_
  intro p e s m args below meth c s₁ B hml hv
  have hts0 := atoms_spec (ws := wsw_ yL_inState cL_inState 4 (some .int) [(0, 9, 12, 13)]) B.pre
  have hts : ∀ w ∈ cm_all, w.before args s = true := fun w h => hts0 w (List.mem_cons_of_mem _ h)
  obtain ⟨rfl, ⟨hsz, hP, hK, hD0, hX⟩, hNc⟩ := hv
  have hx := B.exec
  have hb := B.bytes
  have hr := B.returns
  have htab := vx_table (x := yL_inState) B (hts0 _ List.mem_cons_self)
  have hown : s.vm.findClass RL = some m.cls := findClass_of_methodNamed B.named
  have hlocks := B.notSynchronized
  subst hsz
  have hD := hD0.self (sz := s.heap.size)
  generalize hAe : va_A ([(ty_XO x w sp sv bu bl le), (ov, .inl (ct 1, 1, .inr (.inl o)))] ++ ws) s.heap.size = A at hD hX ⊢
  have hA : ∀ q : Nat, s.heap.size ≤ q → A q := fun q h => by rw [← hAe]; exact Or.inr h
  have hS : va_S A s.heap s.heap [] := va_S.rf
  have hl := lv_entry ([.ref x, .int p1, .ref ov]) (n := 4) (Nat.le_of_ble_eq_true rfl)
  rw [lg_entry_eq]
  generalize (lg_sl ([.ref x, .int p1, .ref ov]) ++ List.replicate (4 - (lg_sl ([.ref x, .int p1, .ref ov])).length) Slot.unset).toArray = ls at hl ⊢
  have hl : lv_has ls 4 [(0, .ref x), (1, .int p1), (2, .ref ov)] := hl
  refine lv_aload_n hx hb dL_inState_0 rfl (lv_at hl 2 rfl) ?_
  refine lv_iconst (v := 0) hx hb dL_inState_1 (by decide) ?_
  refine lv_aload_n hx hb dL_inState_2 rfl (lv_at hl 0 rfl) ?_
  refine lv_iload_n hx hb dL_inState_3 rfl (lv_at hl 1 rfl) ?_
  have hP : va_P D vwCl ([(ov, .inl (ct 1, 1, .inr (.inl o))), (ty_XO x w sp sv bu bl le)] ++ ws) s.heap := ty_permP hP (ty_ordp (E := [(ty_XO x w sp sv bu bl le), (ov, .inl (ct 1, 1, .inr (.inl o)))]) (E2 := [(ov, .inl (ct 1, 1, .inr (.inl o))), (ty_XO x w sp sv bu bl le)]) (n := 2) [1, 0] rfl rfl (by decide))
  have hD : va_D A ([(ov, .inl (ct 1, 1, .inr (.inl o))), (ty_XO x w sp sv bu bl le)] ++ ws) := ty_permD hD (ty_ordp (E := [(ty_XO x w sp sv bu bl le), (ov, .inl (ct 1, 1, .inr (.inl o)))]) (E2 := [(ov, .inl (ct 1, 1, .inr (.inl o))), (ty_XO x w sp sv bu bl le)]) (n := 2) [1, 0] rfl rfl (by decide))
  refine ty_xi (wr := [(ov, .inl (ct 1, 1, .inr (.inl o)))]) (wc := ([(ty_XO x w sp sv bu bl le)] ++ ws)) (vx_runV (As := [.int p1]) (rest := [.int 0, .ref ov]) ⟨hx, hb, hml, hown, hts⟩ (t_X10_inState l hfl D ct S ws ph xx x w sp sv bu ns bl le p1 _ hT h_w h_sp h_sv hph hy1) (cm_V 1 hts kc_X10_inState ki_RX10 kl_RL_118 kv_X10_inState kx_X10_inState kd_X10_inState ⟨Nat.le_of_ble_eq_true rfl, Nat.le_of_ble_eq_true rfl⟩) (ty_preE (wr := [(ov, .inl (ct 1, 1, .inr (.inl o)))]) (wc := ([(ty_XO x w sp sv bu bl le)] ++ ws)) (ci := 10) (q0 := 1) hP hK hD hS hA hX rfl rfl) rfl rfl hl.1 rfl (lv_room (Nat.le_of_ble_eq_true rfl)) dL_inState_4 ⟨Nat.le_of_ble_eq_true rfl, Nat.le_of_ble_eq_true rfl⟩) hP hD hS hA (fun E ce q9 u H locs hu hE hP hD hS hce hcv hcl => ?_) (fun r_1 u H locs hw_2 hP hD hS => ?_)
  · obtain ⟨ws_3, rfl⟩ : ∃ z, z = u := ⟨_, rfl⟩
    have hT := hu
    have hP : va_P D vwCl ([(ov, .inl (ct 1, 1, .inr (.inl o))), (ty_XO x w sp sv bu bl le)] ++ ws_3) H := hP
    have hD : va_D A ([(ov, .inl (ct 1, 1, .inr (.inl o))), (ty_XO x w sp sv bu bl le)] ++ ws_3) := hD
    obtain rfl := List.mem_singleton.mp hE
    refine vx_catch (name := "java/lang/IllegalArgumentException") hown [] _ _ htab (fun z hz => absurd hz List.not_mem_nil) (by decide) (by decide) (hts _ kl_RL_13) (hts _ kcast_IAE) hce hcv hcl ?_
    refine W.eq (g2 := F0 m 12 ls [.ref q9]) rfl ?_
    refine lv_astore_n (lv' := [(3, .ref q9), (0, .ref x), (1, .int p1), (2, .ref ov)]) hx hb dL_inState_12 rfl hl (by decide) rfl (fun ls hl => ?_)
    refine lv_iconst (v := 1) hx hb dL_inState_13 (by decide) ?_
    have hP : va_P D vwCl ([(ty_XO x w sp sv bu bl le), (ov, .inl (ct 1, 1, .inr (.inl o)))] ++ ws_3) H := ty_permP hP (ty_ordp (E := [(ov, .inl (ct 1, 1, .inr (.inl o))), (ty_XO x w sp sv bu bl le)]) (E2 := [(ty_XO x w sp sv bu bl le), (ov, .inl (ct 1, 1, .inr (.inl o)))]) (n := 2) [1, 0] rfl rfl (by decide))
    have hD : va_D A ([(ty_XO x w sp sv bu bl le), (ov, .inl (ct 1, 1, .inr (.inl o)))] ++ ws_3) := ty_permD hD (ty_ordp (E := [(ov, .inl (ct 1, 1, .inr (.inl o))), (ty_XO x w sp sv bu bl le)]) (E2 := [(ty_XO x w sp sv bu bl le), (ov, .inl (ct 1, 1, .inr (.inl o)))]) (n := 2) [1, 0] rfl rfl (by decide))
    exact W.iret (v := 1) hx hb hr (fun t ht hW => ⟨⟨1, (ws_3, o), rfl, hT, by rw [ht]; exact hP, by rw [hAe]; exact hD⟩, hS.F ht⟩) hS.2.2 dL_inState_14
  · obtain ⟨ws_4, rfl⟩ : ∃ z, z = u := ⟨_, rfl⟩
    have hT := hw_2
    have hP : va_P D vwCl ([(ov, .inl (ct 1, 1, .inr (.inl o))), (ty_XO x w sp sv bu bl le)] ++ ws_4) H := hP
    have hD : va_D A ([(ov, .inl (ct 1, 1, .inr (.inl o))), (ty_XO x w sp sv bu bl le)] ++ ws_4) := hD
    refine W.widen (k := 1) (n := 6) (Nat.le_of_ble_eq_true rfl) (Nat.le_of_ble_eq_true rfl) ?_
    refine lv_i2l hx hb dL_inState_7 rfl ?_
    refine lv_topl (fun x_5 _ => ?_)
    refine va_last hx hb hK hP hD hS 0 1 rfl rfl (cm_vin (by decide)) dL_inState_8 (fun H locs hP hD hS => ?_)
    have hP : va_P D vwCl ([(ov, .inl (ct 1, 1, .inr (.inl (vp_updL o (0 : Int32).toNatClampNeg x_5)))), (ty_XO x w sp sv bu bl le)] ++ ws_4) H := hP
    have hD : va_D A ([(ov, .inl (ct 1, 1, .inr (.inl (vp_updL o (0 : Int32).toNatClampNeg x_5)))), (ty_XO x w sp sv bu bl le)] ++ ws_4) := hD
    refine lv_goto (tgt := 15) hx hb dL_inState_9 (by decide) ?_
    refine lv_iconst (v := 0) hx hb dL_inState_15 (by decide) ?_
    have hP : va_P D vwCl ([(ty_XO x w sp sv bu bl le), (ov, .inl (ct 1, 1, .inr (.inl (vp_updL o (0 : Int32).toNatClampNeg x_5))))] ++ ws_4) H := ty_permP hP (ty_ordp (E := [(ov, .inl (ct 1, 1, .inr (.inl (vp_updL o (0 : Int32).toNatClampNeg x_5)))), (ty_XO x w sp sv bu bl le)]) (E2 := [(ty_XO x w sp sv bu bl le), (ov, .inl (ct 1, 1, .inr (.inl (vp_updL o (0 : Int32).toNatClampNeg x_5))))]) (n := 2) [1, 0] rfl rfl (by decide))
    have hD : va_D A ([(ty_XO x w sp sv bu bl le), (ov, .inl (ct 1, 1, .inr (.inl (vp_updL o (0 : Int32).toNatClampNeg x_5))))] ++ ws_4) := ty_permD hD (ty_ordp (E := [(ov, .inl (ct 1, 1, .inr (.inl (vp_updL o (0 : Int32).toNatClampNeg x_5)))), (ty_XO x w sp sv bu bl le)]) (E2 := [(ty_XO x w sp sv bu bl le), (ov, .inl (ct 1, 1, .inr (.inl (vp_updL o (0 : Int32).toNatClampNeg x_5))))]) (n := 2) [1, 0] rfl rfl (by decide))
    exact W.iret (v := 0) hx hb hr (fun t ht hW => ⟨⟨0, (ws_4, (vp_updL o (0 : Int32).toNatClampNeg x_5)), rfl, hT, by rw [ht]; exact hP, by rw [hAe]; exact hD⟩, hS.F ht⟩) hS.2.2 dL_inState_16
theorem dL_record_0 : decode cL_record 0 = .ok (.aload_n 3, 1) := by decide +kernel
theorem dL_record_1 : decode cL_record 1 = .ok (.iconst 0, 1) := by decide +kernel
theorem dL_record_2 : decode cL_record 2 = .ok (.aload_n 0, 1) := by decide +kernel
theorem dL_record_3 : decode cL_record 3 = .ok (.iload_n 1, 1) := by decide +kernel
theorem dL_record_4 : decode cL_record 4 = .ok (.iload_n 2, 1) := by decide +kernel
theorem dL_record_5 : decode cL_record 5 = .ok (.invokevirtual 121, 3) := by decide +kernel
theorem dL_record_8 : decode cL_record 8 = .ok (.i2l, 1) := by decide +kernel
theorem dL_record_9 : decode cL_record 9 = .ok (.lastore, 1) := by decide +kernel
theorem dL_record_10 : decode cL_record 10 = .ok (.goto 7, 3) := by decide +kernel
theorem dL_record_13 : decode cL_record 13 = .ok (.astore 4, 2) := by decide +kernel
theorem dL_record_15 : decode cL_record 15 = .ok (.iconst 1, 1) := by decide +kernel
theorem dL_record_16 : decode cL_record 16 = .ok (.ireturn, 1) := by decide +kernel
theorem dL_record_17 : decode cL_record 17 = .ok (.iconst 0, 1) := by decide +kernel
theorem dL_record_18 : decode cL_record 18 = .ok (.ireturn, 1) := by decide +kernel
set_option maxRecDepth 100000 in
set_option maxHeartbeats 4000000 in
theorem tl_record (l : Launch) (hfl : l.stackTraces = false) (D : va_G) (ct : Nat → ClassId) (S : ty_S) (ws : va_W) (ph : va_W → Prop) (xx : Nat → Nat → Nat → Prop) (x : Nat) (w : Nat) (sp : Nat) (sv : Nat) (bu : Nat) (ns : Nat) (bl : Int32) (le : Int32) (p1 : Int32) (p2 : Int32) (ov : Nat) (o : Nat → Int64) (sz : Nat) (hT : ty_V ct S ph ws) (h_w : S w = some (.inl 9)) (h_sp : S sp = some (.inl 9)) (h_sv : S sv = some (.inr (4, ns))) (hph : ty_C ph xx) (hy1 : ty_y1 xx) (hy11 : ty_y0 xx 11) : Met l yL_record (wsw_ yL_record cL_record 5 (some .int) [(0, 10, 13, 13)]) ({ frames := 8, cells := 1, slots := 6, locals := 135 } : Room) (va_Pc [.ref x, .int p1, .int p2, .ref ov] (cmPn D ct sz ([(ty_XO x w sp sv bu bl le), (ov, .inl (ct 1, 1, .inr (.inl o)))] ++ ws))) (va_Qi (fun (r : Int32) (u : va_W × (Nat → Int64)) => match u with | (u9, o1) => ty_V ct S ph u9) (cmB D ([(ty_XO x w sp sv bu bl le), (ov, .inl (ct 1, 1, .inr (.inl o)))] ++ ws) sz (fun (u : va_W × (Nat → Int64)) => match u with | (u9, o1) => ([(ty_XO x w sp sv bu bl le), (ov, .inl (ct 1, 1, .inr (.inl o1)))] ++ u9))) (va_A ([(ty_XO x w sp sv bu bl le), (ov, .inl (ct 1, 1, .inr (.inl o)))] ++ ws) sz)) 1 6 (va_A ([(ty_XO x w sp sv bu bl le), (ov, .inl (ct 1, 1, .inr (.inl o)))] ++ ws) sz) := by
  refine va_MetW (cc := cL_record) (maxL := 5) (ret := (some .int)) (hh := [(0, 10, 13, 13)]) (by decide) rfl ?_
  intro p e s m args below meth c s₁ B hml hv
  have hts0 := atoms_spec (ws := wsw_ yL_record cL_record 5 (some .int) [(0, 10, 13, 13)]) B.pre
  have hts : ∀ w ∈ cm_all, w.before args s = true := fun w h => hts0 w (List.mem_cons_of_mem _ h)
  obtain ⟨rfl, ⟨hsz, hP, hK, hD0, hX⟩, hNc⟩ := hv
  have hx := B.exec
  have hb := B.bytes
  have hr := B.returns
  have htab := vx_table (x := yL_record) B (hts0 _ List.mem_cons_self)
  have hown : s.vm.findClass RL = some m.cls := findClass_of_methodNamed B.named
  have hlocks := B.notSynchronized
  subst hsz
  have hD := hD0.self (sz := s.heap.size)
  generalize hAe : va_A ([(ty_XO x w sp sv bu bl le), (ov, .inl (ct 1, 1, .inr (.inl o)))] ++ ws) s.heap.size = A at hD hX ⊢
  have hA : ∀ q : Nat, s.heap.size ≤ q → A q := fun q h => by rw [← hAe]; exact Or.inr h
  have hS : va_S A s.heap s.heap [] := va_S.rf
  have hl := lv_entry ([.ref x, .int p1, .int p2, .ref ov]) (n := 5) (Nat.le_of_ble_eq_true rfl)
  rw [lg_entry_eq]
  generalize (lg_sl ([.ref x, .int p1, .int p2, .ref ov]) ++ List.replicate (5 - (lg_sl ([.ref x, .int p1, .int p2, .ref ov])).length) Slot.unset).toArray = ls at hl ⊢
  have hl : lv_has ls 5 [(0, .ref x), (1, .int p1), (2, .int p2), (3, .ref ov)] := hl
  refine lv_aload_n hx hb dL_record_0 rfl (lv_at hl 3 rfl) ?_
  refine lv_iconst (v := 0) hx hb dL_record_1 (by decide) ?_
  refine lv_aload_n hx hb dL_record_2 rfl (lv_at hl 0 rfl) ?_
  refine lv_iload_n hx hb dL_record_3 rfl (lv_at hl 1 rfl) ?_
  refine lv_iload_n hx hb dL_record_4 rfl (lv_at hl 2 rfl) ?_
  have hP : va_P D vwCl ([(ov, .inl (ct 1, 1, .inr (.inl o))), (ty_XO x w sp sv bu bl le)] ++ ws) s.heap := ty_permP hP (ty_ordp (E := [(ty_XO x w sp sv bu bl le), (ov, .inl (ct 1, 1, .inr (.inl o)))]) (E2 := [(ov, .inl (ct 1, 1, .inr (.inl o))), (ty_XO x w sp sv bu bl le)]) (n := 2) [1, 0] rfl rfl (by decide))
  have hD : va_D A ([(ov, .inl (ct 1, 1, .inr (.inl o))), (ty_XO x w sp sv bu bl le)] ++ ws) := ty_permD hD (ty_ordp (E := [(ty_XO x w sp sv bu bl le), (ov, .inl (ct 1, 1, .inr (.inl o)))]) (E2 := [(ov, .inl (ct 1, 1, .inr (.inl o))), (ty_XO x w sp sv bu bl le)]) (n := 2) [1, 0] rfl rfl (by decide))
  refine ty_xi (wr := [(ov, .inl (ct 1, 1, .inr (.inl o)))]) (wc := ([(ty_XO x w sp sv bu bl le)] ++ ws)) (vx_runV (As := [.int p1, .int p2]) (rest := [.int 0, .ref ov]) ⟨hx, hb, hml, hown, hts⟩ (t_X10_record l hfl D ct S ws ph xx x w sp sv bu ns bl le p1 p2 _ hT h_w h_sp h_sv hph hy1) (cm_V 2 hts kc_X10_record ki_RX10 kl_RL_121 kv_X10_record kx_X10_record kd_X10_record ⟨Nat.le_of_ble_eq_true rfl, Nat.le_of_ble_eq_true rfl⟩) (ty_preE (wr := [(ov, .inl (ct 1, 1, .inr (.inl o)))]) (wc := ([(ty_XO x w sp sv bu bl le)] ++ ws)) (ci := 10) (q0 := 1) hP hK hD hS hA hX rfl rfl) rfl rfl hl.1 rfl (lv_room (Nat.le_of_ble_eq_true rfl)) dL_record_5 ⟨Nat.le_of_ble_eq_true rfl, Nat.le_of_ble_eq_true rfl⟩) hP hD hS hA (fun E ce q9 u H locs hu hE hP hD hS hce hcv hcl => ?_) (fun r_1 u H locs hw_2 hP hD hS => ?_)
  · obtain ⟨ws_3, rfl⟩ : ∃ z, z = u := ⟨_, rfl⟩
    have hT := hu
    have hP : va_P D vwCl ([(ov, .inl (ct 1, 1, .inr (.inl o))), (ty_XO x w sp sv bu bl le)] ++ ws_3) H := hP
    have hD : va_D A ([(ov, .inl (ct 1, 1, .inr (.inl o))), (ty_XO x w sp sv bu bl le)] ++ ws_3) := hD
    obtain rfl := List.mem_singleton.mp hE
    refine vx_catch (name := "java/lang/IllegalArgumentException") hown [] _ _ htab (fun z hz => absurd hz List.not_mem_nil) (by decide) (by decide) (hts _ kl_RL_13) (hts _ kcast_IAE) hce hcv hcl ?_
    refine W.eq (g2 := F0 m 13 ls [.ref q9]) rfl ?_
    refine lv_astore (lv' := [(4, .ref q9), (0, .ref x), (1, .int p1), (2, .int p2), (3, .ref ov)]) hx hb dL_record_13 hl (by decide) rfl (fun ls hl => ?_)
    refine lv_iconst (v := 1) hx hb dL_record_15 (by decide) ?_
    have hP : va_P D vwCl ([(ty_XO x w sp sv bu bl le), (ov, .inl (ct 1, 1, .inr (.inl o)))] ++ ws_3) H := ty_permP hP (ty_ordp (E := [(ov, .inl (ct 1, 1, .inr (.inl o))), (ty_XO x w sp sv bu bl le)]) (E2 := [(ty_XO x w sp sv bu bl le), (ov, .inl (ct 1, 1, .inr (.inl o)))]) (n := 2) [1, 0] rfl rfl (by decide))
    have hD : va_D A ([(ty_XO x w sp sv bu bl le), (ov, .inl (ct 1, 1, .inr (.inl o)))] ++ ws_3) := ty_permD hD (ty_ordp (E := [(ov, .inl (ct 1, 1, .inr (.inl o))), (ty_XO x w sp sv bu bl le)]) (E2 := [(ty_XO x w sp sv bu bl le), (ov, .inl (ct 1, 1, .inr (.inl o)))]) (n := 2) [1, 0] rfl rfl (by decide))
    exact W.iret (v := 1) hx hb hr (fun t ht hW => ⟨⟨1, (ws_3, o), rfl, hT, by rw [ht]; exact hP, by rw [hAe]; exact hD⟩, hS.F ht⟩) hS.2.2 dL_record_16
  · obtain ⟨ws_4, rfl⟩ : ∃ z, z = u := ⟨_, rfl⟩
    have hT := hw_2
    have hP : va_P D vwCl ([(ov, .inl (ct 1, 1, .inr (.inl o))), (ty_XO x w sp sv bu bl le)] ++ ws_4) H := hP
    have hD : va_D A ([(ov, .inl (ct 1, 1, .inr (.inl o))), (ty_XO x w sp sv bu bl le)] ++ ws_4) := hD
    refine W.widen (k := 1) (n := 6) (Nat.le_of_ble_eq_true rfl) (Nat.le_of_ble_eq_true rfl) ?_
    refine lv_i2l hx hb dL_record_8 rfl ?_
    refine lv_topl (fun x_5 _ => ?_)
    refine va_last hx hb hK hP hD hS 0 1 rfl rfl (cm_vin (by decide)) dL_record_9 (fun H locs hP hD hS => ?_)
    have hP : va_P D vwCl ([(ov, .inl (ct 1, 1, .inr (.inl (vp_updL o (0 : Int32).toNatClampNeg x_5)))), (ty_XO x w sp sv bu bl le)] ++ ws_4) H := hP
    have hD : va_D A ([(ov, .inl (ct 1, 1, .inr (.inl (vp_updL o (0 : Int32).toNatClampNeg x_5)))), (ty_XO x w sp sv bu bl le)] ++ ws_4) := hD
    refine lv_goto (tgt := 17) hx hb dL_record_10 (by decide) ?_
    refine lv_iconst (v := 0) hx hb dL_record_17 (by decide) ?_
    have hP : va_P D vwCl ([(ty_XO x w sp sv bu bl le), (ov, .inl (ct 1, 1, .inr (.inl (vp_updL o (0 : Int32).toNatClampNeg x_5))))] ++ ws_4) H := ty_permP hP (ty_ordp (E := [(ov, .inl (ct 1, 1, .inr (.inl (vp_updL o (0 : Int32).toNatClampNeg x_5)))), (ty_XO x w sp sv bu bl le)]) (E2 := [(ty_XO x w sp sv bu bl le), (ov, .inl (ct 1, 1, .inr (.inl (vp_updL o (0 : Int32).toNatClampNeg x_5))))]) (n := 2) [1, 0] rfl rfl (by decide))
    have hD : va_D A ([(ty_XO x w sp sv bu bl le), (ov, .inl (ct 1, 1, .inr (.inl (vp_updL o (0 : Int32).toNatClampNeg x_5))))] ++ ws_4) := ty_permD hD (ty_ordp (E := [(ov, .inl (ct 1, 1, .inr (.inl (vp_updL o (0 : Int32).toNatClampNeg x_5)))), (ty_XO x w sp sv bu bl le)]) (E2 := [(ty_XO x w sp sv bu bl le), (ov, .inl (ct 1, 1, .inr (.inl (vp_updL o (0 : Int32).toNatClampNeg x_5))))]) (n := 2) [1, 0] rfl rfl (by decide))
    exact W.iret (v := 0) hx hb hr (fun t ht hW => ⟨⟨0, (ws_4, (vp_updL o (0 : Int32).toNatClampNeg x_5)), rfl, hT, by rw [ht]; exact hP, by rw [hAe]; exact hD⟩, hS.F ht⟩) hS.2.2 dL_record_18
theorem dL_counting_0 : decode cL_counting 0 = .ok (.aload_n 2, 1) := by decide +kernel
theorem dL_counting_1 : decode cL_counting 1 = .ok (.iconst 0, 1) := by decide +kernel
theorem dL_counting_2 : decode cL_counting 2 = .ok (.aload_n 0, 1) := by decide +kernel
theorem dL_counting_3 : decode cL_counting 3 = .ok (.iload_n 1, 1) := by decide +kernel
theorem dL_counting_4 : decode cL_counting 4 = .ok (.invokevirtual 124, 3) := by decide +kernel
theorem dL_counting_7 : decode cL_counting 7 = .ok (.i2l, 1) := by decide +kernel
theorem dL_counting_8 : decode cL_counting 8 = .ok (.lastore, 1) := by decide +kernel
theorem dL_counting_9 : decode cL_counting 9 = .ok (.goto 6, 3) := by decide +kernel
theorem dL_counting_12 : decode cL_counting 12 = .ok (.astore_n 3, 1) := by decide +kernel
theorem dL_counting_13 : decode cL_counting 13 = .ok (.iconst 1, 1) := by decide +kernel
theorem dL_counting_14 : decode cL_counting 14 = .ok (.ireturn, 1) := by decide +kernel
theorem dL_counting_15 : decode cL_counting 15 = .ok (.iconst 0, 1) := by decide +kernel
theorem dL_counting_16 : decode cL_counting 16 = .ok (.ireturn, 1) := by decide +kernel
set_option maxRecDepth 100000 in
set_option maxHeartbeats 4000000 in
theorem tl_counting (l : Launch) (hfl : l.stackTraces = false) (D : va_G) (ct : Nat → ClassId) (S : ty_S) (ws : va_W) (ph : va_W → Prop) (xx : Nat → Nat → Nat → Prop) (x : Nat) (w : Nat) (sp : Nat) (sv : Nat) (bu : Nat) (ns : Nat) (bl : Int32) (le : Int32) (p1 : Int32) (ov : Nat) (o : Nat → Int64) (sz : Nat) (hT : ty_V ct S ph ws) (h_w : S w = some (.inl 9)) (h_sp : S sp = some (.inl 9)) (h_sv : S sv = some (.inr (4, ns))) (hph : ty_C ph xx) (hy1 : ty_y1 xx) (hy11 : ty_y0 xx 11) : Met l yL_counting (wsw_ yL_counting cL_counting 4 (some .int) [(0, 9, 12, 32)]) ({ frames := 8, cells := 1, slots := 6, locals := 135 } : Room) (va_Pc [.ref x, .int p1, .ref ov] (cmPn D ct sz ([(ty_XO x w sp sv bu bl le), (ov, .inl (ct 1, 1, .inr (.inl o)))] ++ ws))) (va_Qi (fun (r : Int32) (u : va_W × (Nat → Int64)) => match u with | (u9, o1) => ty_V ct S ph u9) (cmB D ([(ty_XO x w sp sv bu bl le), (ov, .inl (ct 1, 1, .inr (.inl o)))] ++ ws) sz (fun (u : va_W × (Nat → Int64)) => match u with | (u9, o1) => ([(ty_XO x w sp sv bu bl le), (ov, .inl (ct 1, 1, .inr (.inl o1)))] ++ u9))) (va_A ([(ty_XO x w sp sv bu bl le), (ov, .inl (ct 1, 1, .inr (.inl o)))] ++ ws) sz)) 1 6 (va_A ([(ty_XO x w sp sv bu bl le), (ov, .inl (ct 1, 1, .inr (.inl o)))] ++ ws) sz) := by
  refine va_MetW (cc := cL_counting) (maxL := 4) (ret := (some .int)) (hh := [(0, 9, 12, 32)]) (by decide) rfl ?_
  intro p e s m args below meth c s₁ B hml hv
  have hts0 := atoms_spec (ws := wsw_ yL_counting cL_counting 4 (some .int) [(0, 9, 12, 32)]) B.pre
  have hts : ∀ w ∈ cm_all, w.before args s = true := fun w h => hts0 w (List.mem_cons_of_mem _ h)
  obtain ⟨rfl, ⟨hsz, hP, hK, hD0, hX⟩, hNc⟩ := hv
  have hx := B.exec
  have hb := B.bytes
  have hr := B.returns
  have htab := vx_table (x := yL_counting) B (hts0 _ List.mem_cons_self)
  have hown : s.vm.findClass RL = some m.cls := findClass_of_methodNamed B.named
  have hlocks := B.notSynchronized
  subst hsz
  have hD := hD0.self (sz := s.heap.size)
  generalize hAe : va_A ([(ty_XO x w sp sv bu bl le), (ov, .inl (ct 1, 1, .inr (.inl o)))] ++ ws) s.heap.size = A at hD hX ⊢
  have hA : ∀ q : Nat, s.heap.size ≤ q → A q := fun q h => by rw [← hAe]; exact Or.inr h
  have hS : va_S A s.heap s.heap [] := va_S.rf
  have hl := lv_entry ([.ref x, .int p1, .ref ov]) (n := 4) (Nat.le_of_ble_eq_true rfl)
  rw [lg_entry_eq]
  generalize (lg_sl ([.ref x, .int p1, .ref ov]) ++ List.replicate (4 - (lg_sl ([.ref x, .int p1, .ref ov])).length) Slot.unset).toArray = ls at hl ⊢
  have hl : lv_has ls 4 [(0, .ref x), (1, .int p1), (2, .ref ov)] := hl
  refine lv_aload_n hx hb dL_counting_0 rfl (lv_at hl 2 rfl) ?_
  refine lv_iconst (v := 0) hx hb dL_counting_1 (by decide) ?_
  refine lv_aload_n hx hb dL_counting_2 rfl (lv_at hl 0 rfl) ?_
  refine lv_iload_n hx hb dL_counting_3 rfl (lv_at hl 1 rfl) ?_
  have hP : va_P D vwCl ([(ov, .inl (ct 1, 1, .inr (.inl o))), (ty_XO x w sp sv bu bl le)] ++ ws) s.heap := ty_permP hP (ty_ordp (E := [(ty_XO x w sp sv bu bl le), (ov, .inl (ct 1, 1, .inr (.inl o)))]) (E2 := [(ov, .inl (ct 1, 1, .inr (.inl o))), (ty_XO x w sp sv bu bl le)]) (n := 2) [1, 0] rfl rfl (by decide))
  have hD : va_D A ([(ov, .inl (ct 1, 1, .inr (.inl o))), (ty_XO x w sp sv bu bl le)] ++ ws) := ty_permD hD (ty_ordp (E := [(ty_XO x w sp sv bu bl le), (ov, .inl (ct 1, 1, .inr (.inl o)))]) (E2 := [(ov, .inl (ct 1, 1, .inr (.inl o))), (ty_XO x w sp sv bu bl le)]) (n := 2) [1, 0] rfl rfl (by decide))
  refine ty_xi (wr := [(ov, .inl (ct 1, 1, .inr (.inl o)))]) (wc := ([(ty_XO x w sp sv bu bl le)] ++ ws)) (vx_runV (As := [.int p1]) (rest := [.int 0, .ref ov]) ⟨hx, hb, hml, hown, hts⟩ (t_X10_counting l hfl D ct S ws ph xx x w sp sv bu ns bl le p1 _ hT h_w h_sp h_sv hph hy1) (cm_V 1 hts kc_X10_counting ki_RX10 kl_RL_124 kv_X10_counting kx_X10_counting kd_X10_counting ⟨Nat.le_of_ble_eq_true rfl, Nat.le_of_ble_eq_true rfl⟩) (ty_preE (wr := [(ov, .inl (ct 1, 1, .inr (.inl o)))]) (wc := ([(ty_XO x w sp sv bu bl le)] ++ ws)) (ci := 10) (q0 := 1) hP hK hD hS hA hX rfl rfl) rfl rfl hl.1 rfl (lv_room (Nat.le_of_ble_eq_true rfl)) dL_counting_4 ⟨Nat.le_of_ble_eq_true rfl, Nat.le_of_ble_eq_true rfl⟩) hP hD hS hA (fun E ce q9 u H locs hu hE hP hD hS hce hcv hcl => ?_) (fun r_1 u H locs hw_2 hP hD hS => ?_)
  · obtain ⟨ws_3, rfl⟩ : ∃ z, z = u := ⟨_, rfl⟩
    have hT := hu
    have hP : va_P D vwCl ([(ov, .inl (ct 1, 1, .inr (.inl o))), (ty_XO x w sp sv bu bl le)] ++ ws_3) H := hP
    have hD : va_D A ([(ov, .inl (ct 1, 1, .inr (.inl o))), (ty_XO x w sp sv bu bl le)] ++ ws_3) := hD
    obtain rfl := List.mem_singleton.mp hE
    refine vx_catch (name := "java/lang/IndexOutOfBoundsException") hown [] _ _ htab (fun z hz => absurd hz List.not_mem_nil) (by decide) (by decide) (hts _ kl_RL_32) (hts _ kcast_IOE) hce hcv hcl ?_
    refine W.eq (g2 := F0 m 12 ls [.ref q9]) rfl ?_
    refine lv_astore_n (lv' := [(3, .ref q9), (0, .ref x), (1, .int p1), (2, .ref ov)]) hx hb dL_counting_12 rfl hl (by decide) rfl (fun ls hl => ?_)
    refine lv_iconst (v := 1) hx hb dL_counting_13 (by decide) ?_
    have hP : va_P D vwCl ([(ty_XO x w sp sv bu bl le), (ov, .inl (ct 1, 1, .inr (.inl o)))] ++ ws_3) H := ty_permP hP (ty_ordp (E := [(ov, .inl (ct 1, 1, .inr (.inl o))), (ty_XO x w sp sv bu bl le)]) (E2 := [(ty_XO x w sp sv bu bl le), (ov, .inl (ct 1, 1, .inr (.inl o)))]) (n := 2) [1, 0] rfl rfl (by decide))
    have hD : va_D A ([(ty_XO x w sp sv bu bl le), (ov, .inl (ct 1, 1, .inr (.inl o)))] ++ ws_3) := ty_permD hD (ty_ordp (E := [(ov, .inl (ct 1, 1, .inr (.inl o))), (ty_XO x w sp sv bu bl le)]) (E2 := [(ty_XO x w sp sv bu bl le), (ov, .inl (ct 1, 1, .inr (.inl o)))]) (n := 2) [1, 0] rfl rfl (by decide))
    exact W.iret (v := 1) hx hb hr (fun t ht hW => ⟨⟨1, (ws_3, o), rfl, hT, by rw [ht]; exact hP, by rw [hAe]; exact hD⟩, hS.F ht⟩) hS.2.2 dL_counting_14
  · obtain ⟨ws_4, rfl⟩ : ∃ z, z = u := ⟨_, rfl⟩
    have hT := hw_2
    have hP : va_P D vwCl ([(ov, .inl (ct 1, 1, .inr (.inl o))), (ty_XO x w sp sv bu bl le)] ++ ws_4) H := hP
    have hD : va_D A ([(ov, .inl (ct 1, 1, .inr (.inl o))), (ty_XO x w sp sv bu bl le)] ++ ws_4) := hD
    refine W.widen (k := 1) (n := 6) (Nat.le_of_ble_eq_true rfl) (Nat.le_of_ble_eq_true rfl) ?_
    refine lv_i2l hx hb dL_counting_7 rfl ?_
    refine lv_topl (fun x_5 _ => ?_)
    refine va_last hx hb hK hP hD hS 0 1 rfl rfl (cm_vin (by decide)) dL_counting_8 (fun H locs hP hD hS => ?_)
    have hP : va_P D vwCl ([(ov, .inl (ct 1, 1, .inr (.inl (vp_updL o (0 : Int32).toNatClampNeg x_5)))), (ty_XO x w sp sv bu bl le)] ++ ws_4) H := hP
    have hD : va_D A ([(ov, .inl (ct 1, 1, .inr (.inl (vp_updL o (0 : Int32).toNatClampNeg x_5)))), (ty_XO x w sp sv bu bl le)] ++ ws_4) := hD
    refine lv_goto (tgt := 15) hx hb dL_counting_9 (by decide) ?_
    refine lv_iconst (v := 0) hx hb dL_counting_15 (by decide) ?_
    have hP : va_P D vwCl ([(ty_XO x w sp sv bu bl le), (ov, .inl (ct 1, 1, .inr (.inl (vp_updL o (0 : Int32).toNatClampNeg x_5))))] ++ ws_4) H := ty_permP hP (ty_ordp (E := [(ov, .inl (ct 1, 1, .inr (.inl (vp_updL o (0 : Int32).toNatClampNeg x_5)))), (ty_XO x w sp sv bu bl le)]) (E2 := [(ty_XO x w sp sv bu bl le), (ov, .inl (ct 1, 1, .inr (.inl (vp_updL o (0 : Int32).toNatClampNeg x_5))))]) (n := 2) [1, 0] rfl rfl (by decide))
    have hD : va_D A ([(ty_XO x w sp sv bu bl le), (ov, .inl (ct 1, 1, .inr (.inl (vp_updL o (0 : Int32).toNatClampNeg x_5))))] ++ ws_4) := ty_permD hD (ty_ordp (E := [(ov, .inl (ct 1, 1, .inr (.inl (vp_updL o (0 : Int32).toNatClampNeg x_5)))), (ty_XO x w sp sv bu bl le)]) (E2 := [(ty_XO x w sp sv bu bl le), (ov, .inl (ct 1, 1, .inr (.inl (vp_updL o (0 : Int32).toNatClampNeg x_5))))]) (n := 2) [1, 0] rfl rfl (by decide))
    exact W.iret (v := 0) hx hb hr (fun t ht hW => ⟨⟨0, (ws_4, (vp_updL o (0 : Int32).toNatClampNeg x_5)), rfl, hT, by rw [ht]; exact hP, by rw [hAe]; exact hD⟩, hS.F ht⟩) hS.2.2 dL_counting_16
theorem dL_loss_0 : decode cL_loss 0 = .ok (.aload_n 2, 1) := by decide +kernel
theorem dL_loss_1 : decode cL_loss 1 = .ok (.iconst 0, 1) := by decide +kernel
theorem dL_loss_2 : decode cL_loss 2 = .ok (.aload_n 0, 1) := by decide +kernel
theorem dL_loss_3 : decode cL_loss 3 = .ok (.iload_n 1, 1) := by decide +kernel
theorem dL_loss_4 : decode cL_loss 4 = .ok (.invokevirtual 127, 3) := by decide +kernel
theorem dL_loss_7 : decode cL_loss 7 = .ok (.i2l, 1) := by decide +kernel
theorem dL_loss_8 : decode cL_loss 8 = .ok (.lastore, 1) := by decide +kernel
theorem dL_loss_9 : decode cL_loss 9 = .ok (.goto 6, 3) := by decide +kernel
theorem dL_loss_12 : decode cL_loss 12 = .ok (.astore_n 3, 1) := by decide +kernel
theorem dL_loss_13 : decode cL_loss 13 = .ok (.iconst 1, 1) := by decide +kernel
theorem dL_loss_14 : decode cL_loss 14 = .ok (.ireturn, 1) := by decide +kernel
theorem dL_loss_15 : decode cL_loss 15 = .ok (.iconst 0, 1) := by decide +kernel
theorem dL_loss_16 : decode cL_loss 16 = .ok (.ireturn, 1) := by decide +kernel
set_option maxRecDepth 100000 in
set_option maxHeartbeats 4000000 in
theorem tl_loss (l : Launch) (hfl : l.stackTraces = false) (D : va_G) (ct : Nat → ClassId) (S : ty_S) (ws : va_W) (ph : va_W → Prop) (xx : Nat → Nat → Nat → Prop) (x : Nat) (w : Nat) (sp : Nat) (sv : Nat) (bu : Nat) (ns : Nat) (bl : Int32) (le : Int32) (p1 : Int32) (ov : Nat) (o : Nat → Int64) (sz : Nat) (hT : ty_V ct S ph ws) (h_w : S w = some (.inl 9)) (h_sp : S sp = some (.inl 9)) (h_sv : S sv = some (.inr (4, ns))) (hph : ty_C ph xx) (hy1 : ty_y1 xx) (hy11 : ty_y0 xx 11) : Met l yL_loss (wsw_ yL_loss cL_loss 4 (some .int) [(0, 9, 12, 32)]) ({ frames := 8, cells := 1, slots := 6, locals := 136 } : Room) (va_Pc [.ref x, .int p1, .ref ov] (cmPn D ct sz ([(ty_XO x w sp sv bu bl le), (ov, .inl (ct 1, 1, .inr (.inl o)))] ++ ws))) (va_Qi (fun (r : Int32) (u : va_W × (Nat → Int64)) => match u with | (u9, o1) => ty_V ct S ph u9) (cmB D ([(ty_XO x w sp sv bu bl le), (ov, .inl (ct 1, 1, .inr (.inl o)))] ++ ws) sz (fun (u : va_W × (Nat → Int64)) => match u with | (u9, o1) => ([(ty_XO x w sp sv bu bl le), (ov, .inl (ct 1, 1, .inr (.inl o1)))] ++ u9))) (va_A ([(ty_XO x w sp sv bu bl le), (ov, .inl (ct 1, 1, .inr (.inl o)))] ++ ws) sz)) 1 6 (va_A ([(ty_XO x w sp sv bu bl le), (ov, .inl (ct 1, 1, .inr (.inl o)))] ++ ws) sz) := by
  refine va_MetW (cc := cL_loss) (maxL := 4) (ret := (some .int)) (hh := [(0, 9, 12, 32)]) (by decide) rfl ?_
  intro p e s m args below meth c s₁ B hml hv
  have hts0 := atoms_spec (ws := wsw_ yL_loss cL_loss 4 (some .int) [(0, 9, 12, 32)]) B.pre
  have hts : ∀ w ∈ cm_all, w.before args s = true := fun w h => hts0 w (List.mem_cons_of_mem _ h)
  obtain ⟨rfl, ⟨hsz, hP, hK, hD0, hX⟩, hNc⟩ := hv
  have hx := B.exec
  have hb := B.bytes
  have hr := B.returns
  have htab := vx_table (x := yL_loss) B (hts0 _ List.mem_cons_self)
  have hown : s.vm.findClass RL = some m.cls := findClass_of_methodNamed B.named
  have hlocks := B.notSynchronized
  subst hsz
  have hD := hD0.self (sz := s.heap.size)
  generalize hAe : va_A ([(ty_XO x w sp sv bu bl le), (ov, .inl (ct 1, 1, .inr (.inl o)))] ++ ws) s.heap.size = A at hD hX ⊢
  have hA : ∀ q : Nat, s.heap.size ≤ q → A q := fun q h => by rw [← hAe]; exact Or.inr h
  have hS : va_S A s.heap s.heap [] := va_S.rf
  have hl := lv_entry ([.ref x, .int p1, .ref ov]) (n := 4) (Nat.le_of_ble_eq_true rfl)
  rw [lg_entry_eq]
  generalize (lg_sl ([.ref x, .int p1, .ref ov]) ++ List.replicate (4 - (lg_sl ([.ref x, .int p1, .ref ov])).length) Slot.unset).toArray = ls at hl ⊢
  have hl : lv_has ls 4 [(0, .ref x), (1, .int p1), (2, .ref ov)] := hl
  refine lv_aload_n hx hb dL_loss_0 rfl (lv_at hl 2 rfl) ?_
  refine lv_iconst (v := 0) hx hb dL_loss_1 (by decide) ?_
  refine lv_aload_n hx hb dL_loss_2 rfl (lv_at hl 0 rfl) ?_
  refine lv_iload_n hx hb dL_loss_3 rfl (lv_at hl 1 rfl) ?_
  have hP : va_P D vwCl ([(ov, .inl (ct 1, 1, .inr (.inl o))), (ty_XO x w sp sv bu bl le)] ++ ws) s.heap := ty_permP hP (ty_ordp (E := [(ty_XO x w sp sv bu bl le), (ov, .inl (ct 1, 1, .inr (.inl o)))]) (E2 := [(ov, .inl (ct 1, 1, .inr (.inl o))), (ty_XO x w sp sv bu bl le)]) (n := 2) [1, 0] rfl rfl (by decide))
  have hD : va_D A ([(ov, .inl (ct 1, 1, .inr (.inl o))), (ty_XO x w sp sv bu bl le)] ++ ws) := ty_permD hD (ty_ordp (E := [(ty_XO x w sp sv bu bl le), (ov, .inl (ct 1, 1, .inr (.inl o)))]) (E2 := [(ov, .inl (ct 1, 1, .inr (.inl o))), (ty_XO x w sp sv bu bl le)]) (n := 2) [1, 0] rfl rfl (by decide))
  refine ty_xi (wr := [(ov, .inl (ct 1, 1, .inr (.inl o)))]) (wc := ([(ty_XO x w sp sv bu bl le)] ++ ws)) (vx_runV (As := [.int p1]) (rest := [.int 0, .ref ov]) ⟨hx, hb, hml, hown, hts⟩ (t_X10_loss l hfl D ct S ws ph xx x w sp sv bu ns bl le p1 _ hT h_w h_sp h_sv hph hy1) (cm_V 1 hts kc_X10_loss ki_RX10 kl_RL_127 kv_X10_loss kx_X10_loss kd_X10_loss ⟨Nat.le_of_ble_eq_true rfl, Nat.le_of_ble_eq_true rfl⟩) (ty_preE (wr := [(ov, .inl (ct 1, 1, .inr (.inl o)))]) (wc := ([(ty_XO x w sp sv bu bl le)] ++ ws)) (ci := 10) (q0 := 1) hP hK hD hS hA hX rfl rfl) rfl rfl hl.1 rfl (lv_room (Nat.le_of_ble_eq_true rfl)) dL_loss_4 ⟨Nat.le_of_ble_eq_true rfl, Nat.le_of_ble_eq_true rfl⟩) hP hD hS hA (fun E ce q9 u H locs hu hE hP hD hS hce hcv hcl => ?_) (fun r_1 u H locs hw_2 hP hD hS => ?_)
  · obtain ⟨ws_3, rfl⟩ : ∃ z, z = u := ⟨_, rfl⟩
    have hT := hu
    have hP : va_P D vwCl ([(ov, .inl (ct 1, 1, .inr (.inl o))), (ty_XO x w sp sv bu bl le)] ++ ws_3) H := hP
    have hD : va_D A ([(ov, .inl (ct 1, 1, .inr (.inl o))), (ty_XO x w sp sv bu bl le)] ++ ws_3) := hD
    obtain rfl := List.mem_singleton.mp hE
    refine vx_catch (name := "java/lang/IndexOutOfBoundsException") hown [] _ _ htab (fun z hz => absurd hz List.not_mem_nil) (by decide) (by decide) (hts _ kl_RL_32) (hts _ kcast_IOE) hce hcv hcl ?_
    refine W.eq (g2 := F0 m 12 ls [.ref q9]) rfl ?_
    refine lv_astore_n (lv' := [(3, .ref q9), (0, .ref x), (1, .int p1), (2, .ref ov)]) hx hb dL_loss_12 rfl hl (by decide) rfl (fun ls hl => ?_)
    refine lv_iconst (v := 1) hx hb dL_loss_13 (by decide) ?_
    have hP : va_P D vwCl ([(ty_XO x w sp sv bu bl le), (ov, .inl (ct 1, 1, .inr (.inl o)))] ++ ws_3) H := ty_permP hP (ty_ordp (E := [(ov, .inl (ct 1, 1, .inr (.inl o))), (ty_XO x w sp sv bu bl le)]) (E2 := [(ty_XO x w sp sv bu bl le), (ov, .inl (ct 1, 1, .inr (.inl o)))]) (n := 2) [1, 0] rfl rfl (by decide))
    have hD : va_D A ([(ty_XO x w sp sv bu bl le), (ov, .inl (ct 1, 1, .inr (.inl o)))] ++ ws_3) := ty_permD hD (ty_ordp (E := [(ov, .inl (ct 1, 1, .inr (.inl o))), (ty_XO x w sp sv bu bl le)]) (E2 := [(ty_XO x w sp sv bu bl le), (ov, .inl (ct 1, 1, .inr (.inl o)))]) (n := 2) [1, 0] rfl rfl (by decide))
    exact W.iret (v := 1) hx hb hr (fun t ht hW => ⟨⟨1, (ws_3, o), rfl, hT, by rw [ht]; exact hP, by rw [hAe]; exact hD⟩, hS.F ht⟩) hS.2.2 dL_loss_14
  · obtain ⟨ws_4, rfl⟩ : ∃ z, z = u := ⟨_, rfl⟩
    have hT := hw_2
    have hP : va_P D vwCl ([(ov, .inl (ct 1, 1, .inr (.inl o))), (ty_XO x w sp sv bu bl le)] ++ ws_4) H := hP
    have hD : va_D A ([(ov, .inl (ct 1, 1, .inr (.inl o))), (ty_XO x w sp sv bu bl le)] ++ ws_4) := hD
    refine W.widen (k := 1) (n := 6) (Nat.le_of_ble_eq_true rfl) (Nat.le_of_ble_eq_true rfl) ?_
    refine lv_i2l hx hb dL_loss_7 rfl ?_
    refine lv_topl (fun x_5 _ => ?_)
    refine va_last hx hb hK hP hD hS 0 1 rfl rfl (cm_vin (by decide)) dL_loss_8 (fun H locs hP hD hS => ?_)
    have hP : va_P D vwCl ([(ov, .inl (ct 1, 1, .inr (.inl (vp_updL o (0 : Int32).toNatClampNeg x_5)))), (ty_XO x w sp sv bu bl le)] ++ ws_4) H := hP
    have hD : va_D A ([(ov, .inl (ct 1, 1, .inr (.inl (vp_updL o (0 : Int32).toNatClampNeg x_5)))), (ty_XO x w sp sv bu bl le)] ++ ws_4) := hD
    refine lv_goto (tgt := 15) hx hb dL_loss_9 (by decide) ?_
    refine lv_iconst (v := 0) hx hb dL_loss_15 (by decide) ?_
    have hP : va_P D vwCl ([(ty_XO x w sp sv bu bl le), (ov, .inl (ct 1, 1, .inr (.inl (vp_updL o (0 : Int32).toNatClampNeg x_5))))] ++ ws_4) H := ty_permP hP (ty_ordp (E := [(ov, .inl (ct 1, 1, .inr (.inl (vp_updL o (0 : Int32).toNatClampNeg x_5)))), (ty_XO x w sp sv bu bl le)]) (E2 := [(ty_XO x w sp sv bu bl le), (ov, .inl (ct 1, 1, .inr (.inl (vp_updL o (0 : Int32).toNatClampNeg x_5))))]) (n := 2) [1, 0] rfl rfl (by decide))
    have hD : va_D A ([(ty_XO x w sp sv bu bl le), (ov, .inl (ct 1, 1, .inr (.inl (vp_updL o (0 : Int32).toNatClampNeg x_5))))] ++ ws_4) := ty_permD hD (ty_ordp (E := [(ov, .inl (ct 1, 1, .inr (.inl (vp_updL o (0 : Int32).toNatClampNeg x_5)))), (ty_XO x w sp sv bu bl le)]) (E2 := [(ty_XO x w sp sv bu bl le), (ov, .inl (ct 1, 1, .inr (.inl (vp_updL o (0 : Int32).toNatClampNeg x_5))))]) (n := 2) [1, 0] rfl rfl (by decide))
    exact W.iret (v := 0) hx hb hr (fun t ht hW => ⟨⟨0, (ws_4, (vp_updL o (0 : Int32).toNatClampNeg x_5)), rfl, hT, by rw [ht]; exact hP, by rw [hAe]; exact hD⟩, hS.F ht⟩) hS.2.2 dL_loss_16
theorem dL_logEntry_0 : decode cL_logEntry 0 = .ok (.aload_n 3, 1) := by decide +kernel
theorem dL_logEntry_1 : decode cL_logEntry 1 = .ok (.iconst 0, 1) := by decide +kernel
theorem dL_logEntry_2 : decode cL_logEntry 2 = .ok (.aload_n 0, 1) := by decide +kernel
theorem dL_logEntry_3 : decode cL_logEntry 3 = .ok (.iload_n 1, 1) := by decide +kernel
theorem dL_logEntry_4 : decode cL_logEntry 4 = .ok (.iload_n 2, 1) := by decide +kernel
theorem dL_logEntry_5 : decode cL_logEntry 5 = .ok (.invokevirtual 130, 3) := by decide +kernel
theorem dL_logEntry_8 : decode cL_logEntry 8 = .ok (.i2l, 1) := by decide +kernel
theorem dL_logEntry_9 : decode cL_logEntry 9 = .ok (.lastore, 1) := by decide +kernel
theorem dL_logEntry_10 : decode cL_logEntry 10 = .ok (.goto 7, 3) := by decide +kernel
theorem dL_logEntry_13 : decode cL_logEntry 13 = .ok (.astore 4, 2) := by decide +kernel
theorem dL_logEntry_15 : decode cL_logEntry 15 = .ok (.iconst 1, 1) := by decide +kernel
theorem dL_logEntry_16 : decode cL_logEntry 16 = .ok (.ireturn, 1) := by decide +kernel
theorem dL_logEntry_17 : decode cL_logEntry 17 = .ok (.iconst 0, 1) := by decide +kernel
theorem dL_logEntry_18 : decode cL_logEntry 18 = .ok (.ireturn, 1) := by decide +kernel
set_option maxRecDepth 100000 in
set_option maxHeartbeats 4000000 in
theorem tl_logEntry (l : Launch) (hfl : l.stackTraces = false) (D : va_G) (ct : Nat → ClassId) (S : ty_S) (ws : va_W) (ph : va_W → Prop) (xx : Nat → Nat → Nat → Prop) (x : Nat) (w : Nat) (sp : Nat) (sv : Nat) (bu : Nat) (ns : Nat) (bl : Int32) (le : Int32) (p1 : Int32) (p2 : Int32) (ov : Nat) (o : Nat → Int64) (sz : Nat) (hT : ty_V ct S ph ws) (h_w : S w = some (.inl 9)) (h_sp : S sp = some (.inl 9)) (h_sv : S sv = some (.inr (4, ns))) (hph : ty_C ph xx) (hy1 : ty_y1 xx) (hy11 : ty_y0 xx 11) : Met l yL_logEntry (wsw_ yL_logEntry cL_logEntry 5 (some .int) [(0, 10, 13, 13)]) ({ frames := 8, cells := 1, slots := 6, locals := 134 } : Room) (va_Pc [.ref x, .int p1, .int p2, .ref ov] (cmPn D ct sz ([(ty_XO x w sp sv bu bl le), (ov, .inl (ct 1, 1, .inr (.inl o)))] ++ ws))) (va_Qi (fun (r : Int32) (u : va_W × (Nat → Int64)) => match u with | (u9, o1) => ty_V ct S ph u9) (cmB D ([(ty_XO x w sp sv bu bl le), (ov, .inl (ct 1, 1, .inr (.inl o)))] ++ ws) sz (fun (u : va_W × (Nat → Int64)) => match u with | (u9, o1) => ([(ty_XO x w sp sv bu bl le), (ov, .inl (ct 1, 1, .inr (.inl o1)))] ++ u9))) (va_A ([(ty_XO x w sp sv bu bl le), (ov, .inl (ct 1, 1, .inr (.inl o)))] ++ ws) sz)) 1 6 (va_A ([(ty_XO x w sp sv bu bl le), (ov, .inl (ct 1, 1, .inr (.inl o)))] ++ ws) sz) := by
  refine va_MetW (cc := cL_logEntry) (maxL := 5) (ret := (some .int)) (hh := [(0, 10, 13, 13)]) (by decide) rfl ?_
  intro p e s m args below meth c s₁ B hml hv
  have hts0 := atoms_spec (ws := wsw_ yL_logEntry cL_logEntry 5 (some .int) [(0, 10, 13, 13)]) B.pre
  have hts : ∀ w ∈ cm_all, w.before args s = true := fun w h => hts0 w (List.mem_cons_of_mem _ h)
  obtain ⟨rfl, ⟨hsz, hP, hK, hD0, hX⟩, hNc⟩ := hv
  have hx := B.exec
  have hb := B.bytes
  have hr := B.returns
  have htab := vx_table (x := yL_logEntry) B (hts0 _ List.mem_cons_self)
  have hown : s.vm.findClass RL = some m.cls := findClass_of_methodNamed B.named
  have hlocks := B.notSynchronized
  subst hsz
  have hD := hD0.self (sz := s.heap.size)
  generalize hAe : va_A ([(ty_XO x w sp sv bu bl le), (ov, .inl (ct 1, 1, .inr (.inl o)))] ++ ws) s.heap.size = A at hD hX ⊢
  have hA : ∀ q : Nat, s.heap.size ≤ q → A q := fun q h => by rw [← hAe]; exact Or.inr h
  have hS : va_S A s.heap s.heap [] := va_S.rf
  have hl := lv_entry ([.ref x, .int p1, .int p2, .ref ov]) (n := 5) (Nat.le_of_ble_eq_true rfl)
  rw [lg_entry_eq]
  generalize (lg_sl ([.ref x, .int p1, .int p2, .ref ov]) ++ List.replicate (5 - (lg_sl ([.ref x, .int p1, .int p2, .ref ov])).length) Slot.unset).toArray = ls at hl ⊢
  have hl : lv_has ls 5 [(0, .ref x), (1, .int p1), (2, .int p2), (3, .ref ov)] := hl
  refine lv_aload_n hx hb dL_logEntry_0 rfl (lv_at hl 3 rfl) ?_
  refine lv_iconst (v := 0) hx hb dL_logEntry_1 (by decide) ?_
  refine lv_aload_n hx hb dL_logEntry_2 rfl (lv_at hl 0 rfl) ?_
  refine lv_iload_n hx hb dL_logEntry_3 rfl (lv_at hl 1 rfl) ?_
  refine lv_iload_n hx hb dL_logEntry_4 rfl (lv_at hl 2 rfl) ?_
  have hP : va_P D vwCl ([(ov, .inl (ct 1, 1, .inr (.inl o))), (ty_XO x w sp sv bu bl le)] ++ ws) s.heap := ty_permP hP (ty_ordp (E := [(ty_XO x w sp sv bu bl le), (ov, .inl (ct 1, 1, .inr (.inl o)))]) (E2 := [(ov, .inl (ct 1, 1, .inr (.inl o))), (ty_XO x w sp sv bu bl le)]) (n := 2) [1, 0] rfl rfl (by decide))
  have hD : va_D A ([(ov, .inl (ct 1, 1, .inr (.inl o))), (ty_XO x w sp sv bu bl le)] ++ ws) := ty_permD hD (ty_ordp (E := [(ty_XO x w sp sv bu bl le), (ov, .inl (ct 1, 1, .inr (.inl o)))]) (E2 := [(ov, .inl (ct 1, 1, .inr (.inl o))), (ty_XO x w sp sv bu bl le)]) (n := 2) [1, 0] rfl rfl (by decide))
  refine ty_xi (wr := [(ov, .inl (ct 1, 1, .inr (.inl o)))]) (wc := ([(ty_XO x w sp sv bu bl le)] ++ ws)) (vx_runV (As := [.int p1, .int p2]) (rest := [.int 0, .ref ov]) ⟨hx, hb, hml, hown, hts⟩ (t_X10_logEntry l hfl D ct S ws ph xx x w sp sv bu ns bl le p1 p2 _ hT h_w h_sp h_sv hph hy1) (cm_V 2 hts kc_X10_logEntry ki_RX10 kl_RL_130 kv_X10_logEntry kx_X10_logEntry kd_X10_logEntry ⟨Nat.le_of_ble_eq_true rfl, Nat.le_of_ble_eq_true rfl⟩) (ty_preE (wr := [(ov, .inl (ct 1, 1, .inr (.inl o)))]) (wc := ([(ty_XO x w sp sv bu bl le)] ++ ws)) (ci := 10) (q0 := 1) hP hK hD hS hA hX rfl rfl) rfl rfl hl.1 rfl (lv_room (Nat.le_of_ble_eq_true rfl)) dL_logEntry_5 ⟨Nat.le_of_ble_eq_true rfl, Nat.le_of_ble_eq_true rfl⟩) hP hD hS hA (fun E ce q9 u H locs hu hE hP hD hS hce hcv hcl => ?_) (fun r_1 u H locs hw_2 hP hD hS => ?_)
  · obtain ⟨ws_3, rfl⟩ : ∃ z, z = u := ⟨_, rfl⟩
    have hT := hu
    have hP : va_P D vwCl ([(ov, .inl (ct 1, 1, .inr (.inl o))), (ty_XO x w sp sv bu bl le)] ++ ws_3) H := hP
    have hD : va_D A ([(ov, .inl (ct 1, 1, .inr (.inl o))), (ty_XO x w sp sv bu bl le)] ++ ws_3) := hD
    obtain rfl := List.mem_singleton.mp hE
    refine vx_catch (name := "java/lang/IllegalArgumentException") hown [] _ _ htab (fun z hz => absurd hz List.not_mem_nil) (by decide) (by decide) (hts _ kl_RL_13) (hts _ kcast_IAE) hce hcv hcl ?_
    refine W.eq (g2 := F0 m 13 ls [.ref q9]) rfl ?_
    refine lv_astore (lv' := [(4, .ref q9), (0, .ref x), (1, .int p1), (2, .int p2), (3, .ref ov)]) hx hb dL_logEntry_13 hl (by decide) rfl (fun ls hl => ?_)
    refine lv_iconst (v := 1) hx hb dL_logEntry_15 (by decide) ?_
    have hP : va_P D vwCl ([(ty_XO x w sp sv bu bl le), (ov, .inl (ct 1, 1, .inr (.inl o)))] ++ ws_3) H := ty_permP hP (ty_ordp (E := [(ov, .inl (ct 1, 1, .inr (.inl o))), (ty_XO x w sp sv bu bl le)]) (E2 := [(ty_XO x w sp sv bu bl le), (ov, .inl (ct 1, 1, .inr (.inl o)))]) (n := 2) [1, 0] rfl rfl (by decide))
    have hD : va_D A ([(ty_XO x w sp sv bu bl le), (ov, .inl (ct 1, 1, .inr (.inl o)))] ++ ws_3) := ty_permD hD (ty_ordp (E := [(ov, .inl (ct 1, 1, .inr (.inl o))), (ty_XO x w sp sv bu bl le)]) (E2 := [(ty_XO x w sp sv bu bl le), (ov, .inl (ct 1, 1, .inr (.inl o)))]) (n := 2) [1, 0] rfl rfl (by decide))
    exact W.iret (v := 1) hx hb hr (fun t ht hW => ⟨⟨1, (ws_3, o), rfl, hT, by rw [ht]; exact hP, by rw [hAe]; exact hD⟩, hS.F ht⟩) hS.2.2 dL_logEntry_16
  · obtain ⟨ws_4, rfl⟩ : ∃ z, z = u := ⟨_, rfl⟩
    have hT := hw_2
    have hP : va_P D vwCl ([(ov, .inl (ct 1, 1, .inr (.inl o))), (ty_XO x w sp sv bu bl le)] ++ ws_4) H := hP
    have hD : va_D A ([(ov, .inl (ct 1, 1, .inr (.inl o))), (ty_XO x w sp sv bu bl le)] ++ ws_4) := hD
    refine W.widen (k := 1) (n := 6) (Nat.le_of_ble_eq_true rfl) (Nat.le_of_ble_eq_true rfl) ?_
    refine lv_i2l hx hb dL_logEntry_8 rfl ?_
    refine lv_topl (fun x_5 _ => ?_)
    refine va_last hx hb hK hP hD hS 0 1 rfl rfl (cm_vin (by decide)) dL_logEntry_9 (fun H locs hP hD hS => ?_)
    have hP : va_P D vwCl ([(ov, .inl (ct 1, 1, .inr (.inl (vp_updL o (0 : Int32).toNatClampNeg x_5)))), (ty_XO x w sp sv bu bl le)] ++ ws_4) H := hP
    have hD : va_D A ([(ov, .inl (ct 1, 1, .inr (.inl (vp_updL o (0 : Int32).toNatClampNeg x_5)))), (ty_XO x w sp sv bu bl le)] ++ ws_4) := hD
    refine lv_goto (tgt := 17) hx hb dL_logEntry_10 (by decide) ?_
    refine lv_iconst (v := 0) hx hb dL_logEntry_17 (by decide) ?_
    have hP : va_P D vwCl ([(ty_XO x w sp sv bu bl le), (ov, .inl (ct 1, 1, .inr (.inl (vp_updL o (0 : Int32).toNatClampNeg x_5))))] ++ ws_4) H := ty_permP hP (ty_ordp (E := [(ov, .inl (ct 1, 1, .inr (.inl (vp_updL o (0 : Int32).toNatClampNeg x_5)))), (ty_XO x w sp sv bu bl le)]) (E2 := [(ty_XO x w sp sv bu bl le), (ov, .inl (ct 1, 1, .inr (.inl (vp_updL o (0 : Int32).toNatClampNeg x_5))))]) (n := 2) [1, 0] rfl rfl (by decide))
    have hD : va_D A ([(ty_XO x w sp sv bu bl le), (ov, .inl (ct 1, 1, .inr (.inl (vp_updL o (0 : Int32).toNatClampNeg x_5))))] ++ ws_4) := ty_permD hD (ty_ordp (E := [(ov, .inl (ct 1, 1, .inr (.inl (vp_updL o (0 : Int32).toNatClampNeg x_5)))), (ty_XO x w sp sv bu bl le)]) (E2 := [(ty_XO x w sp sv bu bl le), (ov, .inl (ct 1, 1, .inr (.inl (vp_updL o (0 : Int32).toNatClampNeg x_5))))]) (n := 2) [1, 0] rfl rfl (by decide))
    exact W.iret (v := 0) hx hb hr (fun t ht hW => ⟨⟨0, (ws_4, (vp_updL o (0 : Int32).toNatClampNeg x_5)), rfl, hT, by rw [ht]; exact hP, by rw [hAe]; exact hD⟩, hS.F ht⟩) hS.2.2 dL_logEntry_18
theorem dL_eventsOf_0 : decode cL_eventsOf 0 = .ok (.aload_n 3, 1) := by decide +kernel
theorem dL_eventsOf_1 : decode cL_eventsOf 1 = .ok (.iconst 0, 1) := by decide +kernel
theorem dL_eventsOf_2 : decode cL_eventsOf 2 = .ok (.aload_n 0, 1) := by decide +kernel
theorem dL_eventsOf_3 : decode cL_eventsOf 3 = .ok (.iload_n 1, 1) := by decide +kernel
theorem dL_eventsOf_4 : decode cL_eventsOf 4 = .ok (.iload_n 2, 1) := by decide +kernel
theorem dL_eventsOf_5 : decode cL_eventsOf 5 = .ok (.invokevirtual 133, 3) := by decide +kernel
theorem dL_eventsOf_8 : decode cL_eventsOf 8 = .ok (.i2l, 1) := by decide +kernel
theorem dL_eventsOf_9 : decode cL_eventsOf 9 = .ok (.lastore, 1) := by decide +kernel
theorem dL_eventsOf_10 : decode cL_eventsOf 10 = .ok (.goto 11, 3) := by decide +kernel
theorem dL_eventsOf_13 : decode cL_eventsOf 13 = .ok (.astore 4, 2) := by decide +kernel
theorem dL_eventsOf_15 : decode cL_eventsOf 15 = .ok (.iconst 1, 1) := by decide +kernel
theorem dL_eventsOf_16 : decode cL_eventsOf 16 = .ok (.ireturn, 1) := by decide +kernel
theorem dL_eventsOf_17 : decode cL_eventsOf 17 = .ok (.astore 4, 2) := by decide +kernel
theorem dL_eventsOf_19 : decode cL_eventsOf 19 = .ok (.iconst 2, 1) := by decide +kernel
theorem dL_eventsOf_20 : decode cL_eventsOf 20 = .ok (.ireturn, 1) := by decide +kernel
theorem dL_eventsOf_21 : decode cL_eventsOf 21 = .ok (.iconst 0, 1) := by decide +kernel
theorem dL_eventsOf_22 : decode cL_eventsOf 22 = .ok (.ireturn, 1) := by decide +kernel
set_option maxRecDepth 100000 in
set_option maxHeartbeats 4000000 in
theorem tl_eventsOf (l : Launch) (hfl : l.stackTraces = false) (D : va_G) (ct : Nat → ClassId) (S : ty_S) (ws : va_W) (ph : va_W → Prop) (xx : Nat → Nat → Nat → Prop) (x : Nat) (w : Nat) (sp : Nat) (sv : Nat) (bu : Nat) (ns : Nat) (bl : Int32) (le : Int32) (p1 : Int32) (p2 : Int32) (ov : Nat) (o : Nat → Int64) (sz : Nat) (hT : ty_V ct S ph ws) (h_w : S w = some (.inl 9)) (h_sp : S sp = some (.inl 9)) (h_sv : S sv = some (.inr (4, ns))) (hph : ty_C ph xx) (hy1 : ty_y1 xx) (hy11 : ty_y0 xx 11) : Met l yL_eventsOf (wsw_ yL_eventsOf cL_eventsOf 5 (some .int) [(0, 10, 13, 32), (0, 10, 17, 13)]) ({ frames := 8, cells := 2, slots := 12, locals := 136 } : Room) (va_Pc [.ref x, .int p1, .int p2, .ref ov] (cmPn D ct sz ([(ty_XO x w sp sv bu bl le), (ov, .inl (ct 1, 1, .inr (.inl o)))] ++ ws))) (va_Qi (fun (r : Int32) (u : va_W × (Nat → Int64)) => match u with | (u9, o1) => ty_V ct S ph u9) (cmB D ([(ty_XO x w sp sv bu bl le), (ov, .inl (ct 1, 1, .inr (.inl o)))] ++ ws) sz (fun (u : va_W × (Nat → Int64)) => match u with | (u9, o1) => ([(ty_XO x w sp sv bu bl le), (ov, .inl (ct 1, 1, .inr (.inl o1)))] ++ u9))) (va_A ([(ty_XO x w sp sv bu bl le), (ov, .inl (ct 1, 1, .inr (.inl o)))] ++ ws) sz)) 2 12 (va_A ([(ty_XO x w sp sv bu bl le), (ov, .inl (ct 1, 1, .inr (.inl o)))] ++ ws) sz) := by
  refine va_MetW (cc := cL_eventsOf) (maxL := 5) (ret := (some .int)) (hh := [(0, 10, 13, 32), (0, 10, 17, 13)]) (by decide) rfl ?_
  intro p e s m args below meth c s₁ B hml hv
  have hts0 := atoms_spec (ws := wsw_ yL_eventsOf cL_eventsOf 5 (some .int) [(0, 10, 13, 32), (0, 10, 17, 13)]) B.pre
  have hts : ∀ w ∈ cm_all, w.before args s = true := fun w h => hts0 w (List.mem_cons_of_mem _ h)
  obtain ⟨rfl, ⟨hsz, hP, hK, hD0, hX⟩, hNc⟩ := hv
  have hx := B.exec
  have hb := B.bytes
  have hr := B.returns
  have htab := vx_table (x := yL_eventsOf) B (hts0 _ List.mem_cons_self)
  have hown : s.vm.findClass RL = some m.cls := findClass_of_methodNamed B.named
  have hlocks := B.notSynchronized
  subst hsz
  have hD := hD0.self (sz := s.heap.size)
  generalize hAe : va_A ([(ty_XO x w sp sv bu bl le), (ov, .inl (ct 1, 1, .inr (.inl o)))] ++ ws) s.heap.size = A at hD hX ⊢
  have hA : ∀ q : Nat, s.heap.size ≤ q → A q := fun q h => by rw [← hAe]; exact Or.inr h
  have hS : va_S A s.heap s.heap [] := va_S.rf
  have hl := lv_entry ([.ref x, .int p1, .int p2, .ref ov]) (n := 5) (Nat.le_of_ble_eq_true rfl)
  rw [lg_entry_eq]
  generalize (lg_sl ([.ref x, .int p1, .int p2, .ref ov]) ++ List.replicate (5 - (lg_sl ([.ref x, .int p1, .int p2, .ref ov])).length) Slot.unset).toArray = ls at hl ⊢
  have hl : lv_has ls 5 [(0, .ref x), (1, .int p1), (2, .int p2), (3, .ref ov)] := hl
  refine lv_aload_n hx hb dL_eventsOf_0 rfl (lv_at hl 3 rfl) ?_
  refine lv_iconst (v := 0) hx hb dL_eventsOf_1 (by decide) ?_
  refine lv_aload_n hx hb dL_eventsOf_2 rfl (lv_at hl 0 rfl) ?_
  refine lv_iload_n hx hb dL_eventsOf_3 rfl (lv_at hl 1 rfl) ?_
  refine lv_iload_n hx hb dL_eventsOf_4 rfl (lv_at hl 2 rfl) ?_
  have hP : va_P D vwCl ([(ov, .inl (ct 1, 1, .inr (.inl o))), (ty_XO x w sp sv bu bl le)] ++ ws) s.heap := ty_permP hP (ty_ordp (E := [(ty_XO x w sp sv bu bl le), (ov, .inl (ct 1, 1, .inr (.inl o)))]) (E2 := [(ov, .inl (ct 1, 1, .inr (.inl o))), (ty_XO x w sp sv bu bl le)]) (n := 2) [1, 0] rfl rfl (by decide))
  have hD : va_D A ([(ov, .inl (ct 1, 1, .inr (.inl o))), (ty_XO x w sp sv bu bl le)] ++ ws) := ty_permD hD (ty_ordp (E := [(ty_XO x w sp sv bu bl le), (ov, .inl (ct 1, 1, .inr (.inl o)))]) (E2 := [(ov, .inl (ct 1, 1, .inr (.inl o))), (ty_XO x w sp sv bu bl le)]) (n := 2) [1, 0] rfl rfl (by decide))
  refine ty_xi (wr := [(ov, .inl (ct 1, 1, .inr (.inl o)))]) (wc := ([(ty_XO x w sp sv bu bl le)] ++ ws)) (vx_runV (As := [.int p1, .int p2]) (rest := [.int 0, .ref ov]) ⟨hx, hb, hml, hown, hts⟩ (t_X10_eventsOf l hfl D ct S ws ph xx x w sp sv bu ns bl le p1 p2 _ hT h_w h_sp h_sv hph hy1) (cm_V 2 hts kc_X10_eventsOf ki_RX10 kl_RL_133 kv_X10_eventsOf kx_X10_eventsOf kd_X10_eventsOf ⟨Nat.le_of_ble_eq_true rfl, Nat.le_of_ble_eq_true rfl⟩) (ty_preE (wr := [(ov, .inl (ct 1, 1, .inr (.inl o)))]) (wc := ([(ty_XO x w sp sv bu bl le)] ++ ws)) (ci := 10) (q0 := 1) hP hK hD hS hA hX rfl rfl) rfl rfl hl.1 rfl (lv_room (Nat.le_of_ble_eq_true rfl)) dL_eventsOf_5 ⟨Nat.le_of_ble_eq_true rfl, Nat.le_of_ble_eq_true rfl⟩) hP hD hS hA (fun E ce q9 u H locs hu hE hP hD hS hce hcv hcl => ?_) (fun r_1 u H locs hw_2 hP hD hS => ?_)
  · obtain ⟨ws_3, rfl⟩ : ∃ z, z = u := ⟨_, rfl⟩
    have hT := hu
    have hP : va_P D vwCl ([(ov, .inl (ct 1, 1, .inr (.inl o))), (ty_XO x w sp sv bu bl le)] ++ ws_3) H := hP
    have hD : va_D A ([(ov, .inl (ct 1, 1, .inr (.inl o))), (ty_XO x w sp sv bu bl le)] ++ ws_3) := hD
    rcases List.mem_cons.mp hE with rfl | hE
    · refine vx_catch (name := "java/lang/IllegalArgumentException") hown [_] _ _ htab (fun z hz => by obtain rfl := List.mem_singleton.mp hz; exact Or.inr ⟨by decide, _, hts _ kl_RL_32, hNc⟩) (by decide) (by decide) (hts _ kl_RL_13) (hts _ kcast_IAE) hce hcv hcl ?_
      refine W.eq (g2 := F0 m 17 ls [.ref q9]) rfl ?_
      refine lv_astore (lv' := [(4, .ref q9), (0, .ref x), (1, .int p1), (2, .int p2), (3, .ref ov)]) hx hb dL_eventsOf_17 hl (by decide) rfl (fun ls hl => ?_)
      refine lv_iconst (v := 2) hx hb dL_eventsOf_19 (by decide) ?_
      have hP : va_P D vwCl ([(ty_XO x w sp sv bu bl le), (ov, .inl (ct 1, 1, .inr (.inl o)))] ++ ws_3) H := ty_permP hP (ty_ordp (E := [(ov, .inl (ct 1, 1, .inr (.inl o))), (ty_XO x w sp sv bu bl le)]) (E2 := [(ty_XO x w sp sv bu bl le), (ov, .inl (ct 1, 1, .inr (.inl o)))]) (n := 2) [1, 0] rfl rfl (by decide))
      have hD : va_D A ([(ty_XO x w sp sv bu bl le), (ov, .inl (ct 1, 1, .inr (.inl o)))] ++ ws_3) := ty_permD hD (ty_ordp (E := [(ov, .inl (ct 1, 1, .inr (.inl o))), (ty_XO x w sp sv bu bl le)]) (E2 := [(ty_XO x w sp sv bu bl le), (ov, .inl (ct 1, 1, .inr (.inl o)))]) (n := 2) [1, 0] rfl rfl (by decide))
      exact W.iret (v := 2) hx hb hr (fun t ht hW => ⟨⟨2, (ws_3, o), rfl, hT, by rw [ht]; exact hP, by rw [hAe]; exact hD⟩, hS.F ht⟩) hS.2.2 dL_eventsOf_20
    · obtain rfl := List.mem_singleton.mp hE
      refine vx_catch (name := "java/lang/IndexOutOfBoundsException") hown [] _ _ htab (fun z hz => absurd hz List.not_mem_nil) (by decide) (by decide) (hts _ kl_RL_32) (hts _ kcast_IOE) hce hcv hcl ?_
      refine W.eq (g2 := F0 m 13 ls [.ref q9]) rfl ?_
      refine lv_astore (lv' := [(4, .ref q9), (0, .ref x), (1, .int p1), (2, .int p2), (3, .ref ov)]) hx hb dL_eventsOf_13 hl (by decide) rfl (fun ls hl => ?_)
      refine lv_iconst (v := 1) hx hb dL_eventsOf_15 (by decide) ?_
      have hP : va_P D vwCl ([(ty_XO x w sp sv bu bl le), (ov, .inl (ct 1, 1, .inr (.inl o)))] ++ ws_3) H := ty_permP hP (ty_ordp (E := [(ov, .inl (ct 1, 1, .inr (.inl o))), (ty_XO x w sp sv bu bl le)]) (E2 := [(ty_XO x w sp sv bu bl le), (ov, .inl (ct 1, 1, .inr (.inl o)))]) (n := 2) [1, 0] rfl rfl (by decide))
      have hD : va_D A ([(ty_XO x w sp sv bu bl le), (ov, .inl (ct 1, 1, .inr (.inl o)))] ++ ws_3) := ty_permD hD (ty_ordp (E := [(ov, .inl (ct 1, 1, .inr (.inl o))), (ty_XO x w sp sv bu bl le)]) (E2 := [(ty_XO x w sp sv bu bl le), (ov, .inl (ct 1, 1, .inr (.inl o)))]) (n := 2) [1, 0] rfl rfl (by decide))
      exact W.iret (v := 1) hx hb hr (fun t ht hW => ⟨⟨1, (ws_3, o), rfl, hT, by rw [ht]; exact hP, by rw [hAe]; exact hD⟩, hS.F ht⟩) hS.2.2 dL_eventsOf_16
  · obtain ⟨ws_4, rfl⟩ : ∃ z, z = u := ⟨_, rfl⟩
    have hT := hw_2
    have hP : va_P D vwCl ([(ov, .inl (ct 1, 1, .inr (.inl o))), (ty_XO x w sp sv bu bl le)] ++ ws_4) H := hP
    have hD : va_D A ([(ov, .inl (ct 1, 1, .inr (.inl o))), (ty_XO x w sp sv bu bl le)] ++ ws_4) := hD
    refine W.widen (k := 2) (n := 12) (Nat.le_of_ble_eq_true rfl) (Nat.le_of_ble_eq_true rfl) ?_
    refine lv_i2l hx hb dL_eventsOf_8 rfl ?_
    refine lv_topl (fun x_5 _ => ?_)
    refine va_last hx hb hK hP hD hS 0 1 rfl rfl (cm_vin (by decide)) dL_eventsOf_9 (fun H locs hP hD hS => ?_)
    have hP : va_P D vwCl ([(ov, .inl (ct 1, 1, .inr (.inl (vp_updL o (0 : Int32).toNatClampNeg x_5)))), (ty_XO x w sp sv bu bl le)] ++ ws_4) H := hP
    have hD : va_D A ([(ov, .inl (ct 1, 1, .inr (.inl (vp_updL o (0 : Int32).toNatClampNeg x_5)))), (ty_XO x w sp sv bu bl le)] ++ ws_4) := hD
    refine lv_goto (tgt := 21) hx hb dL_eventsOf_10 (by decide) ?_
    refine lv_iconst (v := 0) hx hb dL_eventsOf_21 (by decide) ?_
    have hP : va_P D vwCl ([(ty_XO x w sp sv bu bl le), (ov, .inl (ct 1, 1, .inr (.inl (vp_updL o (0 : Int32).toNatClampNeg x_5))))] ++ ws_4) H := ty_permP hP (ty_ordp (E := [(ov, .inl (ct 1, 1, .inr (.inl (vp_updL o (0 : Int32).toNatClampNeg x_5)))), (ty_XO x w sp sv bu bl le)]) (E2 := [(ty_XO x w sp sv bu bl le), (ov, .inl (ct 1, 1, .inr (.inl (vp_updL o (0 : Int32).toNatClampNeg x_5))))]) (n := 2) [1, 0] rfl rfl (by decide))
    have hD : va_D A ([(ty_XO x w sp sv bu bl le), (ov, .inl (ct 1, 1, .inr (.inl (vp_updL o (0 : Int32).toNatClampNeg x_5))))] ++ ws_4) := ty_permD hD (ty_ordp (E := [(ov, .inl (ct 1, 1, .inr (.inl (vp_updL o (0 : Int32).toNatClampNeg x_5)))), (ty_XO x w sp sv bu bl le)]) (E2 := [(ty_XO x w sp sv bu bl le), (ov, .inl (ct 1, 1, .inr (.inl (vp_updL o (0 : Int32).toNatClampNeg x_5))))]) (n := 2) [1, 0] rfl rfl (by decide))
    exact W.iret (v := 0) hx hb hr (fun t ht hW => ⟨⟨0, (ws_4, (vp_updL o (0 : Int32).toNatClampNeg x_5)), rfl, hT, by rw [ht]; exact hP, by rw [hAe]; exact hD⟩, hS.F ht⟩) hS.2.2 dL_eventsOf_22
theorem dL_stepEndsIn_0 : decode cL_stepEndsIn 0 = .ok (.aload_n 2, 1) := by decide +kernel
theorem dL_stepEndsIn_1 : decode cL_stepEndsIn 1 = .ok (.iconst 0, 1) := by decide +kernel
theorem dL_stepEndsIn_2 : decode cL_stepEndsIn 2 = .ok (.aload_n 0, 1) := by decide +kernel
theorem dL_stepEndsIn_3 : decode cL_stepEndsIn 3 = .ok (.iload_n 1, 1) := by decide +kernel
theorem dL_stepEndsIn_4 : decode cL_stepEndsIn 4 = .ok (.invokevirtual 136, 3) := by decide +kernel
theorem dL_stepEndsIn_7 : decode cL_stepEndsIn 7 = .ok (.i2l, 1) := by decide +kernel
theorem dL_stepEndsIn_8 : decode cL_stepEndsIn 8 = .ok (.lastore, 1) := by decide +kernel
theorem dL_stepEndsIn_9 : decode cL_stepEndsIn 9 = .ok (.goto 6, 3) := by decide +kernel
theorem dL_stepEndsIn_12 : decode cL_stepEndsIn 12 = .ok (.astore_n 3, 1) := by decide +kernel
theorem dL_stepEndsIn_13 : decode cL_stepEndsIn 13 = .ok (.iconst 1, 1) := by decide +kernel
theorem dL_stepEndsIn_14 : decode cL_stepEndsIn 14 = .ok (.ireturn, 1) := by decide +kernel
theorem dL_stepEndsIn_15 : decode cL_stepEndsIn 15 = .ok (.iconst 0, 1) := by decide +kernel
theorem dL_stepEndsIn_16 : decode cL_stepEndsIn 16 = .ok (.ireturn, 1) := by decide +kernel
set_option maxRecDepth 100000 in
set_option maxHeartbeats 4000000 in
theorem tl_stepEndsIn (l : Launch) (hfl : l.stackTraces = false) (D : va_G) (ct : Nat → ClassId) (S : ty_S) (ws : va_W) (ph : va_W → Prop) (xx : Nat → Nat → Nat → Prop) (x : Nat) (w : Nat) (sp : Nat) (sv : Nat) (bu : Nat) (ns : Nat) (bl : Int32) (le : Int32) (p1 : Int32) (ov : Nat) (o : Nat → Int64) (sz : Nat) (hT : ty_V ct S ph ws) (h_w : S w = some (.inl 9)) (h_sp : S sp = some (.inl 9)) (h_sv : S sv = some (.inr (4, ns))) (hph : ty_C ph xx) (hy1 : ty_y1 xx) (hy2 : ty_y0 xx 2) (hy5 : ty_y0 xx 5) (hy7 : ty_yc xx 7) (hy11 : ty_y0 xx 11) (hys : xx 9 0 sp ∧ xx 9 4 sp) : Met l yL_stepEndsIn (wsw_ yL_stepEndsIn cL_stepEndsIn 4 (some .int) [(0, 9, 12, 32)]) ({ frames := 8, cells := 1, slots := 6, locals := 212 } : Room) (va_Pc [.ref x, .int p1, .ref ov] (cmPn D ct sz ([(ty_XO x w sp sv bu bl le), (ov, .inl (ct 1, 1, .inr (.inl o)))] ++ ws))) (va_Qi (fun (r : Int32) (u : va_W × (Nat → Int64)) => match u with | (u9, o1) => ty_V ct S ph u9) (cmB D ([(ty_XO x w sp sv bu bl le), (ov, .inl (ct 1, 1, .inr (.inl o)))] ++ ws) sz (fun (u : va_W × (Nat → Int64)) => match u with | (u9, o1) => ([(ty_XO x w sp sv bu bl le), (ov, .inl (ct 1, 1, .inr (.inl o1)))] ++ u9))) (va_A ([(ty_XO x w sp sv bu bl le), (ov, .inl (ct 1, 1, .inr (.inl o)))] ++ ws) sz)) 1 6 (va_A ([(ty_XO x w sp sv bu bl le), (ov, .inl (ct 1, 1, .inr (.inl o)))] ++ ws) sz) := by
  refine va_MetW (cc := cL_stepEndsIn) (maxL := 4) (ret := (some .int)) (hh := [(0, 9, 12, 32)]) (by decide) rfl ?_
  intro p e s m args below meth c s₁ B hml hv
  have hts0 := atoms_spec (ws := wsw_ yL_stepEndsIn cL_stepEndsIn 4 (some .int) [(0, 9, 12, 32)]) B.pre
  have hts : ∀ w ∈ cm_all, w.before args s = true := fun w h => hts0 w (List.mem_cons_of_mem _ h)
  obtain ⟨rfl, ⟨hsz, hP, hK, hD0, hX⟩, hNc⟩ := hv
  have hx := B.exec
  have hb := B.bytes
  have hr := B.returns
  have htab := vx_table (x := yL_stepEndsIn) B (hts0 _ List.mem_cons_self)
  have hown : s.vm.findClass RL = some m.cls := findClass_of_methodNamed B.named
  have hlocks := B.notSynchronized
  subst hsz
  have hD := hD0.self (sz := s.heap.size)
  generalize hAe : va_A ([(ty_XO x w sp sv bu bl le), (ov, .inl (ct 1, 1, .inr (.inl o)))] ++ ws) s.heap.size = A at hD hX ⊢
  have hA : ∀ q : Nat, s.heap.size ≤ q → A q := fun q h => by rw [← hAe]; exact Or.inr h
  have hS : va_S A s.heap s.heap [] := va_S.rf
  have hl := lv_entry ([.ref x, .int p1, .ref ov]) (n := 4) (Nat.le_of_ble_eq_true rfl)
  rw [lg_entry_eq]
  generalize (lg_sl ([.ref x, .int p1, .ref ov]) ++ List.replicate (4 - (lg_sl ([.ref x, .int p1, .ref ov])).length) Slot.unset).toArray = ls at hl ⊢
  have hl : lv_has ls 4 [(0, .ref x), (1, .int p1), (2, .ref ov)] := hl
  refine lv_aload_n hx hb dL_stepEndsIn_0 rfl (lv_at hl 2 rfl) ?_
  refine lv_iconst (v := 0) hx hb dL_stepEndsIn_1 (by decide) ?_
  refine lv_aload_n hx hb dL_stepEndsIn_2 rfl (lv_at hl 0 rfl) ?_
  refine lv_iload_n hx hb dL_stepEndsIn_3 rfl (lv_at hl 1 rfl) ?_
  have hP : va_P D vwCl ([(ov, .inl (ct 1, 1, .inr (.inl o))), (ty_XO x w sp sv bu bl le)] ++ ws) s.heap := ty_permP hP (ty_ordp (E := [(ty_XO x w sp sv bu bl le), (ov, .inl (ct 1, 1, .inr (.inl o)))]) (E2 := [(ov, .inl (ct 1, 1, .inr (.inl o))), (ty_XO x w sp sv bu bl le)]) (n := 2) [1, 0] rfl rfl (by decide))
  have hD : va_D A ([(ov, .inl (ct 1, 1, .inr (.inl o))), (ty_XO x w sp sv bu bl le)] ++ ws) := ty_permD hD (ty_ordp (E := [(ty_XO x w sp sv bu bl le), (ov, .inl (ct 1, 1, .inr (.inl o)))]) (E2 := [(ov, .inl (ct 1, 1, .inr (.inl o))), (ty_XO x w sp sv bu bl le)]) (n := 2) [1, 0] rfl rfl (by decide))
  refine ty_xi (wr := [(ov, .inl (ct 1, 1, .inr (.inl o)))]) (wc := ([(ty_XO x w sp sv bu bl le)] ++ ws)) (vx_runV (As := [.int p1]) (rest := [.int 0, .ref ov]) ⟨hx, hb, hml, hown, hts⟩ (t_X10_stepEndsIn l hfl D ct S ws ph xx x w sp sv bu ns bl le p1 _ hT h_w h_sp h_sv hph hy1 hy2 hy5 hy7 hy11 hys) (cm_V 1 hts kc_X10_stepEndsIn ki_RX10 kl_RL_136 kv_X10_stepEndsIn kx_X10_stepEndsIn kd_X10_stepEndsIn ⟨Nat.le_of_ble_eq_true rfl, Nat.le_of_ble_eq_true rfl⟩) (ty_preE (wr := [(ov, .inl (ct 1, 1, .inr (.inl o)))]) (wc := ([(ty_XO x w sp sv bu bl le)] ++ ws)) (ci := 10) (q0 := 1) hP hK hD hS hA hX rfl rfl) rfl rfl hl.1 rfl (lv_room (Nat.le_of_ble_eq_true rfl)) dL_stepEndsIn_4 ⟨Nat.le_of_ble_eq_true rfl, Nat.le_of_ble_eq_true rfl⟩) hP hD hS hA (fun E ce q9 u H locs hu hE hP hD hS hce hcv hcl => ?_) (fun r_1 u H locs hw_2 hP hD hS => ?_)
  · obtain ⟨ws_3, rfl⟩ : ∃ z, z = u := ⟨_, rfl⟩
    have hT := hu
    have hP : va_P D vwCl ([(ov, .inl (ct 1, 1, .inr (.inl o))), (ty_XO x w sp sv bu bl le)] ++ ws_3) H := hP
    have hD : va_D A ([(ov, .inl (ct 1, 1, .inr (.inl o))), (ty_XO x w sp sv bu bl le)] ++ ws_3) := hD
    obtain rfl := List.mem_singleton.mp hE
    refine vx_catch (name := "java/lang/IndexOutOfBoundsException") hown [] _ _ htab (fun z hz => absurd hz List.not_mem_nil) (by decide) (by decide) (hts _ kl_RL_32) (hts _ kcast_IOE) hce hcv hcl ?_
    refine W.eq (g2 := F0 m 12 ls [.ref q9]) rfl ?_
    refine lv_astore_n (lv' := [(3, .ref q9), (0, .ref x), (1, .int p1), (2, .ref ov)]) hx hb dL_stepEndsIn_12 rfl hl (by decide) rfl (fun ls hl => ?_)
    refine lv_iconst (v := 1) hx hb dL_stepEndsIn_13 (by decide) ?_
    have hP : va_P D vwCl ([(ty_XO x w sp sv bu bl le), (ov, .inl (ct 1, 1, .inr (.inl o)))] ++ ws_3) H := ty_permP hP (ty_ordp (E := [(ov, .inl (ct 1, 1, .inr (.inl o))), (ty_XO x w sp sv bu bl le)]) (E2 := [(ty_XO x w sp sv bu bl le), (ov, .inl (ct 1, 1, .inr (.inl o)))]) (n := 2) [1, 0] rfl rfl (by decide))
    have hD : va_D A ([(ty_XO x w sp sv bu bl le), (ov, .inl (ct 1, 1, .inr (.inl o)))] ++ ws_3) := ty_permD hD (ty_ordp (E := [(ov, .inl (ct 1, 1, .inr (.inl o))), (ty_XO x w sp sv bu bl le)]) (E2 := [(ty_XO x w sp sv bu bl le), (ov, .inl (ct 1, 1, .inr (.inl o)))]) (n := 2) [1, 0] rfl rfl (by decide))
    exact W.iret (v := 1) hx hb hr (fun t ht hW => ⟨⟨1, (ws_3, o), rfl, hT, by rw [ht]; exact hP, by rw [hAe]; exact hD⟩, hS.F ht⟩) hS.2.2 dL_stepEndsIn_14
  · obtain ⟨ws_4, rfl⟩ : ∃ z, z = u := ⟨_, rfl⟩
    have hT := hw_2
    have hP : va_P D vwCl ([(ov, .inl (ct 1, 1, .inr (.inl o))), (ty_XO x w sp sv bu bl le)] ++ ws_4) H := hP
    have hD : va_D A ([(ov, .inl (ct 1, 1, .inr (.inl o))), (ty_XO x w sp sv bu bl le)] ++ ws_4) := hD
    refine W.widen (k := 1) (n := 6) (Nat.le_of_ble_eq_true rfl) (Nat.le_of_ble_eq_true rfl) ?_
    refine lv_i2l hx hb dL_stepEndsIn_7 rfl ?_
    refine lv_topl (fun x_5 _ => ?_)
    refine va_last hx hb hK hP hD hS 0 1 rfl rfl (cm_vin (by decide)) dL_stepEndsIn_8 (fun H locs hP hD hS => ?_)
    have hP : va_P D vwCl ([(ov, .inl (ct 1, 1, .inr (.inl (vp_updL o (0 : Int32).toNatClampNeg x_5)))), (ty_XO x w sp sv bu bl le)] ++ ws_4) H := hP
    have hD : va_D A ([(ov, .inl (ct 1, 1, .inr (.inl (vp_updL o (0 : Int32).toNatClampNeg x_5)))), (ty_XO x w sp sv bu bl le)] ++ ws_4) := hD
    refine lv_goto (tgt := 15) hx hb dL_stepEndsIn_9 (by decide) ?_
    refine lv_iconst (v := 0) hx hb dL_stepEndsIn_15 (by decide) ?_
    have hP : va_P D vwCl ([(ty_XO x w sp sv bu bl le), (ov, .inl (ct 1, 1, .inr (.inl (vp_updL o (0 : Int32).toNatClampNeg x_5))))] ++ ws_4) H := ty_permP hP (ty_ordp (E := [(ov, .inl (ct 1, 1, .inr (.inl (vp_updL o (0 : Int32).toNatClampNeg x_5)))), (ty_XO x w sp sv bu bl le)]) (E2 := [(ty_XO x w sp sv bu bl le), (ov, .inl (ct 1, 1, .inr (.inl (vp_updL o (0 : Int32).toNatClampNeg x_5))))]) (n := 2) [1, 0] rfl rfl (by decide))
    have hD : va_D A ([(ty_XO x w sp sv bu bl le), (ov, .inl (ct 1, 1, .inr (.inl (vp_updL o (0 : Int32).toNatClampNeg x_5))))] ++ ws_4) := ty_permD hD (ty_ordp (E := [(ov, .inl (ct 1, 1, .inr (.inl (vp_updL o (0 : Int32).toNatClampNeg x_5)))), (ty_XO x w sp sv bu bl le)]) (E2 := [(ty_XO x w sp sv bu bl le), (ov, .inl (ct 1, 1, .inr (.inl (vp_updL o (0 : Int32).toNatClampNeg x_5))))]) (n := 2) [1, 0] rfl rfl (by decide))
    exact W.iret (v := 0) hx hb hr (fun t ht hW => ⟨⟨0, (ws_4, (vp_updL o (0 : Int32).toNatClampNeg x_5)), rfl, hT, by rw [ht]; exact hP, by rw [hAe]; exact hD⟩, hS.F ht⟩) hS.2.2 dL_stepEndsIn_16
theorem dL_doneIn_0 : decode cL_doneIn 0 = .ok (.aload_n 2, 1) := by decide +kernel
theorem dL_doneIn_1 : decode cL_doneIn 1 = .ok (.iconst 0, 1) := by decide +kernel
theorem dL_doneIn_2 : decode cL_doneIn 2 = .ok (.aload_n 0, 1) := by decide +kernel
theorem dL_doneIn_3 : decode cL_doneIn 3 = .ok (.iload_n 1, 1) := by decide +kernel
theorem dL_doneIn_4 : decode cL_doneIn 4 = .ok (.invokevirtual 139, 3) := by decide +kernel
theorem dL_doneIn_7 : decode cL_doneIn 7 = .ok (.i2l, 1) := by decide +kernel
theorem dL_doneIn_8 : decode cL_doneIn 8 = .ok (.lastore, 1) := by decide +kernel
theorem dL_doneIn_9 : decode cL_doneIn 9 = .ok (.goto 6, 3) := by decide +kernel
theorem dL_doneIn_12 : decode cL_doneIn 12 = .ok (.astore_n 3, 1) := by decide +kernel
theorem dL_doneIn_13 : decode cL_doneIn 13 = .ok (.iconst 1, 1) := by decide +kernel
theorem dL_doneIn_14 : decode cL_doneIn 14 = .ok (.ireturn, 1) := by decide +kernel
theorem dL_doneIn_15 : decode cL_doneIn 15 = .ok (.iconst 0, 1) := by decide +kernel
theorem dL_doneIn_16 : decode cL_doneIn 16 = .ok (.ireturn, 1) := by decide +kernel
set_option maxRecDepth 100000 in
set_option maxHeartbeats 4000000 in
theorem tl_doneIn (l : Launch) (hfl : l.stackTraces = false) (D : va_G) (ct : Nat → ClassId) (S : ty_S) (ws : va_W) (ph : va_W → Prop) (xx : Nat → Nat → Nat → Prop) (x : Nat) (w : Nat) (sp : Nat) (sv : Nat) (bu : Nat) (ns : Nat) (bl : Int32) (le : Int32) (p1 : Int32) (ov : Nat) (o : Nat → Int64) (sz : Nat) (hT : ty_V ct S ph ws) (h_w : S w = some (.inl 9)) (h_sp : S sp = some (.inl 9)) (h_sv : S sv = some (.inr (4, ns))) (hph : ty_C ph xx) (hy1 : ty_y1 xx) (hy2 : ty_y0 xx 2) (hy5 : ty_y0 xx 5) (hy7 : ty_yc xx 7) (hy11 : ty_y0 xx 11) (hys : xx 9 0 sp ∧ xx 9 4 sp) : Met l yL_doneIn (wsw_ yL_doneIn cL_doneIn 4 (some .int) [(0, 9, 12, 32)]) ({ frames := 8, cells := 1, slots := 6, locals := 211 } : Room) (va_Pc [.ref x, .int p1, .ref ov] (cmPn D ct sz ([(ty_XO x w sp sv bu bl le), (ov, .inl (ct 1, 1, .inr (.inl o)))] ++ ws))) (va_Qi (fun (r : Int32) (u : va_W × (Nat → Int64)) => match u with | (u9, o1) => ty_V ct S ph u9) (cmB D ([(ty_XO x w sp sv bu bl le), (ov, .inl (ct 1, 1, .inr (.inl o)))] ++ ws) sz (fun (u : va_W × (Nat → Int64)) => match u with | (u9, o1) => ([(ty_XO x w sp sv bu bl le), (ov, .inl (ct 1, 1, .inr (.inl o1)))] ++ u9))) (va_A ([(ty_XO x w sp sv bu bl le), (ov, .inl (ct 1, 1, .inr (.inl o)))] ++ ws) sz)) 1 6 (va_A ([(ty_XO x w sp sv bu bl le), (ov, .inl (ct 1, 1, .inr (.inl o)))] ++ ws) sz) := by
  refine va_MetW (cc := cL_doneIn) (maxL := 4) (ret := (some .int)) (hh := [(0, 9, 12, 32)]) (by decide) rfl ?_
  intro p e s m args below meth c s₁ B hml hv
  have hts0 := atoms_spec (ws := wsw_ yL_doneIn cL_doneIn 4 (some .int) [(0, 9, 12, 32)]) B.pre
  have hts : ∀ w ∈ cm_all, w.before args s = true := fun w h => hts0 w (List.mem_cons_of_mem _ h)
  obtain ⟨rfl, ⟨hsz, hP, hK, hD0, hX⟩, hNc⟩ := hv
  have hx := B.exec
  have hb := B.bytes
  have hr := B.returns
  have htab := vx_table (x := yL_doneIn) B (hts0 _ List.mem_cons_self)
  have hown : s.vm.findClass RL = some m.cls := findClass_of_methodNamed B.named
  have hlocks := B.notSynchronized
  subst hsz
  have hD := hD0.self (sz := s.heap.size)
  generalize hAe : va_A ([(ty_XO x w sp sv bu bl le), (ov, .inl (ct 1, 1, .inr (.inl o)))] ++ ws) s.heap.size = A at hD hX ⊢
  have hA : ∀ q : Nat, s.heap.size ≤ q → A q := fun q h => by rw [← hAe]; exact Or.inr h
  have hS : va_S A s.heap s.heap [] := va_S.rf
  have hl := lv_entry ([.ref x, .int p1, .ref ov]) (n := 4) (Nat.le_of_ble_eq_true rfl)
  rw [lg_entry_eq]
  generalize (lg_sl ([.ref x, .int p1, .ref ov]) ++ List.replicate (4 - (lg_sl ([.ref x, .int p1, .ref ov])).length) Slot.unset).toArray = ls at hl ⊢
  have hl : lv_has ls 4 [(0, .ref x), (1, .int p1), (2, .ref ov)] := hl
  refine lv_aload_n hx hb dL_doneIn_0 rfl (lv_at hl 2 rfl) ?_
  refine lv_iconst (v := 0) hx hb dL_doneIn_1 (by decide) ?_
  refine lv_aload_n hx hb dL_doneIn_2 rfl (lv_at hl 0 rfl) ?_
  refine lv_iload_n hx hb dL_doneIn_3 rfl (lv_at hl 1 rfl) ?_
  have hP : va_P D vwCl ([(ov, .inl (ct 1, 1, .inr (.inl o))), (ty_XO x w sp sv bu bl le)] ++ ws) s.heap := ty_permP hP (ty_ordp (E := [(ty_XO x w sp sv bu bl le), (ov, .inl (ct 1, 1, .inr (.inl o)))]) (E2 := [(ov, .inl (ct 1, 1, .inr (.inl o))), (ty_XO x w sp sv bu bl le)]) (n := 2) [1, 0] rfl rfl (by decide))
  have hD : va_D A ([(ov, .inl (ct 1, 1, .inr (.inl o))), (ty_XO x w sp sv bu bl le)] ++ ws) := ty_permD hD (ty_ordp (E := [(ty_XO x w sp sv bu bl le), (ov, .inl (ct 1, 1, .inr (.inl o)))]) (E2 := [(ov, .inl (ct 1, 1, .inr (.inl o))), (ty_XO x w sp sv bu bl le)]) (n := 2) [1, 0] rfl rfl (by decide))
  refine ty_xi (wr := [(ov, .inl (ct 1, 1, .inr (.inl o)))]) (wc := ([(ty_XO x w sp sv bu bl le)] ++ ws)) (vx_runV (As := [.int p1]) (rest := [.int 0, .ref ov]) ⟨hx, hb, hml, hown, hts⟩ (t_X10_doneIn l hfl D ct S ws ph xx x w sp sv bu ns bl le p1 _ hT h_w h_sp h_sv hph hy1 hy2 hy5 hy7 hy11 hys) (cm_V 1 hts kc_X10_doneIn ki_RX10 kl_RL_139 kv_X10_doneIn kx_X10_doneIn kd_X10_doneIn ⟨Nat.le_of_ble_eq_true rfl, Nat.le_of_ble_eq_true rfl⟩) (ty_preE (wr := [(ov, .inl (ct 1, 1, .inr (.inl o)))]) (wc := ([(ty_XO x w sp sv bu bl le)] ++ ws)) (ci := 10) (q0 := 1) hP hK hD hS hA hX rfl rfl) rfl rfl hl.1 rfl (lv_room (Nat.le_of_ble_eq_true rfl)) dL_doneIn_4 ⟨Nat.le_of_ble_eq_true rfl, Nat.le_of_ble_eq_true rfl⟩) hP hD hS hA (fun E ce q9 u H locs hu hE hP hD hS hce hcv hcl => ?_) (fun r_1 u H locs hw_2 hP hD hS => ?_)
  · obtain ⟨ws_3, rfl⟩ : ∃ z, z = u := ⟨_, rfl⟩
    have hT := hu
    have hP : va_P D vwCl ([(ov, .inl (ct 1, 1, .inr (.inl o))), (ty_XO x w sp sv bu bl le)] ++ ws_3) H := hP
    have hD : va_D A ([(ov, .inl (ct 1, 1, .inr (.inl o))), (ty_XO x w sp sv bu bl le)] ++ ws_3) := hD
    obtain rfl := List.mem_singleton.mp hE
    refine vx_catch (name := "java/lang/IndexOutOfBoundsException") hown [] _ _ htab (fun z hz => absurd hz List.not_mem_nil) (by decide) (by decide) (hts _ kl_RL_32) (hts _ kcast_IOE) hce hcv hcl ?_
    refine W.eq (g2 := F0 m 12 ls [.ref q9]) rfl ?_
    refine lv_astore_n (lv' := [(3, .ref q9), (0, .ref x), (1, .int p1), (2, .ref ov)]) hx hb dL_doneIn_12 rfl hl (by decide) rfl (fun ls hl => ?_)
    refine lv_iconst (v := 1) hx hb dL_doneIn_13 (by decide) ?_
    have hP : va_P D vwCl ([(ty_XO x w sp sv bu bl le), (ov, .inl (ct 1, 1, .inr (.inl o)))] ++ ws_3) H := ty_permP hP (ty_ordp (E := [(ov, .inl (ct 1, 1, .inr (.inl o))), (ty_XO x w sp sv bu bl le)]) (E2 := [(ty_XO x w sp sv bu bl le), (ov, .inl (ct 1, 1, .inr (.inl o)))]) (n := 2) [1, 0] rfl rfl (by decide))
    have hD : va_D A ([(ty_XO x w sp sv bu bl le), (ov, .inl (ct 1, 1, .inr (.inl o)))] ++ ws_3) := ty_permD hD (ty_ordp (E := [(ov, .inl (ct 1, 1, .inr (.inl o))), (ty_XO x w sp sv bu bl le)]) (E2 := [(ty_XO x w sp sv bu bl le), (ov, .inl (ct 1, 1, .inr (.inl o)))]) (n := 2) [1, 0] rfl rfl (by decide))
    exact W.iret (v := 1) hx hb hr (fun t ht hW => ⟨⟨1, (ws_3, o), rfl, hT, by rw [ht]; exact hP, by rw [hAe]; exact hD⟩, hS.F ht⟩) hS.2.2 dL_doneIn_14
  · obtain ⟨ws_4, rfl⟩ : ∃ z, z = u := ⟨_, rfl⟩
    have hT := hw_2
    have hP : va_P D vwCl ([(ov, .inl (ct 1, 1, .inr (.inl o))), (ty_XO x w sp sv bu bl le)] ++ ws_4) H := hP
    have hD : va_D A ([(ov, .inl (ct 1, 1, .inr (.inl o))), (ty_XO x w sp sv bu bl le)] ++ ws_4) := hD
    refine W.widen (k := 1) (n := 6) (Nat.le_of_ble_eq_true rfl) (Nat.le_of_ble_eq_true rfl) ?_
    refine lv_i2l hx hb dL_doneIn_7 rfl ?_
    refine lv_topl (fun x_5 _ => ?_)
    refine va_last hx hb hK hP hD hS 0 1 rfl rfl (cm_vin (by decide)) dL_doneIn_8 (fun H locs hP hD hS => ?_)
    have hP : va_P D vwCl ([(ov, .inl (ct 1, 1, .inr (.inl (vp_updL o (0 : Int32).toNatClampNeg x_5)))), (ty_XO x w sp sv bu bl le)] ++ ws_4) H := hP
    have hD : va_D A ([(ov, .inl (ct 1, 1, .inr (.inl (vp_updL o (0 : Int32).toNatClampNeg x_5)))), (ty_XO x w sp sv bu bl le)] ++ ws_4) := hD
    refine lv_goto (tgt := 15) hx hb dL_doneIn_9 (by decide) ?_
    refine lv_iconst (v := 0) hx hb dL_doneIn_15 (by decide) ?_
    have hP : va_P D vwCl ([(ty_XO x w sp sv bu bl le), (ov, .inl (ct 1, 1, .inr (.inl (vp_updL o (0 : Int32).toNatClampNeg x_5))))] ++ ws_4) H := ty_permP hP (ty_ordp (E := [(ov, .inl (ct 1, 1, .inr (.inl (vp_updL o (0 : Int32).toNatClampNeg x_5)))), (ty_XO x w sp sv bu bl le)]) (E2 := [(ty_XO x w sp sv bu bl le), (ov, .inl (ct 1, 1, .inr (.inl (vp_updL o (0 : Int32).toNatClampNeg x_5))))]) (n := 2) [1, 0] rfl rfl (by decide))
    have hD : va_D A ([(ty_XO x w sp sv bu bl le), (ov, .inl (ct 1, 1, .inr (.inl (vp_updL o (0 : Int32).toNatClampNeg x_5))))] ++ ws_4) := ty_permD hD (ty_ordp (E := [(ov, .inl (ct 1, 1, .inr (.inl (vp_updL o (0 : Int32).toNatClampNeg x_5)))), (ty_XO x w sp sv bu bl le)]) (E2 := [(ty_XO x w sp sv bu bl le), (ov, .inl (ct 1, 1, .inr (.inl (vp_updL o (0 : Int32).toNatClampNeg x_5))))]) (n := 2) [1, 0] rfl rfl (by decide))
    exact W.iret (v := 0) hx hb hr (fun t ht hW => ⟨⟨0, (ws_4, (vp_updL o (0 : Int32).toNatClampNeg x_5)), rfl, hT, by rw [ht]; exact hP, by rw [hAe]; exact hD⟩, hS.F ht⟩) hS.2.2 dL_doneIn_16
theorem dL_tripsIn_0 : decode cL_tripsIn 0 = .ok (.aload_n 2, 1) := by decide +kernel
theorem dL_tripsIn_1 : decode cL_tripsIn 1 = .ok (.iconst 0, 1) := by decide +kernel
theorem dL_tripsIn_2 : decode cL_tripsIn 2 = .ok (.aload_n 0, 1) := by decide +kernel
theorem dL_tripsIn_3 : decode cL_tripsIn 3 = .ok (.iload_n 1, 1) := by decide +kernel
theorem dL_tripsIn_4 : decode cL_tripsIn 4 = .ok (.invokevirtual 142, 3) := by decide +kernel
theorem dL_tripsIn_7 : decode cL_tripsIn 7 = .ok (.i2l, 1) := by decide +kernel
theorem dL_tripsIn_8 : decode cL_tripsIn 8 = .ok (.lastore, 1) := by decide +kernel
theorem dL_tripsIn_9 : decode cL_tripsIn 9 = .ok (.goto 6, 3) := by decide +kernel
theorem dL_tripsIn_12 : decode cL_tripsIn 12 = .ok (.astore_n 3, 1) := by decide +kernel
theorem dL_tripsIn_13 : decode cL_tripsIn 13 = .ok (.iconst 1, 1) := by decide +kernel
theorem dL_tripsIn_14 : decode cL_tripsIn 14 = .ok (.ireturn, 1) := by decide +kernel
theorem dL_tripsIn_15 : decode cL_tripsIn 15 = .ok (.iconst 0, 1) := by decide +kernel
theorem dL_tripsIn_16 : decode cL_tripsIn 16 = .ok (.ireturn, 1) := by decide +kernel
set_option maxRecDepth 100000 in
set_option maxHeartbeats 4000000 in
theorem tl_tripsIn (l : Launch) (hfl : l.stackTraces = false) (D : va_G) (ct : Nat → ClassId) (S : ty_S) (ws : va_W) (ph : va_W → Prop) (xx : Nat → Nat → Nat → Prop) (x : Nat) (w : Nat) (sp : Nat) (sv : Nat) (bu : Nat) (ns : Nat) (bl : Int32) (le : Int32) (p1 : Int32) (ov : Nat) (o : Nat → Int64) (sz : Nat) (hT : ty_V ct S ph ws) (h_w : S w = some (.inl 9)) (h_sp : S sp = some (.inl 9)) (h_sv : S sv = some (.inr (4, ns))) (hph : ty_C ph xx) (hy1 : ty_y1 xx) (hy2 : ty_y0 xx 2) (hy5 : ty_y0 xx 5) (hy7 : ty_yc xx 7) (hy11 : ty_y0 xx 11) (hys : xx 9 0 sp ∧ xx 9 4 sp) : Met l yL_tripsIn (wsw_ yL_tripsIn cL_tripsIn 4 (some .int) [(0, 9, 12, 32)]) ({ frames := 8, cells := 1, slots := 6, locals := 210 } : Room) (va_Pc [.ref x, .int p1, .ref ov] (cmPn D ct sz ([(ty_XO x w sp sv bu bl le), (ov, .inl (ct 1, 1, .inr (.inl o)))] ++ ws))) (va_Qi (fun (r : Int32) (u : va_W × (Nat → Int64)) => match u with | (u9, o1) => ty_V ct S ph u9) (cmB D ([(ty_XO x w sp sv bu bl le), (ov, .inl (ct 1, 1, .inr (.inl o)))] ++ ws) sz (fun (u : va_W × (Nat → Int64)) => match u with | (u9, o1) => ([(ty_XO x w sp sv bu bl le), (ov, .inl (ct 1, 1, .inr (.inl o1)))] ++ u9))) (va_A ([(ty_XO x w sp sv bu bl le), (ov, .inl (ct 1, 1, .inr (.inl o)))] ++ ws) sz)) 1 6 (va_A ([(ty_XO x w sp sv bu bl le), (ov, .inl (ct 1, 1, .inr (.inl o)))] ++ ws) sz) := by
  refine va_MetW (cc := cL_tripsIn) (maxL := 4) (ret := (some .int)) (hh := [(0, 9, 12, 32)]) (by decide) rfl ?_
  intro p e s m args below meth c s₁ B hml hv
  have hts0 := atoms_spec (ws := wsw_ yL_tripsIn cL_tripsIn 4 (some .int) [(0, 9, 12, 32)]) B.pre
  have hts : ∀ w ∈ cm_all, w.before args s = true := fun w h => hts0 w (List.mem_cons_of_mem _ h)
  obtain ⟨rfl, ⟨hsz, hP, hK, hD0, hX⟩, hNc⟩ := hv
  have hx := B.exec
  have hb := B.bytes
  have hr := B.returns
  have htab := vx_table (x := yL_tripsIn) B (hts0 _ List.mem_cons_self)
  have hown : s.vm.findClass RL = some m.cls := findClass_of_methodNamed B.named
  have hlocks := B.notSynchronized
  subst hsz
  have hD := hD0.self (sz := s.heap.size)
  generalize hAe : va_A ([(ty_XO x w sp sv bu bl le), (ov, .inl (ct 1, 1, .inr (.inl o)))] ++ ws) s.heap.size = A at hD hX ⊢
  have hA : ∀ q : Nat, s.heap.size ≤ q → A q := fun q h => by rw [← hAe]; exact Or.inr h
  have hS : va_S A s.heap s.heap [] := va_S.rf
  have hl := lv_entry ([.ref x, .int p1, .ref ov]) (n := 4) (Nat.le_of_ble_eq_true rfl)
  rw [lg_entry_eq]
  generalize (lg_sl ([.ref x, .int p1, .ref ov]) ++ List.replicate (4 - (lg_sl ([.ref x, .int p1, .ref ov])).length) Slot.unset).toArray = ls at hl ⊢
  have hl : lv_has ls 4 [(0, .ref x), (1, .int p1), (2, .ref ov)] := hl
  refine lv_aload_n hx hb dL_tripsIn_0 rfl (lv_at hl 2 rfl) ?_
  refine lv_iconst (v := 0) hx hb dL_tripsIn_1 (by decide) ?_
  refine lv_aload_n hx hb dL_tripsIn_2 rfl (lv_at hl 0 rfl) ?_
  refine lv_iload_n hx hb dL_tripsIn_3 rfl (lv_at hl 1 rfl) ?_
  have hP : va_P D vwCl ([(ov, .inl (ct 1, 1, .inr (.inl o))), (ty_XO x w sp sv bu bl le)] ++ ws) s.heap := ty_permP hP (ty_ordp (E := [(ty_XO x w sp sv bu bl le), (ov, .inl (ct 1, 1, .inr (.inl o)))]) (E2 := [(ov, .inl (ct 1, 1, .inr (.inl o))), (ty_XO x w sp sv bu bl le)]) (n := 2) [1, 0] rfl rfl (by decide))
  have hD : va_D A ([(ov, .inl (ct 1, 1, .inr (.inl o))), (ty_XO x w sp sv bu bl le)] ++ ws) := ty_permD hD (ty_ordp (E := [(ty_XO x w sp sv bu bl le), (ov, .inl (ct 1, 1, .inr (.inl o)))]) (E2 := [(ov, .inl (ct 1, 1, .inr (.inl o))), (ty_XO x w sp sv bu bl le)]) (n := 2) [1, 0] rfl rfl (by decide))
  refine ty_xi (wr := [(ov, .inl (ct 1, 1, .inr (.inl o)))]) (wc := ([(ty_XO x w sp sv bu bl le)] ++ ws)) (vx_runV (As := [.int p1]) (rest := [.int 0, .ref ov]) ⟨hx, hb, hml, hown, hts⟩ (t_X10_tripsIn l hfl D ct S ws ph xx x w sp sv bu ns bl le p1 _ hT h_w h_sp h_sv hph hy1 hy2 hy5 hy7 hy11 hys) (cm_V 1 hts kc_X10_tripsIn ki_RX10 kl_RL_142 kv_X10_tripsIn kx_X10_tripsIn kd_X10_tripsIn ⟨Nat.le_of_ble_eq_true rfl, Nat.le_of_ble_eq_true rfl⟩) (ty_preE (wr := [(ov, .inl (ct 1, 1, .inr (.inl o)))]) (wc := ([(ty_XO x w sp sv bu bl le)] ++ ws)) (ci := 10) (q0 := 1) hP hK hD hS hA hX rfl rfl) rfl rfl hl.1 rfl (lv_room (Nat.le_of_ble_eq_true rfl)) dL_tripsIn_4 ⟨Nat.le_of_ble_eq_true rfl, Nat.le_of_ble_eq_true rfl⟩) hP hD hS hA (fun E ce q9 u H locs hu hE hP hD hS hce hcv hcl => ?_) (fun r_1 u H locs hw_2 hP hD hS => ?_)
  · obtain ⟨ws_3, rfl⟩ : ∃ z, z = u := ⟨_, rfl⟩
    have hT := hu
    have hP : va_P D vwCl ([(ov, .inl (ct 1, 1, .inr (.inl o))), (ty_XO x w sp sv bu bl le)] ++ ws_3) H := hP
    have hD : va_D A ([(ov, .inl (ct 1, 1, .inr (.inl o))), (ty_XO x w sp sv bu bl le)] ++ ws_3) := hD
    obtain rfl := List.mem_singleton.mp hE
    refine vx_catch (name := "java/lang/IndexOutOfBoundsException") hown [] _ _ htab (fun z hz => absurd hz List.not_mem_nil) (by decide) (by decide) (hts _ kl_RL_32) (hts _ kcast_IOE) hce hcv hcl ?_
    refine W.eq (g2 := F0 m 12 ls [.ref q9]) rfl ?_
    refine lv_astore_n (lv' := [(3, .ref q9), (0, .ref x), (1, .int p1), (2, .ref ov)]) hx hb dL_tripsIn_12 rfl hl (by decide) rfl (fun ls hl => ?_)
    refine lv_iconst (v := 1) hx hb dL_tripsIn_13 (by decide) ?_
    have hP : va_P D vwCl ([(ty_XO x w sp sv bu bl le), (ov, .inl (ct 1, 1, .inr (.inl o)))] ++ ws_3) H := ty_permP hP (ty_ordp (E := [(ov, .inl (ct 1, 1, .inr (.inl o))), (ty_XO x w sp sv bu bl le)]) (E2 := [(ty_XO x w sp sv bu bl le), (ov, .inl (ct 1, 1, .inr (.inl o)))]) (n := 2) [1, 0] rfl rfl (by decide))
    have hD : va_D A ([(ty_XO x w sp sv bu bl le), (ov, .inl (ct 1, 1, .inr (.inl o)))] ++ ws_3) := ty_permD hD (ty_ordp (E := [(ov, .inl (ct 1, 1, .inr (.inl o))), (ty_XO x w sp sv bu bl le)]) (E2 := [(ty_XO x w sp sv bu bl le), (ov, .inl (ct 1, 1, .inr (.inl o)))]) (n := 2) [1, 0] rfl rfl (by decide))
    exact W.iret (v := 1) hx hb hr (fun t ht hW => ⟨⟨1, (ws_3, o), rfl, hT, by rw [ht]; exact hP, by rw [hAe]; exact hD⟩, hS.F ht⟩) hS.2.2 dL_tripsIn_14
  · obtain ⟨ws_4, rfl⟩ : ∃ z, z = u := ⟨_, rfl⟩
    have hT := hw_2
    have hP : va_P D vwCl ([(ov, .inl (ct 1, 1, .inr (.inl o))), (ty_XO x w sp sv bu bl le)] ++ ws_4) H := hP
    have hD : va_D A ([(ov, .inl (ct 1, 1, .inr (.inl o))), (ty_XO x w sp sv bu bl le)] ++ ws_4) := hD
    refine W.widen (k := 1) (n := 6) (Nat.le_of_ble_eq_true rfl) (Nat.le_of_ble_eq_true rfl) ?_
    refine lv_i2l hx hb dL_tripsIn_7 rfl ?_
    refine lv_topl (fun x_5 _ => ?_)
    refine va_last hx hb hK hP hD hS 0 1 rfl rfl (cm_vin (by decide)) dL_tripsIn_8 (fun H locs hP hD hS => ?_)
    have hP : va_P D vwCl ([(ov, .inl (ct 1, 1, .inr (.inl (vp_updL o (0 : Int32).toNatClampNeg x_5)))), (ty_XO x w sp sv bu bl le)] ++ ws_4) H := hP
    have hD : va_D A ([(ov, .inl (ct 1, 1, .inr (.inl (vp_updL o (0 : Int32).toNatClampNeg x_5)))), (ty_XO x w sp sv bu bl le)] ++ ws_4) := hD
    refine lv_goto (tgt := 15) hx hb dL_tripsIn_9 (by decide) ?_
    refine lv_iconst (v := 0) hx hb dL_tripsIn_15 (by decide) ?_
    have hP : va_P D vwCl ([(ty_XO x w sp sv bu bl le), (ov, .inl (ct 1, 1, .inr (.inl (vp_updL o (0 : Int32).toNatClampNeg x_5))))] ++ ws_4) H := ty_permP hP (ty_ordp (E := [(ov, .inl (ct 1, 1, .inr (.inl (vp_updL o (0 : Int32).toNatClampNeg x_5)))), (ty_XO x w sp sv bu bl le)]) (E2 := [(ty_XO x w sp sv bu bl le), (ov, .inl (ct 1, 1, .inr (.inl (vp_updL o (0 : Int32).toNatClampNeg x_5))))]) (n := 2) [1, 0] rfl rfl (by decide))
    have hD : va_D A ([(ty_XO x w sp sv bu bl le), (ov, .inl (ct 1, 1, .inr (.inl (vp_updL o (0 : Int32).toNatClampNeg x_5))))] ++ ws_4) := ty_permD hD (ty_ordp (E := [(ov, .inl (ct 1, 1, .inr (.inl (vp_updL o (0 : Int32).toNatClampNeg x_5)))), (ty_XO x w sp sv bu bl le)]) (E2 := [(ty_XO x w sp sv bu bl le), (ov, .inl (ct 1, 1, .inr (.inl (vp_updL o (0 : Int32).toNatClampNeg x_5))))]) (n := 2) [1, 0] rfl rfl (by decide))
    exact W.iret (v := 0) hx hb hr (fun t ht hW => ⟨⟨0, (ws_4, (vp_updL o (0 : Int32).toNatClampNeg x_5)), rfl, hT, by rw [ht]; exact hP, by rw [hAe]; exact hD⟩, hS.F ht⟩) hS.2.2 dL_tripsIn_16
