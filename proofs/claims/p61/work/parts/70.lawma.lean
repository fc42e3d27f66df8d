/-! the law's own methods -/
theorem rp_ov {o : Nat → Int64} {i : Nat} {x : Int64} : vp_updL o i x i = x := if_pos rfl
abbrev wsw_ (y : MethodName) (cc : ByteArray) (n : Nat) (r : Option FieldType) (hh : List (Nat × Nat × Nat × Nat)) : List Cond := Cond.codeWith y cc n r hh :: cm_all
theorem cm_SW {R : Room} {s : State} {args : Array Value} {own : String} {index maxL : Nat} {y : MethodName} {bytes : ByteArray} {ret : Option FieldType} {hh : List (Nat × Nat × Nat × Nat)} {rm : Room} (n : Nat) (hts : ∀ w ∈ cm_all, w.before args s = true) (hc : Cond.codeWith y bytes maxL ret hh ∈ cm_all) (hini : Cond.initialized y.cls ∈ cm_all) (hl : Cond.methodLink own index y ∈ cm_all) (hi : Cond.static y ∈ cm_all)
    (hd : y.cls ≠ "java/lang/invoke/MethodHandle" ∧ y.cls ≠ "java/lang/invoke/VarHandle" ∧ (parseMethodDescriptor y.desc).map (fun d => d.parameters.length) = some n) (hR : rm.frames + 1 ≤ R.frames ∧ 8 + (maxL + 11) + rm.locals ≤ R.locals) : vx_CSW R s args own index y bytes maxL ret hh (wsw_ y bytes maxL ret hh) rm rm.cells rm.slots n := by
  refine ⟨⟨rfl, rfl, hR.1, hR.2, cm_pay hts hc, List.mem_cons_self⟩, hts _ hc, hts _ hini, ⟨hd.1, hd.2.1⟩, fun sig h => ?_, hts _ hl, hts _ hi⟩
  have h2 := hd.2.2
  rw [h] at h2
  exact (Option.some.inj h2).symm
theorem kcast_IAE : Cond.castable "java/lang/IllegalArgumentException" "java/lang/IllegalArgumentException" ∈ cm_all := cm_inT (cm_t4 _ (List.mem_of_getElem? (i := 92) (by decide +kernel))) rfl
theorem kcast_IOE : Cond.castable "java/lang/IndexOutOfBoundsException" "java/lang/IndexOutOfBoundsException" ∈ cm_all := cm_inT (cm_t4 _ (List.mem_of_getElem? (i := 194) (by decide +kernel))) rfl
/-- a state that also knows that an IllegalArgumentException is no IndexOutOfBoundsException -/
def cmPn (D : va_G) (ct : Nat → ClassId) (sz : Nat) (W0 : va_W) (U : State) : Prop := cmP D ct sz W0 U ∧ va_Nc "java/lang/IllegalArgumentException" "java/lang/IndexOutOfBoundsException" U
theorem cm_blindn {D : va_G} {ct : Nat → ClassId} {sz : Nat} {W0 : va_W} {av : List Value} : FrameBlind (va_Pc av (cmPn D ct sz W0)) := by
  intro b U g mk h
  exact ⟨h.1, (cm_blind (ct := ct) b U g mk ⟨h.1, h.2.1⟩).2, va_Nc.moved (u := U) (U := U.calling g mk b) (Vm.Alike.refl U.vm) h.2.2⟩
theorem cm_preSn {s : State} {H : Heap} {D : va_G} {ct : Nat → ClassId} {wc : va_W} {As : List Value} (h : PreS s H (va_Pc As (cmP D ct H.size wc)) As) (hN : va_Nc "java/lang/IllegalArgumentException" "java/lang/IndexOutOfBoundsException" s) : PreS s H (va_Pc As (cmPn D ct H.size wc)) As := ⟨cm_blindn, fun U hU hW => ⟨(h.2 U hU hW).1, (h.2 U hU hW).2, va_Nc.moved hW.alike hN⟩⟩
theorem dL_count_0 : decode cL_count 0 = .ok (.aload_n 2, 1) := by decide +kernel
theorem dL_count_1 : decode cL_count 1 = .ok (.iconst 0, 1) := by decide +kernel
theorem dL_count_2 : decode cL_count 2 = .ok (.aload_n 0, 1) := by decide +kernel
theorem dL_count_3 : decode cL_count 3 = .ok (.iload_n 1, 1) := by decide +kernel
theorem dL_count_4 : decode cL_count 4 = .ok (.invokevirtual 7, 3) := by decide +kernel
theorem dL_count_7 : decode cL_count 7 = .ok (.i2l, 1) := by decide +kernel
theorem dL_count_8 : decode cL_count 8 = .ok (.lastore, 1) := by decide +kernel
theorem dL_count_9 : decode cL_count 9 = .ok (.goto 6, 3) := by decide +kernel
theorem dL_count_12 : decode cL_count 12 = .ok (.astore_n 3, 1) := by decide +kernel
theorem dL_count_13 : decode cL_count 13 = .ok (.iconst 1, 1) := by decide +kernel
theorem dL_count_14 : decode cL_count 14 = .ok (.ireturn, 1) := by decide +kernel
theorem dL_count_15 : decode cL_count 15 = .ok (.iconst 0, 1) := by decide +kernel
theorem dL_count_16 : decode cL_count 16 = .ok (.ireturn, 1) := by decide +kernel
set_option maxRecDepth 100000 in
set_option maxHeartbeats 4000000 in
theorem tl_count (l : Launch) (hfl : l.stackTraces = false) (D : va_G) (ct : Nat → ClassId) (S : ty_S) (ws : va_W) (ph : va_W → Prop) (xx : Nat → Nat → Nat → Prop) (x : Nat) (w : Nat) (sp : Nat) (sv : Nat) (bu : Nat) (ns : Nat) (bl : Int32) (le : Int32) (p1 : Int32) (ov : Nat) (o : Nat → Int64) (sz : Nat) (hT : ty_V ct S ph ws) (h_w : S w = some (.inl 9)) (h_sp : S sp = some (.inl 9)) (h_sv : S sv = some (.inr (4, ns))) (hph : ty_C ph xx) (hy1 : ty_y1 xx) (hy11 : ty_y0 xx 11) : Met l yL_count (wsw_ yL_count cL_count 4 (some .int) [(0, 9, 12, 13)]) ({ frames := 8, cells := 1, slots := 6, locals := 133 } : Room) (va_Pc [.ref x, .int p1, .ref ov] (cmPn D ct sz ([(ty_XO x w sp sv bu bl le), (ov, .inl (ct 1, 1, .inr (.inl o)))] ++ ws))) (va_Qi (fun (r : Int32) (u : va_W × (Nat → Int64)) => match u with | (u9, o1) => ty_V ct S ph u9) (cmB D ([(ty_XO x w sp sv bu bl le), (ov, .inl (ct 1, 1, .inr (.inl o)))] ++ ws) sz (fun (u : va_W × (Nat → Int64)) => match u with | (u9, o1) => ([(ty_XO x w sp sv bu bl le), (ov, .inl (ct 1, 1, .inr (.inl o1)))] ++ u9))) (va_A ([(ty_XO x w sp sv bu bl le), (ov, .inl (ct 1, 1, .inr (.inl o)))] ++ ws) sz)) 1 6 (va_A ([(ty_XO x w sp sv bu bl le), (ov, .inl (ct 1, 1, .inr (.inl o)))] ++ ws) sz) := by
  refine va_MetW (cc := cL_count) (maxL := 4) (ret := (some .int)) (hh := [(0, 9, 12, 13)]) (by decide) rfl ?_
  intro p e s m args below meth c s₁ B hml hv
  have hts0 := atoms_spec (ws := wsw_ yL_count cL_count 4 (some .int) [(0, 9, 12, 13)]) B.pre
  have hts : ∀ w ∈ cm_all, w.before args s = true := fun w h => hts0 w (List.mem_cons_of_mem _ h)
  obtain ⟨rfl, ⟨hsz, hP, hK, hD0, hX⟩, hNc⟩ := hv
  have hx := B.exec
  have hb := B.bytes
  have hr := B.returns
  have htab := vx_table (x := yL_count) B (hts0 _ List.mem_cons_self)
  have hown : s.vm.findClass RL = some m.cls := findClass_of_methodNamed B.named
  have hlocks := B.notSynchronized
  subst hsz
  have hD := hD0.self (sz := s.heap.size)
  generalize hAe : va_A ([(ty_XO x w sp sv bu bl le), (ov, .inl (ct 1, 1, .inr (.inl o)))] ++ ws) s.heap.size = A at hD hX ⊢
  have hA : ∀ q : Nat, s.heap.size ≤ q → A q := fun q h => by rw [← hAe]; exact Or.inr h
  have hS : va_S A s.heap s.heap [] := va_S.rf
  have hl := lv_entry ([.ref x, .int p1, .ref ov]) (n := 4) (Nat.le_of_ble_eq_true rfl)
  rw [lg_entry_eq]
  generalize (lg_sl ([.ref x, .int p1, .ref ov]) ++ List.replicate (4 - (lg_sl ([.ref x, .int p1, .ref ov])).length) Slot.unset).toArray = ls at hl ⊢
  have hl : lv_has ls 4 [(0, .ref x), (1, .int p1), (2, .ref ov)] := hl
  refine lv_aload_n hx hb dL_count_0 rfl (lv_at hl 2 rfl) ?_
  refine lv_iconst (v := 0) hx hb dL_count_1 (by decide) ?_
  refine lv_aload_n hx hb dL_count_2 rfl (lv_at hl 0 rfl) ?_
  refine lv_iload_n hx hb dL_count_3 rfl (lv_at hl 1 rfl) ?_
  have hP : va_P D vwCl ([(ov, .inl (ct 1, 1, .inr (.inl o))), (ty_XO x w sp sv bu bl le)] ++ ws) s.heap := ty_permP hP (ty_ordp (E := [(ty_XO x w sp sv bu bl le), (ov, .inl (ct 1, 1, .inr (.inl o)))]) (E2 := [(ov, .inl (ct 1, 1, .inr (.inl o))), (ty_XO x w sp sv bu bl le)]) (n := 2) [1, 0] rfl rfl (by decide))
  have hD : va_D A ([(ov, .inl (ct 1, 1, .inr (.inl o))), (ty_XO x w sp sv bu bl le)] ++ ws) := ty_permD hD (ty_ordp (E := [(ty_XO x w sp sv bu bl le), (ov, .inl (ct 1, 1, .inr (.inl o)))]) (E2 := [(ov, .inl (ct 1, 1, .inr (.inl o))), (ty_XO x w sp sv bu bl le)]) (n := 2) [1, 0] rfl rfl (by decide))
  refine ty_xi (wr := [(ov, .inl (ct 1, 1, .inr (.inl o)))]) (wc := ([(ty_XO x w sp sv bu bl le)] ++ ws)) (vx_runV (As := [.int p1]) (rest := [.int 0, .ref ov]) ⟨hx, hb, hml, hown, hts⟩ (t_X10_count l hfl D ct S ws ph xx x w sp sv bu ns bl le p1 _ hT h_w h_sp h_sv hph hy1) (cm_V 1 hts kc_X10_count ki_RX10 kl_RL_7 kv_X10_count kx_X10_count kd_X10_count ⟨Nat.le_of_ble_eq_true rfl, Nat.le_of_ble_eq_true rfl⟩) (ty_preE (wr := [(ov, .inl (ct 1, 1, .inr (.inl o)))]) (wc := ([(ty_XO x w sp sv bu bl le)] ++ ws)) (ci := 10) (q0 := 1) hP hK hD hS hA hX rfl rfl) rfl rfl hl.1 rfl (lv_room (Nat.le_of_ble_eq_true rfl)) dL_count_4 ⟨Nat.le_of_ble_eq_true rfl, Nat.le_of_ble_eq_true rfl⟩) hP hD hS hA (fun E ce q9 u H locs hu hE hP hD hS hce hcv hcl => ?_) (fun r_1 u H locs hw_2 hP hD hS => ?_)
  · obtain ⟨ws_3, rfl⟩ : ∃ z, z = u := ⟨_, rfl⟩
    have hT := hu
    have hP : va_P D vwCl ([(ov, .inl (ct 1, 1, .inr (.inl o))), (ty_XO x w sp sv bu bl le)] ++ ws_3) H := hP
    have hD : va_D A ([(ov, .inl (ct 1, 1, .inr (.inl o))), (ty_XO x w sp sv bu bl le)] ++ ws_3) := hD
    obtain rfl := List.mem_singleton.mp hE
    refine vx_catch (name := "java/lang/IllegalArgumentException") hown [] _ _ htab (fun z hz => absurd hz List.not_mem_nil) (by decide) (by decide) (hts _ kl_RL_13) (hts _ kcast_IAE) hce hcv hcl ?_
    refine W.eq (g2 := F0 m 12 ls [.ref q9]) rfl ?_
    refine lv_astore_n (lv' := [(3, .ref q9), (0, .ref x), (1, .int p1), (2, .ref ov)]) hx hb dL_count_12 rfl hl (by decide) rfl (fun ls hl => ?_)
    refine lv_iconst (v := 1) hx hb dL_count_13 (by decide) ?_
    have hP : va_P D vwCl ([(ty_XO x w sp sv bu bl le), (ov, .inl (ct 1, 1, .inr (.inl o)))] ++ ws_3) H := ty_permP hP (ty_ordp (E := [(ov, .inl (ct 1, 1, .inr (.inl o))), (ty_XO x w sp sv bu bl le)]) (E2 := [(ty_XO x w sp sv bu bl le), (ov, .inl (ct 1, 1, .inr (.inl o)))]) (n := 2) [1, 0] rfl rfl (by decide))
    have hD : va_D A ([(ty_XO x w sp sv bu bl le), (ov, .inl (ct 1, 1, .inr (.inl o)))] ++ ws_3) := ty_permD hD (ty_ordp (E := [(ov, .inl (ct 1, 1, .inr (.inl o))), (ty_XO x w sp sv bu bl le)]) (E2 := [(ty_XO x w sp sv bu bl le), (ov, .inl (ct 1, 1, .inr (.inl o)))]) (n := 2) [1, 0] rfl rfl (by decide))
    exact W.iret (v := 1) hx hb hr (fun t ht hW => ⟨⟨1, (ws_3, o), rfl, hT, by rw [ht]; exact hP, by rw [hAe]; exact hD⟩, hS.F ht⟩) hS.2.2 dL_count_14
  · obtain ⟨ws_4, rfl⟩ : ∃ z, z = u := ⟨_, rfl⟩
    have hT := hw_2
    have hP : va_P D vwCl ([(ov, .inl (ct 1, 1, .inr (.inl o))), (ty_XO x w sp sv bu bl le)] ++ ws_4) H := hP
    have hD : va_D A ([(ov, .inl (ct 1, 1, .inr (.inl o))), (ty_XO x w sp sv bu bl le)] ++ ws_4) := hD
    refine W.widen (k := 1) (n := 6) (Nat.le_of_ble_eq_true rfl) (Nat.le_of_ble_eq_true rfl) ?_
    refine lv_i2l hx hb dL_count_7 rfl ?_
    refine lv_topl (fun x_5 _ => ?_)
    refine va_last hx hb hK hP hD hS 0 1 rfl rfl (cm_vin (by decide)) dL_count_8 (fun H locs hP hD hS => ?_)
    have hP : va_P D vwCl ([(ov, .inl (ct 1, 1, .inr (.inl (vp_updL o (0 : Int32).toNatClampNeg x_5)))), (ty_XO x w sp sv bu bl le)] ++ ws_4) H := hP
    have hD : va_D A ([(ov, .inl (ct 1, 1, .inr (.inl (vp_updL o (0 : Int32).toNatClampNeg x_5)))), (ty_XO x w sp sv bu bl le)] ++ ws_4) := hD
    refine lv_goto (tgt := 15) hx hb dL_count_9 (by decide) ?_
    refine lv_iconst (v := 0) hx hb dL_count_15 (by decide) ?_
    have hP : va_P D vwCl ([(ty_XO x w sp sv bu bl le), (ov, .inl (ct 1, 1, .inr (.inl (vp_updL o (0 : Int32).toNatClampNeg x_5))))] ++ ws_4) H := ty_permP hP (ty_ordp (E := [(ov, .inl (ct 1, 1, .inr (.inl (vp_updL o (0 : Int32).toNatClampNeg x_5)))), (ty_XO x w sp sv bu bl le)]) (E2 := [(ty_XO x w sp sv bu bl le), (ov, .inl (ct 1, 1, .inr (.inl (vp_updL o (0 : Int32).toNatClampNeg x_5))))]) (n := 2) [1, 0] rfl rfl (by decide))
    have hD : va_D A ([(ty_XO x w sp sv bu bl le), (ov, .inl (ct 1, 1, .inr (.inl (vp_updL o (0 : Int32).toNatClampNeg x_5))))] ++ ws_4) := ty_permD hD (ty_ordp (E := [(ov, .inl (ct 1, 1, .inr (.inl (vp_updL o (0 : Int32).toNatClampNeg x_5)))), (ty_XO x w sp sv bu bl le)]) (E2 := [(ty_XO x w sp sv bu bl le), (ov, .inl (ct 1, 1, .inr (.inl (vp_updL o (0 : Int32).toNatClampNeg x_5))))]) (n := 2) [1, 0] rfl rfl (by decide))
    exact W.iret (v := 0) hx hb hr (fun t ht hW => ⟨⟨0, (ws_4, (vp_updL o (0 : Int32).toNatClampNeg x_5)), rfl, hT, by rw [ht]; exact hP, by rw [hAe]; exact hD⟩, hS.F ht⟩) hS.2.2 dL_count_16
theorem dL_setting_0 : decode cL_setting 0 = .ok (.aload_n 2, 1) := by decide +kernel
theorem dL_setting_1 : decode cL_setting 1 = .ok (.iconst 0, 1) := by decide +kernel
theorem dL_setting_2 : decode cL_setting 2 = .ok (.aload_n 0, 1) := by decide +kernel
theorem dL_setting_3 : decode cL_setting 3 = .ok (.iload_n 1, 1) := by decide +kernel
theorem dL_setting_4 : decode cL_setting 4 = .ok (.invokevirtual 15, 3) := by decide +kernel
theorem dL_setting_7 : decode cL_setting 7 = .ok (.i2l, 1) := by decide +kernel
theorem dL_setting_8 : decode cL_setting 8 = .ok (.lastore, 1) := by decide +kernel
theorem dL_setting_9 : decode cL_setting 9 = .ok (.goto 6, 3) := by decide +kernel
theorem dL_setting_12 : decode cL_setting 12 = .ok (.astore_n 3, 1) := by decide +kernel
theorem dL_setting_13 : decode cL_setting 13 = .ok (.iconst 1, 1) := by decide +kernel
theorem dL_setting_14 : decode cL_setting 14 = .ok (.ireturn, 1) := by decide +kernel
theorem dL_setting_15 : decode cL_setting 15 = .ok (.iconst 0, 1) := by decide +kernel
theorem dL_setting_16 : decode cL_setting 16 = .ok (.ireturn, 1) := by decide +kernel
set_option maxRecDepth 100000 in
set_option maxHeartbeats 4000000 in
theorem tl_setting (l : Launch) (hfl : l.stackTraces = false) (D : va_G) (ct : Nat → ClassId) (S : ty_S) (ws : va_W) (ph : va_W → Prop) (xx : Nat → Nat → Nat → Prop) (x : Nat) (w : Nat) (sp : Nat) (sv : Nat) (bu : Nat) (ns : Nat) (bl : Int32) (le : Int32) (p1 : Int32) (ov : Nat) (o : Nat → Int64) (sz : Nat) (hT : ty_V ct S ph ws) (h_w : S w = some (.inl 9)) (h_sp : S sp = some (.inl 9)) (h_sv : S sv = some (.inr (4, ns))) (hph : ty_C ph xx) (hy1 : ty_y1 xx) (hy11 : ty_y0 xx 11) : Met l yL_setting (wsw_ yL_setting cL_setting 4 (some .int) [(0, 9, 12, 13)]) ({ frames := 8, cells := 1, slots := 6, locals := 134 } : Room) (va_Pc [.ref x, .int p1, .ref ov] (cmPn D ct sz ([(ty_XO x w sp sv bu bl le), (ov, .inl (ct 1, 1, .inr (.inl o)))] ++ ws))) (va_Qi (fun (r : Int32) (u : va_W × (Nat → Int64)) => match u with | (u9, o1) => ty_V ct S ph u9) (cmB D ([(ty_XO x w sp sv bu bl le), (ov, .inl (ct 1, 1, .inr (.inl o)))] ++ ws) sz (fun (u : va_W × (Nat → Int64)) => match u with | (u9, o1) => ([(ty_XO x w sp sv bu bl le), (ov, .inl (ct 1, 1, .inr (.inl o1)))] ++ u9))) (va_A ([(ty_XO x w sp sv bu bl le), (ov, .inl (ct 1, 1, .inr (.inl o)))] ++ ws) sz)) 1 6 (va_A ([(ty_XO x w sp sv bu bl le), (ov, .inl (ct 1, 1, .inr (.inl o)))] ++ ws) sz) := by
  refine va_MetW (cc := cL_setting) (maxL := 4) (ret := (some .int)) (hh := [(0, 9, 12, 13)]) (by decide) rfl ?_
  intro p e s m args below meth c s₁ B hml hv
  have hts0 := atoms_spec (ws := wsw_ yL_setting cL_setting 4 (some .int) [(0, 9, 12, 13)]) B.pre
  have hts : ∀ w ∈ cm_all, w.before args s = true := fun w h => hts0 w (List.mem_cons_of_mem _ h)
  obtain ⟨rfl, ⟨hsz, hP, hK, hD0, hX⟩, hNc⟩ := hv
  have hx := B.exec
  have hb := B.bytes
  have hr := B.returns
  have htab := vx_table (x := yL_setting) B (hts0 _ List.mem_cons_self)
  have hown : s.vm.findClass RL = some m.cls := findClass_of_methodNamed B.named
  have hlocks := B.notSynchronized
  subst hsz
  have hD := hD0.self (sz := s.heap.size)
  generalize hAe : va_A ([(ty_XO x w sp sv bu bl le), (ov, .inl (ct 1, 1, .inr (.inl o)))] ++ ws) s.heap.size = A at hD hX ⊢
  have hA : ∀ q : Nat, s.heap.size ≤ q → A q := fun q h => by rw [← hAe]; exact Or.inr h
  have hS : va_S A s.heap s.heap [] := va_S.rf
  have hl := lv_entry ([.ref x, .int p1, .ref ov]) (n := 4) (Nat.le_of_ble_eq_true rfl)
  rw [lg_entry_eq]
  generalize (lg_sl ([.ref x, .int p1, .ref ov]) ++ List.replicate (4 - (lg_sl ([.ref x, .int p1, .ref ov])).length) Slot.unset).toArray = ls at hl ⊢
  have hl : lv_has ls 4 [(0, .ref x), (1, .int p1), (2, .ref ov)] := hl
  refine lv_aload_n hx hb dL_setting_0 rfl (lv_at hl 2 rfl) ?_
  refine lv_iconst (v := 0) hx hb dL_setting_1 (by decide) ?_
  refine lv_aload_n hx hb dL_setting_2 rfl (lv_at hl 0 rfl) ?_
  refine lv_iload_n hx hb dL_setting_3 rfl (lv_at hl 1 rfl) ?_
  have hP : va_P D vwCl ([(ov, .inl (ct 1, 1, .inr (.inl o))), (ty_XO x w sp sv bu bl le)] ++ ws) s.heap := ty_permP hP (ty_ordp (E := [(ty_XO x w sp sv bu bl le), (ov, .inl (ct 1, 1, .inr (.inl o)))]) (E2 := [(ov, .inl (ct 1, 1, .inr (.inl o))), (ty_XO x w sp sv bu bl le)]) (n := 2) [1, 0] rfl rfl (by decide))
  have hD : va_D A ([(ov, .inl (ct 1, 1, .inr (.inl o))), (ty_XO x w sp sv bu bl le)] ++ ws) := ty_permD hD (ty_ordp (E := [(ty_XO x w sp sv bu bl le), (ov, .inl (ct 1, 1, .inr (.inl o)))]) (E2 := [(ov, .inl (ct 1, 1, .inr (.inl o))), (ty_XO x w sp sv bu bl le)]) (n := 2) [1, 0] rfl rfl (by decide))
  refine ty_xi (wr := [(ov, .inl (ct 1, 1, .inr (.inl o)))]) (wc := ([(ty_XO x w sp sv bu bl le)] ++ ws)) (vx_runV (As := [.int p1]) (rest := [.int 0, .ref ov]) ⟨hx, hb, hml, hown, hts⟩ (t_X10_setting l hfl D ct S ws ph xx x w sp sv bu ns bl le p1 _ hT h_w h_sp h_sv hph hy1) (cm_V 1 hts kc_X10_setting ki_RX10 kl_RL_15 kv_X10_setting kx_X10_setting kd_X10_setting ⟨Nat.le_of_ble_eq_true rfl, Nat.le_of_ble_eq_true rfl⟩) (ty_preE (wr := [(ov, .inl (ct 1, 1, .inr (.inl o)))]) (wc := ([(ty_XO x w sp sv bu bl le)] ++ ws)) (ci := 10) (q0 := 1) hP hK hD hS hA hX rfl rfl) rfl rfl hl.1 rfl (lv_room (Nat.le_of_ble_eq_true rfl)) dL_setting_4 ⟨Nat.le_of_ble_eq_true rfl, Nat.le_of_ble_eq_true rfl⟩) hP hD hS hA (fun E ce q9 u H locs hu hE hP hD hS hce hcv hcl => ?_) (fun r_1 u H locs hw_2 hP hD hS => ?_)
  · obtain ⟨ws_3, rfl⟩ : ∃ z, z = u := ⟨_, rfl⟩
    have hT := hu
    have hP : va_P D vwCl ([(ov, .inl (ct 1, 1, .inr (.inl o))), (ty_XO x w sp sv bu bl le)] ++ ws_3) H := hP
    have hD : va_D A ([(ov, .inl (ct 1, 1, .inr (.inl o))), (ty_XO x w sp sv bu bl le)] ++ ws_3) := hD
    obtain rfl := List.mem_singleton.mp hE
    refine vx_catch (name := "java/lang/IllegalArgumentException") hown [] _ _ htab (fun z hz => absurd hz List.not_mem_nil) (by decide) (by decide) (hts _ kl_RL_13) (hts _ kcast_IAE) hce hcv hcl ?_
    refine W.eq (g2 := F0 m 12 ls [.ref q9]) rfl ?_
    refine lv_astore_n (lv' := [(3, .ref q9), (0, .ref x), (1, .int p1), (2, .ref ov)]) hx hb dL_setting_12 rfl hl (by decide) rfl (fun ls hl => ?_)
    refine lv_iconst (v := 1) hx hb dL_setting_13 (by decide) ?_
    have hP : va_P D vwCl ([(ty_XO x w sp sv bu bl le), (ov, .inl (ct 1, 1, .inr (.inl o)))] ++ ws_3) H := ty_permP hP (ty_ordp (E := [(ov, .inl (ct 1, 1, .inr (.inl o))), (ty_XO x w sp sv bu bl le)]) (E2 := [(ty_XO x w sp sv bu bl le), (ov, .inl (ct 1, 1, .inr (.inl o)))]) (n := 2) [1, 0] rfl rfl (by decide))
    have hD : va_D A ([(ty_XO x w sp sv bu bl le), (ov, .inl (ct 1, 1, .inr (.inl o)))] ++ ws_3) := ty_permD hD (ty_ordp (E := [(ov, .inl (ct 1, 1, .inr (.inl o))), (ty_XO x w sp sv bu bl le)]) (E2 := [(ty_XO x w sp sv bu bl le), (ov, .inl (ct 1, 1, .inr (.inl o)))]) (n := 2) [1, 0] rfl rfl (by decide))
    exact W.iret (v := 1) hx hb hr (fun t ht hW => ⟨⟨1, (ws_3, o), rfl, hT, by rw [ht]; exact hP, by rw [hAe]; exact hD⟩, hS.F ht⟩) hS.2.2 dL_setting_14
  · obtain ⟨ws_4, rfl⟩ : ∃ z, z = u := ⟨_, rfl⟩
    have hT := hw_2
    have hP : va_P D vwCl ([(ov, .inl (ct 1, 1, .inr (.inl o))), (ty_XO x w sp sv bu bl le)] ++ ws_4) H := hP
    have hD : va_D A ([(ov, .inl (ct 1, 1, .inr (.inl o))), (ty_XO x w sp sv bu bl le)] ++ ws_4) := hD
    refine W.widen (k := 1) (n := 6) (Nat.le_of_ble_eq_true rfl) (Nat.le_of_ble_eq_true rfl) ?_
    refine lv_i2l hx hb dL_setting_7 rfl ?_
    refine lv_topl (fun x_5 _ => ?_)
    refine va_last hx hb hK hP hD hS 0 1 rfl rfl (cm_vin (by decide)) dL_setting_8 (fun H locs hP hD hS => ?_)
    have hP : va_P D vwCl ([(ov, .inl (ct 1, 1, .inr (.inl (vp_updL o (0 : Int32).toNatClampNeg x_5)))), (ty_XO x w sp sv bu bl le)] ++ ws_4) H := hP
    have hD : va_D A ([(ov, .inl (ct 1, 1, .inr (.inl (vp_updL o (0 : Int32).toNatClampNeg x_5)))), (ty_XO x w sp sv bu bl le)] ++ ws_4) := hD
    refine lv_goto (tgt := 15) hx hb dL_setting_9 (by decide) ?_
    refine lv_iconst (v := 0) hx hb dL_setting_15 (by decide) ?_
    have hP : va_P D vwCl ([(ty_XO x w sp sv bu bl le), (ov, .inl (ct 1, 1, .inr (.inl (vp_updL o (0 : Int32).toNatClampNeg x_5))))] ++ ws_4) H := ty_permP hP (ty_ordp (E := [(ov, .inl (ct 1, 1, .inr (.inl (vp_updL o (0 : Int32).toNatClampNeg x_5)))), (ty_XO x w sp sv bu bl le)]) (E2 := [(ty_XO x w sp sv bu bl le), (ov, .inl (ct 1, 1, .inr (.inl (vp_updL o (0 : Int32).toNatClampNeg x_5))))]) (n := 2) [1, 0] rfl rfl (by decide))
    have hD : va_D A ([(ty_XO x w sp sv bu bl le), (ov, .inl (ct 1, 1, .inr (.inl (vp_updL o (0 : Int32).toNatClampNeg x_5))))] ++ ws_4) := ty_permD hD (ty_ordp (E := [(ov, .inl (ct 1, 1, .inr (.inl (vp_updL o (0 : Int32).toNatClampNeg x_5)))), (ty_XO x w sp sv bu bl le)]) (E2 := [(ty_XO x w sp sv bu bl le), (ov, .inl (ct 1, 1, .inr (.inl (vp_updL o (0 : Int32).toNatClampNeg x_5))))]) (n := 2) [1, 0] rfl rfl (by decide))
    exact W.iret (v := 0) hx hb hr (fun t ht hW => ⟨⟨0, (ws_4, (vp_updL o (0 : Int32).toNatClampNeg x_5)), rfl, hT, by rw [ht]; exact hP, by rw [hAe]; exact hD⟩, hS.F ht⟩) hS.2.2 dL_setting_16
theorem dL_setAmbient_0 : decode cL_setAmbient 0 = .ok (.aload_n 2, 1) := by decide +kernel
theorem dL_setAmbient_1 : decode cL_setAmbient 1 = .ok (.iconst 0, 1) := by decide +kernel
theorem dL_setAmbient_2 : decode cL_setAmbient 2 = .ok (.aload_n 0, 1) := by decide +kernel
theorem dL_setAmbient_3 : decode cL_setAmbient 3 = .ok (.iload_n 1, 1) := by decide +kernel
theorem dL_setAmbient_4 : decode cL_setAmbient 4 = .ok (.invokevirtual 18, 3) := by decide +kernel
theorem dL_setAmbient_7 : decode cL_setAmbient 7 = .ok (.i2l, 1) := by decide +kernel
theorem dL_setAmbient_8 : decode cL_setAmbient 8 = .ok (.lastore, 1) := by decide +kernel
theorem dL_setAmbient_9 : decode cL_setAmbient 9 = .ok (.goto 6, 3) := by decide +kernel
theorem dL_setAmbient_12 : decode cL_setAmbient 12 = .ok (.astore_n 3, 1) := by decide +kernel
theorem dL_setAmbient_13 : decode cL_setAmbient 13 = .ok (.iconst 1, 1) := by decide +kernel
theorem dL_setAmbient_14 : decode cL_setAmbient 14 = .ok (.ireturn, 1) := by decide +kernel
theorem dL_setAmbient_15 : decode cL_setAmbient 15 = .ok (.iconst 0, 1) := by decide +kernel
theorem dL_setAmbient_16 : decode cL_setAmbient 16 = .ok (.ireturn, 1) := by decide +kernel
set_option maxRecDepth 100000 in
set_option maxHeartbeats 4000000 in
theorem tl_setAmbient (l : Launch) (hfl : l.stackTraces = false) (D : va_G) (ct : Nat → ClassId) (S : ty_S) (ws : va_W) (ph : va_W → Prop) (xx : Nat → Nat → Nat → Prop) (x : Nat) (w : Nat) (sp : Nat) (sv : Nat) (bu : Nat) (ns : Nat) (bl : Int32) (le : Int32) (p1 : Int32) (ov : Nat) (o : Nat → Int64) (sz : Nat) (hT : ty_V ct S ph ws) (h_w : S w = some (.inl 9)) (h_sp : S sp = some (.inl 9)) (h_sv : S sv = some (.inr (4, ns))) (hph : ty_C ph xx) (hy1 : ty_y1 xx) (hy7 : ty_yc xx 7) (hy11 : ty_y0 xx 11) : Met l yL_setAmbient (wsw_ yL_setAmbient cL_setAmbient 4 (some .int) [(0, 9, 12, 13)]) ({ frames := 8, cells := 1, slots := 6, locals := 134 } : Room) (va_Pc [.ref x, .int p1, .ref ov] (cmPn D ct sz ([(ty_XO x w sp sv bu bl le), (ov, .inl (ct 1, 1, .inr (.inl o)))] ++ ws))) (va_Qi (fun (r : Int32) (u : va_W × (Nat → Int64)) => match u with | (u9, o1) => ty_V ct S ph u9) (cmB D ([(ty_XO x w sp sv bu bl le), (ov, .inl (ct 1, 1, .inr (.inl o)))] ++ ws) sz (fun (u : va_W × (Nat → Int64)) => match u with | (u9, o1) => ([(ty_XO x w sp sv bu bl le), (ov, .inl (ct 1, 1, .inr (.inl o1)))] ++ u9))) (va_A ([(ty_XO x w sp sv bu bl le), (ov, .inl (ct 1, 1, .inr (.inl o)))] ++ ws) sz)) 1 6 (va_A ([(ty_XO x w sp sv bu bl le), (ov, .inl (ct 1, 1, .inr (.inl o)))] ++ ws) sz) := by
  refine va_MetW (cc := cL_setAmbient) (maxL := 4) (ret := (some .int)) (hh := [(0, 9, 12, 13)]) (by decide) rfl ?_
  intro p e s m args below meth c s₁ B hml hv
  have hts0 := atoms_spec (ws := wsw_ yL_setAmbient cL_setAmbient 4 (some .int) [(0, 9, 12, 13)]) B.pre
  have hts : ∀ w ∈ cm_all, w.before args s = true := fun w h => hts0 w (List.mem_cons_of_mem _ h)
  obtain ⟨rfl, ⟨hsz, hP, hK, hD0, hX⟩, hNc⟩ := hv
  have hx := B.exec
  have hb := B.bytes
  have hr := B.returns
  have htab := vx_table (x := yL_setAmbient) B (hts0 _ List.mem_cons_self)
  have hown : s.vm.findClass RL = some m.cls := findClass_of_methodNamed B.named
  have hlocks := B.notSynchronized
  subst hsz
  have hD := hD0.self (sz := s.heap.size)
  generalize hAe : va_A ([(ty_XO x w sp sv bu bl le), (ov, .inl (ct 1, 1, .inr (.inl o)))] ++ ws) s.heap.size = A at hD hX ⊢
  have hA : ∀ q : Nat, s.heap.size ≤ q → A q := fun q h => by rw [← hAe]; exact Or.inr h
  have hS : va_S A s.heap s.heap [] := va_S.rf
  have hl := lv_entry ([.ref x, .int p1, .ref ov]) (n := 4) (Nat.le_of_ble_eq_true rfl)
  rw [lg_entry_eq]
  generalize (lg_sl ([.ref x, .int p1, .ref ov]) ++ List.replicate (4 - (lg_sl ([.ref x, .int p1, .ref ov])).length) Slot.unset).toArray = ls at hl ⊢
  have hl : lv_has ls 4 [(0, .ref x), (1, .int p1), (2, .ref ov)] := hl
  refine lv_aload_n hx hb dL_setAmbient_0 rfl (lv_at hl 2 rfl) ?_
  refine lv_iconst (v := 0) hx hb dL_setAmbient_1 (by decide) ?_
  refine lv_aload_n hx hb dL_setAmbient_2 rfl (lv_at hl 0 rfl) ?_
  refine lv_iload_n hx hb dL_setAmbient_3 rfl (lv_at hl 1 rfl) ?_
  have hP : va_P D vwCl ([(ov, .inl (ct 1, 1, .inr (.inl o))), (ty_XO x w sp sv bu bl le)] ++ ws) s.heap := ty_permP hP (ty_ordp (E := [(ty_XO x w sp sv bu bl le), (ov, .inl (ct 1, 1, .inr (.inl o)))]) (E2 := [(ov, .inl (ct 1, 1, .inr (.inl o))), (ty_XO x w sp sv bu bl le)]) (n := 2) [1, 0] rfl rfl (by decide))
  have hD : va_D A ([(ov, .inl (ct 1, 1, .inr (.inl o))), (ty_XO x w sp sv bu bl le)] ++ ws) := ty_permD hD (ty_ordp (E := [(ty_XO x w sp sv bu bl le), (ov, .inl (ct 1, 1, .inr (.inl o)))]) (E2 := [(ov, .inl (ct 1, 1, .inr (.inl o))), (ty_XO x w sp sv bu bl le)]) (n := 2) [1, 0] rfl rfl (by decide))
  refine ty_xi (wr := [(ov, .inl (ct 1, 1, .inr (.inl o)))]) (wc := ([(ty_XO x w sp sv bu bl le)] ++ ws)) (vx_runV (As := [.int p1]) (rest := [.int 0, .ref ov]) ⟨hx, hb, hml, hown, hts⟩ (t_X10_setAmbient l hfl D ct S ws ph xx x w sp sv bu ns bl le p1 _ hT h_w h_sp h_sv hph hy1 hy7) (cm_V 1 hts kc_X10_setAmbient ki_RX10 kl_RL_18 kv_X10_setAmbient kx_X10_setAmbient kd_X10_setAmbient ⟨Nat.le_of_ble_eq_true rfl, Nat.le_of_ble_eq_true rfl⟩) (ty_preE (wr := [(ov, .inl (ct 1, 1, .inr (.inl o)))]) (wc := ([(ty_XO x w sp sv bu bl le)] ++ ws)) (ci := 10) (q0 := 1) hP hK hD hS hA hX rfl rfl) rfl rfl hl.1 rfl (lv_room (Nat.le_of_ble_eq_true rfl)) dL_setAmbient_4 ⟨Nat.le_of_ble_eq_true rfl, Nat.le_of_ble_eq_true rfl⟩) hP hD hS hA (fun E ce q9 u H locs hu hE hP hD hS hce hcv hcl => ?_) (fun r_1 u H locs hw_2 hP hD hS => ?_)
  · obtain ⟨ws_3, rfl⟩ : ∃ z, z = u := ⟨_, rfl⟩
    have hT := hu
    have hP : va_P D vwCl ([(ov, .inl (ct 1, 1, .inr (.inl o))), (ty_XO x w sp sv bu bl le)] ++ ws_3) H := hP
    have hD : va_D A ([(ov, .inl (ct 1, 1, .inr (.inl o))), (ty_XO x w sp sv bu bl le)] ++ ws_3) := hD
    obtain rfl := List.mem_singleton.mp hE
    refine vx_catch (name := "java/lang/IllegalArgumentException") hown [] _ _ htab (fun z hz => absurd hz List.not_mem_nil) (by decide) (by decide) (hts _ kl_RL_13) (hts _ kcast_IAE) hce hcv hcl ?_
    refine W.eq (g2 := F0 m 12 ls [.ref q9]) rfl ?_
    refine lv_astore_n (lv' := [(3, .ref q9), (0, .ref x), (1, .int p1), (2, .ref ov)]) hx hb dL_setAmbient_12 rfl hl (by decide) rfl (fun ls hl => ?_)
    refine lv_iconst (v := 1) hx hb dL_setAmbient_13 (by decide) ?_
    have hP : va_P D vwCl ([(ty_XO x w sp sv bu bl le), (ov, .inl (ct 1, 1, .inr (.inl o)))] ++ ws_3) H := ty_permP hP (ty_ordp (E := [(ov, .inl (ct 1, 1, .inr (.inl o))), (ty_XO x w sp sv bu bl le)]) (E2 := [(ty_XO x w sp sv bu bl le), (ov, .inl (ct 1, 1, .inr (.inl o)))]) (n := 2) [1, 0] rfl rfl (by decide))
    have hD : va_D A ([(ty_XO x w sp sv bu bl le), (ov, .inl (ct 1, 1, .inr (.inl o)))] ++ ws_3) := ty_permD hD (ty_ordp (E := [(ov, .inl (ct 1, 1, .inr (.inl o))), (ty_XO x w sp sv bu bl le)]) (E2 := [(ty_XO x w sp sv bu bl le), (ov, .inl (ct 1, 1, .inr (.inl o)))]) (n := 2) [1, 0] rfl rfl (by decide))
    exact W.iret (v := 1) hx hb hr (fun t ht hW => ⟨⟨1, (ws_3, o), rfl, hT, by rw [ht]; exact hP, by rw [hAe]; exact hD⟩, hS.F ht⟩) hS.2.2 dL_setAmbient_14
  · obtain ⟨ws_4, rfl⟩ : ∃ z, z = u := ⟨_, rfl⟩
    have hT := hw_2
    have hP : va_P D vwCl ([(ov, .inl (ct 1, 1, .inr (.inl o))), (ty_XO x w sp sv bu bl le)] ++ ws_4) H := hP
    have hD : va_D A ([(ov, .inl (ct 1, 1, .inr (.inl o))), (ty_XO x w sp sv bu bl le)] ++ ws_4) := hD
    refine W.widen (k := 1) (n := 6) (Nat.le_of_ble_eq_true rfl) (Nat.le_of_ble_eq_true rfl) ?_
    refine lv_i2l hx hb dL_setAmbient_7 rfl ?_
    refine lv_topl (fun x_5 _ => ?_)
    refine va_last hx hb hK hP hD hS 0 1 rfl rfl (cm_vin (by decide)) dL_setAmbient_8 (fun H locs hP hD hS => ?_)
    have hP : va_P D vwCl ([(ov, .inl (ct 1, 1, .inr (.inl (vp_updL o (0 : Int32).toNatClampNeg x_5)))), (ty_XO x w sp sv bu bl le)] ++ ws_4) H := hP
    have hD : va_D A ([(ov, .inl (ct 1, 1, .inr (.inl (vp_updL o (0 : Int32).toNatClampNeg x_5)))), (ty_XO x w sp sv bu bl le)] ++ ws_4) := hD
    refine lv_goto (tgt := 15) hx hb dL_setAmbient_9 (by decide) ?_
    refine lv_iconst (v := 0) hx hb dL_setAmbient_15 (by decide) ?_
    have hP : va_P D vwCl ([(ty_XO x w sp sv bu bl le), (ov, .inl (ct 1, 1, .inr (.inl (vp_updL o (0 : Int32).toNatClampNeg x_5))))] ++ ws_4) H := ty_permP hP (ty_ordp (E := [(ov, .inl (ct 1, 1, .inr (.inl (vp_updL o (0 : Int32).toNatClampNeg x_5)))), (ty_XO x w sp sv bu bl le)]) (E2 := [(ty_XO x w sp sv bu bl le), (ov, .inl (ct 1, 1, .inr (.inl (vp_updL o (0 : Int32).toNatClampNeg x_5))))]) (n := 2) [1, 0] rfl rfl (by decide))
    have hD : va_D A ([(ty_XO x w sp sv bu bl le), (ov, .inl (ct 1, 1, .inr (.inl (vp_updL o (0 : Int32).toNatClampNeg x_5))))] ++ ws_4) := ty_permD hD (ty_ordp (E := [(ov, .inl (ct 1, 1, .inr (.inl (vp_updL o (0 : Int32).toNatClampNeg x_5)))), (ty_XO x w sp sv bu bl le)]) (E2 := [(ty_XO x w sp sv bu bl le), (ov, .inl (ct 1, 1, .inr (.inl (vp_updL o (0 : Int32).toNatClampNeg x_5))))]) (n := 2) [1, 0] rfl rfl (by decide))
    exact W.iret (v := 0) hx hb hr (fun t ht hW => ⟨⟨0, (ws_4, (vp_updL o (0 : Int32).toNatClampNeg x_5)), rfl, hT, by rw [ht]; exact hP, by rw [hAe]; exact hD⟩, hS.F ht⟩) hS.2.2 dL_setAmbient_16
theorem dL_setLimits_0 : decode cL_setLimits 0 = .ok (.aload_n 3, 1) := by decide +kernel
theorem dL_setLimits_1 : decode cL_setLimits 1 = .ok (.iconst 0, 1) := by decide +kernel
theorem dL_setLimits_2 : decode cL_setLimits 2 = .ok (.aload_n 0, 1) := by decide +kernel
theorem dL_setLimits_3 : decode cL_setLimits 3 = .ok (.iload_n 1, 1) := by decide +kernel
theorem dL_setLimits_4 : decode cL_setLimits 4 = .ok (.iload_n 2, 1) := by decide +kernel
theorem dL_setLimits_5 : decode cL_setLimits 5 = .ok (.invokevirtual 21, 3) := by decide +kernel
theorem dL_setLimits_8 : decode cL_setLimits 8 = .ok (.i2l, 1) := by decide +kernel
theorem dL_setLimits_9 : decode cL_setLimits 9 = .ok (.lastore, 1) := by decide +kernel
theorem dL_setLimits_10 : decode cL_setLimits 10 = .ok (.goto 7, 3) := by decide +kernel
theorem dL_setLimits_13 : decode cL_setLimits 13 = .ok (.astore 4, 2) := by decide +kernel
theorem dL_setLimits_15 : decode cL_setLimits 15 = .ok (.iconst 1, 1) := by decide +kernel
theorem dL_setLimits_16 : decode cL_setLimits 16 = .ok (.ireturn, 1) := by decide +kernel
theorem dL_setLimits_17 : decode cL_setLimits 17 = .ok (.iconst 0, 1) := by decide +kernel
theorem dL_setLimits_18 : decode cL_setLimits 18 = .ok (.ireturn, 1) := by decide +kernel
set_option maxRecDepth 100000 in
set_option maxHeartbeats 4000000 in
theorem tl_setLimits (l : Launch) (hfl : l.stackTraces = false) (D : va_G) (ct : Nat → ClassId) (S : ty_S) (ws : va_W) (ph : va_W → Prop) (xx : Nat → Nat → Nat → Prop) (x : Nat) (w : Nat) (sp : Nat) (sv : Nat) (bu : Nat) (ns : Nat) (bl : Int32) (le : Int32) (p1 : Int32) (p2 : Int32) (ov : Nat) (o : Nat → Int64) (sz : Nat) (hT : ty_V ct S ph ws) (h_w : S w = some (.inl 9)) (h_sp : S sp = some (.inl 9)) (h_sv : S sv = some (.inr (4, ns))) (hph : ty_C ph xx) (hy1 : ty_y1 xx) (hy7 : ty_yc xx 7) (hy11 : ty_y0 xx 11) : Met l yL_setLimits (wsw_ yL_setLimits cL_setLimits 5 (some .int) [(0, 10, 13, 13)]) ({ frames := 8, cells := 2, slots := 12, locals := 137 } : Room) (va_Pc [.ref x, .int p1, .int p2, .ref ov] (cmPn D ct sz ([(ty_XO x w sp sv bu bl le), (ov, .inl (ct 1, 1, .inr (.inl o)))] ++ ws))) (va_Qi (fun (r : Int32) (u : va_W × (Nat → Int64)) => match u with | (u9, o1) => ty_V ct S ph u9) (cmB D ([(ty_XO x w sp sv bu bl le), (ov, .inl (ct 1, 1, .inr (.inl o)))] ++ ws) sz (fun (u : va_W × (Nat → Int64)) => match u with | (u9, o1) => ([(ty_XO x w sp sv bu bl le), (ov, .inl (ct 1, 1, .inr (.inl o1)))] ++ u9))) (va_A ([(ty_XO x w sp sv bu bl le), (ov, .inl (ct 1, 1, .inr (.inl o)))] ++ ws) sz)) 2 12 (va_A ([(ty_XO x w sp sv bu bl le), (ov, .inl (ct 1, 1, .inr (.inl o)))] ++ ws) sz) := by
  refine va_MetW (cc := cL_setLimits) (maxL := 5) (ret := (some .int)) (hh := [(0, 10, 13, 13)]) (by decide) rfl ?_
  intro p e s m args below meth c s₁ B hml hv
  have hts0 := atoms_spec (ws := wsw_ yL_setLimits cL_setLimits 5 (some .int) [(0, 10, 13, 13)]) B.pre
  have hts : ∀ w ∈ cm_all, w.before args s = true := fun w h => hts0 w (List.mem_cons_of_mem _ h)
  obtain ⟨rfl, ⟨hsz, hP, hK, hD0, hX⟩, hNc⟩ := hv
  have hx := B.exec
  have hb := B.bytes
  have hr := B.returns
  have htab := vx_table (x := yL_setLimits) B (hts0 _ List.mem_cons_self)
  have hown : s.vm.findClass RL = some m.cls := findClass_of_methodNamed B.named
  have hlocks := B.notSynchronized
  subst hsz
  have hD := hD0.self (sz := s.heap.size)
  generalize hAe : va_A ([(ty_XO x w sp sv bu bl le), (ov, .inl (ct 1, 1, .inr (.inl o)))] ++ ws) s.heap.size = A at hD hX ⊢
  have hA : ∀ q : Nat, s.heap.size ≤ q → A q := fun q h => by rw [← hAe]; exact Or.inr h
  have hS : va_S A s.heap s.heap [] := va_S.rf
  have hl := lv_entry ([.ref x, .int p1, .int p2, .ref ov]) (n := 5) (Nat.le_of_ble_eq_true rfl)
  rw [lg_entry_eq]
  generalize (lg_sl ([.ref x, .int p1, .int p2, .ref ov]) ++ List.replicate (5 - (lg_sl ([.ref x, .int p1, .int p2, .ref ov])).length) Slot.unset).toArray = ls at hl ⊢
  have hl : lv_has ls 5 [(0, .ref x), (1, .int p1), (2, .int p2), (3, .ref ov)] := hl
  refine lv_aload_n hx hb dL_setLimits_0 rfl (lv_at hl 3 rfl) ?_
  refine lv_iconst (v := 0) hx hb dL_setLimits_1 (by decide) ?_
  refine lv_aload_n hx hb dL_setLimits_2 rfl (lv_at hl 0 rfl) ?_
  refine lv_iload_n hx hb dL_setLimits_3 rfl (lv_at hl 1 rfl) ?_
  refine lv_iload_n hx hb dL_setLimits_4 rfl (lv_at hl 2 rfl) ?_
  have hP : va_P D vwCl ([(ov, .inl (ct 1, 1, .inr (.inl o))), (ty_XO x w sp sv bu bl le)] ++ ws) s.heap := ty_permP hP (ty_ordp (E := [(ty_XO x w sp sv bu bl le), (ov, .inl (ct 1, 1, .inr (.inl o)))]) (E2 := [(ov, .inl (ct 1, 1, .inr (.inl o))), (ty_XO x w sp sv bu bl le)]) (n := 2) [1, 0] rfl rfl (by decide))
  have hD : va_D A ([(ov, .inl (ct 1, 1, .inr (.inl o))), (ty_XO x w sp sv bu bl le)] ++ ws) := ty_permD hD (ty_ordp (E := [(ty_XO x w sp sv bu bl le), (ov, .inl (ct 1, 1, .inr (.inl o)))]) (E2 := [(ov, .inl (ct 1, 1, .inr (.inl o))), (ty_XO x w sp sv bu bl le)]) (n := 2) [1, 0] rfl rfl (by decide))
  refine ty_xi (wr := [(ov, .inl (ct 1, 1, .inr (.inl o)))]) (wc := ([(ty_XO x w sp sv bu bl le)] ++ ws)) (vx_runV (As := [.int p1, .int p2]) (rest := [.int 0, .ref ov]) ⟨hx, hb, hml, hown, hts⟩ (t_X10_setLimits l hfl D ct S ws ph xx x w sp sv bu ns bl le p1 p2 _ hT h_w h_sp h_sv hph hy1 hy7) (cm_V 2 hts kc_X10_setLimits ki_RX10 kl_RL_21 kv_X10_setLimits kx_X10_setLimits kd_X10_setLimits ⟨Nat.le_of_ble_eq_true rfl, Nat.le_of_ble_eq_true rfl⟩) (ty_preE (wr := [(ov, .inl (ct 1, 1, .inr (.inl o)))]) (wc := ([(ty_XO x w sp sv bu bl le)] ++ ws)) (ci := 10) (q0 := 1) hP hK hD hS hA hX rfl rfl) rfl rfl hl.1 rfl (lv_room (Nat.le_of_ble_eq_true rfl)) dL_setLimits_5 ⟨Nat.le_of_ble_eq_true rfl, Nat.le_of_ble_eq_true rfl⟩) hP hD hS hA (fun E ce q9 u H locs hu hE hP hD hS hce hcv hcl => ?_) (fun r_1 u H locs hw_2 hP hD hS => ?_)
  · obtain ⟨ws_3, rfl⟩ : ∃ z, z = u := ⟨_, rfl⟩
    have hT := hu
    have hP : va_P D vwCl ([(ov, .inl (ct 1, 1, .inr (.inl o))), (ty_XO x w sp sv bu bl le)] ++ ws_3) H := hP
    have hD : va_D A ([(ov, .inl (ct 1, 1, .inr (.inl o))), (ty_XO x w sp sv bu bl le)] ++ ws_3) := hD
    obtain rfl := List.mem_singleton.mp hE
    refine vx_catch (name := "java/lang/IllegalArgumentException") hown [] _ _ htab (fun z hz => absurd hz List.not_mem_nil) (by decide) (by decide) (hts _ kl_RL_13) (hts _ kcast_IAE) hce hcv hcl ?_
    refine W.eq (g2 := F0 m 13 ls [.ref q9]) rfl ?_
    refine lv_astore (lv' := [(4, .ref q9), (0, .ref x), (1, .int p1), (2, .int p2), (3, .ref ov)]) hx hb dL_setLimits_13 hl (by decide) rfl (fun ls hl => ?_)
    refine lv_iconst (v := 1) hx hb dL_setLimits_15 (by decide) ?_
    have hP : va_P D vwCl ([(ty_XO x w sp sv bu bl le), (ov, .inl (ct 1, 1, .inr (.inl o)))] ++ ws_3) H := ty_permP hP (ty_ordp (E := [(ov, .inl (ct 1, 1, .inr (.inl o))), (ty_XO x w sp sv bu bl le)]) (E2 := [(ty_XO x w sp sv bu bl le), (ov, .inl (ct 1, 1, .inr (.inl o)))]) (n := 2) [1, 0] rfl rfl (by decide))
    have hD : va_D A ([(ty_XO x w sp sv bu bl le), (ov, .inl (ct 1, 1, .inr (.inl o)))] ++ ws_3) := ty_permD hD (ty_ordp (E := [(ov, .inl (ct 1, 1, .inr (.inl o))), (ty_XO x w sp sv bu bl le)]) (E2 := [(ty_XO x w sp sv bu bl le), (ov, .inl (ct 1, 1, .inr (.inl o)))]) (n := 2) [1, 0] rfl rfl (by decide))
    exact W.iret (v := 1) hx hb hr (fun t ht hW => ⟨⟨1, (ws_3, o), rfl, hT, by rw [ht]; exact hP, by rw [hAe]; exact hD⟩, hS.F ht⟩) hS.2.2 dL_setLimits_16
  · obtain ⟨ws_4, rfl⟩ : ∃ z, z = u := ⟨_, rfl⟩
    have hT := hw_2
    have hP : va_P D vwCl ([(ov, .inl (ct 1, 1, .inr (.inl o))), (ty_XO x w sp sv bu bl le)] ++ ws_4) H := hP
    have hD : va_D A ([(ov, .inl (ct 1, 1, .inr (.inl o))), (ty_XO x w sp sv bu bl le)] ++ ws_4) := hD
    refine W.widen (k := 2) (n := 12) (Nat.le_of_ble_eq_true rfl) (Nat.le_of_ble_eq_true rfl) ?_
    refine lv_i2l hx hb dL_setLimits_8 rfl ?_
    refine lv_topl (fun x_5 _ => ?_)
    refine va_last hx hb hK hP hD hS 0 1 rfl rfl (cm_vin (by decide)) dL_setLimits_9 (fun H locs hP hD hS => ?_)
    have hP : va_P D vwCl ([(ov, .inl (ct 1, 1, .inr (.inl (vp_updL o (0 : Int32).toNatClampNeg x_5)))), (ty_XO x w sp sv bu bl le)] ++ ws_4) H := hP
    have hD : va_D A ([(ov, .inl (ct 1, 1, .inr (.inl (vp_updL o (0 : Int32).toNatClampNeg x_5)))), (ty_XO x w sp sv bu bl le)] ++ ws_4) := hD
    refine lv_goto (tgt := 17) hx hb dL_setLimits_10 (by decide) ?_
    refine lv_iconst (v := 0) hx hb dL_setLimits_17 (by decide) ?_
    have hP : va_P D vwCl ([(ty_XO x w sp sv bu bl le), (ov, .inl (ct 1, 1, .inr (.inl (vp_updL o (0 : Int32).toNatClampNeg x_5))))] ++ ws_4) H := ty_permP hP (ty_ordp (E := [(ov, .inl (ct 1, 1, .inr (.inl (vp_updL o (0 : Int32).toNatClampNeg x_5)))), (ty_XO x w sp sv bu bl le)]) (E2 := [(ty_XO x w sp sv bu bl le), (ov, .inl (ct 1, 1, .inr (.inl (vp_updL o (0 : Int32).toNatClampNeg x_5))))]) (n := 2) [1, 0] rfl rfl (by decide))
    have hD : va_D A ([(ty_XO x w sp sv bu bl le), (ov, .inl (ct 1, 1, .inr (.inl (vp_updL o (0 : Int32).toNatClampNeg x_5))))] ++ ws_4) := ty_permD hD (ty_ordp (E := [(ov, .inl (ct 1, 1, .inr (.inl (vp_updL o (0 : Int32).toNatClampNeg x_5)))), (ty_XO x w sp sv bu bl le)]) (E2 := [(ty_XO x w sp sv bu bl le), (ov, .inl (ct 1, 1, .inr (.inl (vp_updL o (0 : Int32).toNatClampNeg x_5))))]) (n := 2) [1, 0] rfl rfl (by decide))
    exact W.iret (v := 0) hx hb hr (fun t ht hW => ⟨⟨0, (ws_4, (vp_updL o (0 : Int32).toNatClampNeg x_5)), rfl, hT, by rw [ht]; exact hP, by rw [hAe]; exact hD⟩, hS.F ht⟩) hS.2.2 dL_setLimits_18
theorem dL_setDerate_0 : decode cL_setDerate 0 = .ok (.aload_n 2, 1) := by decide +kernel
theorem dL_setDerate_1 : decode cL_setDerate 1 = .ok (.iconst 0, 1) := by decide +kernel
theorem dL_setDerate_2 : decode cL_setDerate 2 = .ok (.aload_n 0, 1) := by decide +kernel
theorem dL_setDerate_3 : decode cL_setDerate 3 = .ok (.iload_n 1, 1) := by decide +kernel
theorem dL_setDerate_4 : decode cL_setDerate 4 = .ok (.invokevirtual 25, 3) := by decide +kernel
theorem dL_setDerate_7 : decode cL_setDerate 7 = .ok (.i2l, 1) := by decide +kernel
theorem dL_setDerate_8 : decode cL_setDerate 8 = .ok (.lastore, 1) := by decide +kernel
theorem dL_setDerate_9 : decode cL_setDerate 9 = .ok (.goto 6, 3) := by decide +kernel
theorem dL_setDerate_12 : decode cL_setDerate 12 = .ok (.astore_n 3, 1) := by decide +kernel
theorem dL_setDerate_13 : decode cL_setDerate 13 = .ok (.iconst 1, 1) := by decide +kernel
theorem dL_setDerate_14 : decode cL_setDerate 14 = .ok (.ireturn, 1) := by decide +kernel
theorem dL_setDerate_15 : decode cL_setDerate 15 = .ok (.iconst 0, 1) := by decide +kernel
theorem dL_setDerate_16 : decode cL_setDerate 16 = .ok (.ireturn, 1) := by decide +kernel
set_option maxRecDepth 100000 in
set_option maxHeartbeats 4000000 in
theorem tl_setDerate (l : Launch) (hfl : l.stackTraces = false) (D : va_G) (ct : Nat → ClassId) (S : ty_S) (ws : va_W) (ph : va_W → Prop) (xx : Nat → Nat → Nat → Prop) (x : Nat) (w : Nat) (sp : Nat) (sv : Nat) (bu : Nat) (ns : Nat) (bl : Int32) (le : Int32) (p1 : Int32) (ov : Nat) (o : Nat → Int64) (sz : Nat) (hT : ty_V ct S ph ws) (h_w : S w = some (.inl 9)) (h_sp : S sp = some (.inl 9)) (h_sv : S sv = some (.inr (4, ns))) (hph : ty_C ph xx) (hy1 : ty_y1 xx) (hy7 : ty_yc xx 7) (hy11 : ty_y0 xx 11) : Met l yL_setDerate (wsw_ yL_setDerate cL_setDerate 4 (some .int) [(0, 9, 12, 13)]) ({ frames := 8, cells := 1, slots := 6, locals := 134 } : Room) (va_Pc [.ref x, .int p1, .ref ov] (cmPn D ct sz ([(ty_XO x w sp sv bu bl le), (ov, .inl (ct 1, 1, .inr (.inl o)))] ++ ws))) (va_Qi (fun (r : Int32) (u : va_W × (Nat → Int64)) => match u with | (u9, o1) => ty_V ct S ph u9) (cmB D ([(ty_XO x w sp sv bu bl le), (ov, .inl (ct 1, 1, .inr (.inl o)))] ++ ws) sz (fun (u : va_W × (Nat → Int64)) => match u with | (u9, o1) => ([(ty_XO x w sp sv bu bl le), (ov, .inl (ct 1, 1, .inr (.inl o1)))] ++ u9))) (va_A ([(ty_XO x w sp sv bu bl le), (ov, .inl (ct 1, 1, .inr (.inl o)))] ++ ws) sz)) 1 6 (va_A ([(ty_XO x w sp sv bu bl le), (ov, .inl (ct 1, 1, .inr (.inl o)))] ++ ws) sz) := by
  refine va_MetW (cc := cL_setDerate) (maxL := 4) (ret := (some .int)) (hh := [(0, 9, 12, 13)]) (by decide) rfl ?_
  intro p e s m args below meth c s₁ B hml hv
  have hts0 := atoms_spec (ws := wsw_ yL_setDerate cL_setDerate 4 (some .int) [(0, 9, 12, 13)]) B.pre
  have hts : ∀ w ∈ cm_all, w.before args s = true := fun w h => hts0 w (List.mem_cons_of_mem _ h)
  obtain ⟨rfl, ⟨hsz, hP, hK, hD0, hX⟩, hNc⟩ := hv
  have hx := B.exec
  have hb := B.bytes
  have hr := B.returns
  have htab := vx_table (x := yL_setDerate) B (hts0 _ List.mem_cons_self)
  have hown : s.vm.findClass RL = some m.cls := findClass_of_methodNamed B.named
  have hlocks := B.notSynchronized
  subst hsz
  have hD := hD0.self (sz := s.heap.size)
  generalize hAe : va_A ([(ty_XO x w sp sv bu bl le), (ov, .inl (ct 1, 1, .inr (.inl o)))] ++ ws) s.heap.size = A at hD hX ⊢
  have hA : ∀ q : Nat, s.heap.size ≤ q → A q := fun q h => by rw [← hAe]; exact Or.inr h
  have hS : va_S A s.heap s.heap [] := va_S.rf
  have hl := lv_entry ([.ref x, .int p1, .ref ov]) (n := 4) (Nat.le_of_ble_eq_true rfl)
  rw [lg_entry_eq]
  generalize (lg_sl ([.ref x, .int p1, .ref ov]) ++ List.replicate (4 - (lg_sl ([.ref x, .int p1, .ref ov])).length) Slot.unset).toArray = ls at hl ⊢
  have hl : lv_has ls 4 [(0, .ref x), (1, .int p1), (2, .ref ov)] := hl
  refine lv_aload_n hx hb dL_setDerate_0 rfl (lv_at hl 2 rfl) ?_
  refine lv_iconst (v := 0) hx hb dL_setDerate_1 (by decide) ?_
  refine lv_aload_n hx hb dL_setDerate_2 rfl (lv_at hl 0 rfl) ?_
  refine lv_iload_n hx hb dL_setDerate_3 rfl (lv_at hl 1 rfl) ?_
  have hP : va_P D vwCl ([(ov, .inl (ct 1, 1, .inr (.inl o))), (ty_XO x w sp sv bu bl le)] ++ ws) s.heap := ty_permP hP (ty_ordp (E := [(ty_XO x w sp sv bu bl le), (ov, .inl (ct 1, 1, .inr (.inl o)))]) (E2 := [(ov, .inl (ct 1, 1, .inr (.inl o))), (ty_XO x w sp sv bu bl le)]) (n := 2) [1, 0] rfl rfl (by decide))
  have hD : va_D A ([(ov, .inl (ct 1, 1, .inr (.inl o))), (ty_XO x w sp sv bu bl le)] ++ ws) := ty_permD hD (ty_ordp (E := [(ty_XO x w sp sv bu bl le), (ov, .inl (ct 1, 1, .inr (.inl o)))]) (E2 := [(ov, .inl (ct 1, 1, .inr (.inl o))), (ty_XO x w sp sv bu bl le)]) (n := 2) [1, 0] rfl rfl (by decide))
  refine ty_xi (wr := [(ov, .inl (ct 1, 1, .inr (.inl o)))]) (wc := ([(ty_XO x w sp sv bu bl le)] ++ ws)) (vx_runV (As := [.int p1]) (rest := [.int 0, .ref ov]) ⟨hx, hb, hml, hown, hts⟩ (t_X10_setDerate l hfl D ct S ws ph xx x w sp sv bu ns bl le p1 _ hT h_w h_sp h_sv hph hy1 hy7) (cm_V 1 hts kc_X10_setDerate ki_RX10 kl_RL_25 kv_X10_setDerate kx_X10_setDerate kd_X10_setDerate ⟨Nat.le_of_ble_eq_true rfl, Nat.le_of_ble_eq_true rfl⟩) (ty_preE (wr := [(ov, .inl (ct 1, 1, .inr (.inl o)))]) (wc := ([(ty_XO x w sp sv bu bl le)] ++ ws)) (ci := 10) (q0 := 1) hP hK hD hS hA hX rfl rfl) rfl rfl hl.1 rfl (lv_room (Nat.le_of_ble_eq_true rfl)) dL_setDerate_4 ⟨Nat.le_of_ble_eq_true rfl, Nat.le_of_ble_eq_true rfl⟩) hP hD hS hA (fun E ce q9 u H locs hu hE hP hD hS hce hcv hcl => ?_) (fun r_1 u H locs hw_2 hP hD hS => ?_)
  · obtain ⟨ws_3, rfl⟩ : ∃ z, z = u := ⟨_, rfl⟩
    have hT := hu
    have hP : va_P D vwCl ([(ov, .inl (ct 1, 1, .inr (.inl o))), (ty_XO x w sp sv bu bl le)] ++ ws_3) H := hP
    have hD : va_D A ([(ov, .inl (ct 1, 1, .inr (.inl o))), (ty_XO x w sp sv bu bl le)] ++ ws_3) := hD
    obtain rfl := List.mem_singleton.mp hE
    refine vx_catch (name := "java/lang/IllegalArgumentException") hown [] _ _ htab (fun z hz => absurd hz List.not_mem_nil) (by decide) (by decide) (hts _ kl_RL_13) (hts _ kcast_IAE) hce hcv hcl ?_
    refine W.eq (g2 := F0 m 12 ls [.ref q9]) rfl ?_
    refine lv_astore_n (lv' := [(3, .ref q9), (0, .ref x), (1, .int p1), (2, .ref ov)]) hx hb dL_setDerate_12 rfl hl (by decide) rfl (fun ls hl => ?_)
    refine lv_iconst (v := 1) hx hb dL_setDerate_13 (by decide) ?_
    have hP : va_P D vwCl ([(ty_XO x w sp sv bu bl le), (ov, .inl (ct 1, 1, .inr (.inl o)))] ++ ws_3) H := ty_permP hP (ty_ordp (E := [(ov, .inl (ct 1, 1, .inr (.inl o))), (ty_XO x w sp sv bu bl le)]) (E2 := [(ty_XO x w sp sv bu bl le), (ov, .inl (ct 1, 1, .inr (.inl o)))]) (n := 2) [1, 0] rfl rfl (by decide))
    have hD : va_D A ([(ty_XO x w sp sv bu bl le), (ov, .inl (ct 1, 1, .inr (.inl o)))] ++ ws_3) := ty_permD hD (ty_ordp (E := [(ov, .inl (ct 1, 1, .inr (.inl o))), (ty_XO x w sp sv bu bl le)]) (E2 := [(ty_XO x w sp sv bu bl le), (ov, .inl (ct 1, 1, .inr (.inl o)))]) (n := 2) [1, 0] rfl rfl (by decide))
    exact W.iret (v := 1) hx hb hr (fun t ht hW => ⟨⟨1, (ws_3, o), rfl, hT, by rw [ht]; exact hP, by rw [hAe]; exact hD⟩, hS.F ht⟩) hS.2.2 dL_setDerate_14
  · obtain ⟨ws_4, rfl⟩ : ∃ z, z = u := ⟨_, rfl⟩
    have hT := hw_2
    have hP : va_P D vwCl ([(ov, .inl (ct 1, 1, .inr (.inl o))), (ty_XO x w sp sv bu bl le)] ++ ws_4) H := hP
    have hD : va_D A ([(ov, .inl (ct 1, 1, .inr (.inl o))), (ty_XO x w sp sv bu bl le)] ++ ws_4) := hD
    refine W.widen (k := 1) (n := 6) (Nat.le_of_ble_eq_true rfl) (Nat.le_of_ble_eq_true rfl) ?_
    refine lv_i2l hx hb dL_setDerate_7 rfl ?_
    refine lv_topl (fun x_5 _ => ?_)
    refine va_last hx hb hK hP hD hS 0 1 rfl rfl (cm_vin (by decide)) dL_setDerate_8 (fun H locs hP hD hS => ?_)
    have hP : va_P D vwCl ([(ov, .inl (ct 1, 1, .inr (.inl (vp_updL o (0 : Int32).toNatClampNeg x_5)))), (ty_XO x w sp sv bu bl le)] ++ ws_4) H := hP
    have hD : va_D A ([(ov, .inl (ct 1, 1, .inr (.inl (vp_updL o (0 : Int32).toNatClampNeg x_5)))), (ty_XO x w sp sv bu bl le)] ++ ws_4) := hD
    refine lv_goto (tgt := 15) hx hb dL_setDerate_9 (by decide) ?_
    refine lv_iconst (v := 0) hx hb dL_setDerate_15 (by decide) ?_
    have hP : va_P D vwCl ([(ty_XO x w sp sv bu bl le), (ov, .inl (ct 1, 1, .inr (.inl (vp_updL o (0 : Int32).toNatClampNeg x_5))))] ++ ws_4) H := ty_permP hP (ty_ordp (E := [(ov, .inl (ct 1, 1, .inr (.inl (vp_updL o (0 : Int32).toNatClampNeg x_5)))), (ty_XO x w sp sv bu bl le)]) (E2 := [(ty_XO x w sp sv bu bl le), (ov, .inl (ct 1, 1, .inr (.inl (vp_updL o (0 : Int32).toNatClampNeg x_5))))]) (n := 2) [1, 0] rfl rfl (by decide))
    have hD : va_D A ([(ty_XO x w sp sv bu bl le), (ov, .inl (ct 1, 1, .inr (.inl (vp_updL o (0 : Int32).toNatClampNeg x_5))))] ++ ws_4) := ty_permD hD (ty_ordp (E := [(ov, .inl (ct 1, 1, .inr (.inl (vp_updL o (0 : Int32).toNatClampNeg x_5)))), (ty_XO x w sp sv bu bl le)]) (E2 := [(ty_XO x w sp sv bu bl le), (ov, .inl (ct 1, 1, .inr (.inl (vp_updL o (0 : Int32).toNatClampNeg x_5))))]) (n := 2) [1, 0] rfl rfl (by decide))
    exact W.iret (v := 0) hx hb hr (fun t ht hW => ⟨⟨0, (ws_4, (vp_updL o (0 : Int32).toNatClampNeg x_5)), rfl, hT, by rw [ht]; exact hP, by rw [hAe]; exact hD⟩, hS.F ht⟩) hS.2.2 dL_setDerate_16
theorem dL_stepValue_0 : decode cL_stepValue 0 = .ok (.aload 4, 2) := by decide +kernel
theorem dL_stepValue_2 : decode cL_stepValue 2 = .ok (.iconst 0, 1) := by decide +kernel
theorem dL_stepValue_3 : decode cL_stepValue 3 = .ok (.aload_n 0, 1) := by decide +kernel
theorem dL_stepValue_4 : decode cL_stepValue 4 = .ok (.iload_n 1, 1) := by decide +kernel
theorem dL_stepValue_5 : decode cL_stepValue 5 = .ok (.iload_n 2, 1) := by decide +kernel
theorem dL_stepValue_6 : decode cL_stepValue 6 = .ok (.iload_n 3, 1) := by decide +kernel
theorem dL_stepValue_7 : decode cL_stepValue 7 = .ok (.invokevirtual 28, 3) := by decide +kernel
theorem dL_stepValue_10 : decode cL_stepValue 10 = .ok (.i2l, 1) := by decide +kernel
theorem dL_stepValue_11 : decode cL_stepValue 11 = .ok (.lastore, 1) := by decide +kernel
theorem dL_stepValue_12 : decode cL_stepValue 12 = .ok (.goto 11, 3) := by decide +kernel
theorem dL_stepValue_15 : decode cL_stepValue 15 = .ok (.astore 5, 2) := by decide +kernel
theorem dL_stepValue_17 : decode cL_stepValue 17 = .ok (.iconst 1, 1) := by decide +kernel
theorem dL_stepValue_18 : decode cL_stepValue 18 = .ok (.ireturn, 1) := by decide +kernel
theorem dL_stepValue_19 : decode cL_stepValue 19 = .ok (.astore 5, 2) := by decide +kernel
theorem dL_stepValue_21 : decode cL_stepValue 21 = .ok (.iconst 2, 1) := by decide +kernel
theorem dL_stepValue_22 : decode cL_stepValue 22 = .ok (.ireturn, 1) := by decide +kernel
theorem dL_stepValue_23 : decode cL_stepValue 23 = .ok (.iconst 0, 1) := by decide +kernel
theorem dL_stepValue_24 : decode cL_stepValue 24 = .ok (.ireturn, 1) := by decide +kernel
set_option maxRecDepth 100000 in
set_option maxHeartbeats 4000000 in
theorem tl_stepValue (l : Launch) (hfl : l.stackTraces = false) (D : va_G) (ct : Nat → ClassId) (S : ty_S) (ws : va_W) (ph : va_W → Prop) (xx : Nat → Nat → Nat → Prop) (x : Nat) (w : Nat) (sp : Nat) (sv : Nat) (bu : Nat) (ns : Nat) (bl : Int32) (le : Int32) (p1 : Int32) (p2 : Int32) (p3 : Int32) (ov : Nat) (o : Nat → Int64) (sz : Nat) (hT : ty_V ct S ph ws) (h_w : S w = some (.inl 9)) (h_sp : S sp = some (.inl 9)) (h_sv : S sv = some (.inr (4, ns))) (hph : ty_C ph xx) (hy1 : ty_y1 xx) (hy11 : ty_y0 xx 11) : Met l yL_stepValue (wsw_ yL_stepValue cL_stepValue 6 (some .int) [(0, 12, 15, 32), (0, 12, 19, 13)]) ({ frames := 8, cells := 2, slots := 12, locals := 135 } : Room) (va_Pc [.ref x, .int p1, .int p2, .int p3, .ref ov] (cmPn D ct sz ([(ty_XO x w sp sv bu bl le), (ov, .inl (ct 1, 1, .inr (.inl o)))] ++ ws))) (va_Qi (fun (r : Int32) (u : va_W × (Nat → Int64)) => match u with | (u9, o1) => ty_V ct S ph u9) (cmB D ([(ty_XO x w sp sv bu bl le), (ov, .inl (ct 1, 1, .inr (.inl o)))] ++ ws) sz (fun (u : va_W × (Nat → Int64)) => match u with | (u9, o1) => ([(ty_XO x w sp sv bu bl le), (ov, .inl (ct 1, 1, .inr (.inl o1)))] ++ u9))) (va_A ([(ty_XO x w sp sv bu bl le), (ov, .inl (ct 1, 1, .inr (.inl o)))] ++ ws) sz)) 2 12 (va_A ([(ty_XO x w sp sv bu bl le), (ov, .inl (ct 1, 1, .inr (.inl o)))] ++ ws) sz) := by
  refine va_MetW (cc := cL_stepValue) (maxL := 6) (ret := (some .int)) (hh := [(0, 12, 15, 32), (0, 12, 19, 13)]) (by decide) rfl ?_
  intro p e s m args below meth c s₁ B hml hv
  have hts0 := atoms_spec (ws := wsw_ yL_stepValue cL_stepValue 6 (some .int) [(0, 12, 15, 32), (0, 12, 19, 13)]) B.pre
  have hts : ∀ w ∈ cm_all, w.before args s = true := fun w h => hts0 w (List.mem_cons_of_mem _ h)
  obtain ⟨rfl, ⟨hsz, hP, hK, hD0, hX⟩, hNc⟩ := hv
  have hx := B.exec
  have hb := B.bytes
  have hr := B.returns
  have htab := vx_table (x := yL_stepValue) B (hts0 _ List.mem_cons_self)
  have hown : s.vm.findClass RL = some m.cls := findClass_of_methodNamed B.named
  have hlocks := B.notSynchronized
  subst hsz
  have hD := hD0.self (sz := s.heap.size)
  generalize hAe : va_A ([(ty_XO x w sp sv bu bl le), (ov, .inl (ct 1, 1, .inr (.inl o)))] ++ ws) s.heap.size = A at hD hX ⊢
  have hA : ∀ q : Nat, s.heap.size ≤ q → A q := fun q h => by rw [← hAe]; exact Or.inr h
  have hS : va_S A s.heap s.heap [] := va_S.rf
  have hl := lv_entry ([.ref x, .int p1, .int p2, .int p3, .ref ov]) (n := 6) (Nat.le_of_ble_eq_true rfl)
  rw [lg_entry_eq]
  generalize (lg_sl ([.ref x, .int p1, .int p2, .int p3, .ref ov]) ++ List.replicate (6 - (lg_sl ([.ref x, .int p1, .int p2, .int p3, .ref ov])).length) Slot.unset).toArray = ls at hl ⊢
  have hl : lv_has ls 6 [(0, .ref x), (1, .int p1), (2, .int p2), (3, .int p3), (4, .ref ov)] := hl
  refine lv_aload hx hb dL_stepValue_0 (lv_at hl 4 rfl) ?_
  refine lv_iconst (v := 0) hx hb dL_stepValue_2 (by decide) ?_
  refine lv_aload_n hx hb dL_stepValue_3 rfl (lv_at hl 0 rfl) ?_
  refine lv_iload_n hx hb dL_stepValue_4 rfl (lv_at hl 1 rfl) ?_
  refine lv_iload_n hx hb dL_stepValue_5 rfl (lv_at hl 2 rfl) ?_
  refine lv_iload_n hx hb dL_stepValue_6 rfl (lv_at hl 3 rfl) ?_
  have hP : va_P D vwCl ([(ov, .inl (ct 1, 1, .inr (.inl o))), (ty_XO x w sp sv bu bl le)] ++ ws) s.heap := ty_permP hP (ty_ordp (E := [(ty_XO x w sp sv bu bl le), (ov, .inl (ct 1, 1, .inr (.inl o)))]) (E2 := [(ov, .inl (ct 1, 1, .inr (.inl o))), (ty_XO x w sp sv bu bl le)]) (n := 2) [1, 0] rfl rfl (by decide))
  have hD : va_D A ([(ov, .inl (ct 1, 1, .inr (.inl o))), (ty_XO x w sp sv bu bl le)] ++ ws) := ty_permD hD (ty_ordp (E := [(ty_XO x w sp sv bu bl le), (ov, .inl (ct 1, 1, .inr (.inl o)))]) (E2 := [(ov, .inl (ct 1, 1, .inr (.inl o))), (ty_XO x w sp sv bu bl le)]) (n := 2) [1, 0] rfl rfl (by decide))
  refine ty_xi (wr := [(ov, .inl (ct 1, 1, .inr (.inl o)))]) (wc := ([(ty_XO x w sp sv bu bl le)] ++ ws)) (vx_runV (As := [.int p1, .int p2, .int p3]) (rest := [.int 0, .ref ov]) ⟨hx, hb, hml, hown, hts⟩ (t_X10_stepValue l hfl D ct S ws ph xx x w sp sv bu ns bl le p1 p2 p3 _ hT h_w h_sp h_sv hph hy1) (cm_V 3 hts kc_X10_stepValue ki_RX10 kl_RL_28 kv_X10_stepValue kx_X10_stepValue kd_X10_stepValue ⟨Nat.le_of_ble_eq_true rfl, Nat.le_of_ble_eq_true rfl⟩) (ty_preE (wr := [(ov, .inl (ct 1, 1, .inr (.inl o)))]) (wc := ([(ty_XO x w sp sv bu bl le)] ++ ws)) (ci := 10) (q0 := 1) hP hK hD hS hA hX rfl rfl) rfl rfl hl.1 rfl (lv_room (Nat.le_of_ble_eq_true rfl)) dL_stepValue_7 ⟨Nat.le_of_ble_eq_true rfl, Nat.le_of_ble_eq_true rfl⟩) hP hD hS hA (fun E ce q9 u H locs hu hE hP hD hS hce hcv hcl => ?_) (fun r_1 u H locs hw_2 hP hD hS => ?_)
  · obtain ⟨ws_3, rfl⟩ : ∃ z, z = u := ⟨_, rfl⟩
    have hT := hu
    have hP : va_P D vwCl ([(ov, .inl (ct 1, 1, .inr (.inl o))), (ty_XO x w sp sv bu bl le)] ++ ws_3) H := hP
    have hD : va_D A ([(ov, .inl (ct 1, 1, .inr (.inl o))), (ty_XO x w sp sv bu bl le)] ++ ws_3) := hD
    rcases List.mem_cons.mp hE with rfl | hE
    · refine vx_catch (name := "java/lang/IllegalArgumentException") hown [_] _ _ htab (fun z hz => by obtain rfl := List.mem_singleton.mp hz; exact Or.inr ⟨by decide, _, hts _ kl_RL_32, hNc⟩) (by decide) (by decide) (hts _ kl_RL_13) (hts _ kcast_IAE) hce hcv hcl ?_
      refine W.eq (g2 := F0 m 19 ls [.ref q9]) rfl ?_
      refine lv_astore (lv' := [(5, .ref q9), (0, .ref x), (1, .int p1), (2, .int p2), (3, .int p3), (4, .ref ov)]) hx hb dL_stepValue_19 hl (by decide) rfl (fun ls hl => ?_)
      refine lv_iconst (v := 2) hx hb dL_stepValue_21 (by decide) ?_
      have hP : va_P D vwCl ([(ty_XO x w sp sv bu bl le), (ov, .inl (ct 1, 1, .inr (.inl o)))] ++ ws_3) H := ty_permP hP (ty_ordp (E := [(ov, .inl (ct 1, 1, .inr (.inl o))), (ty_XO x w sp sv bu bl le)]) (E2 := [(ty_XO x w sp sv bu bl le), (ov, .inl (ct 1, 1, .inr (.inl o)))]) (n := 2) [1, 0] rfl rfl (by decide))
      have hD : va_D A ([(ty_XO x w sp sv bu bl le), (ov, .inl (ct 1, 1, .inr (.inl o)))] ++ ws_3) := ty_permD hD (ty_ordp (E := [(ov, .inl (ct 1, 1, .inr (.inl o))), (ty_XO x w sp sv bu bl le)]) (E2 := [(ty_XO x w sp sv bu bl le), (ov, .inl (ct 1, 1, .inr (.inl o)))]) (n := 2) [1, 0] rfl rfl (by decide))
      exact W.iret (v := 2) hx hb hr (fun t ht hW => ⟨⟨2, (ws_3, o), rfl, hT, by rw [ht]; exact hP, by rw [hAe]; exact hD⟩, hS.F ht⟩) hS.2.2 dL_stepValue_22
    · obtain rfl := List.mem_singleton.mp hE
      refine vx_catch (name := "java/lang/IndexOutOfBoundsException") hown [] _ _ htab (fun z hz => absurd hz List.not_mem_nil) (by decide) (by decide) (hts _ kl_RL_32) (hts _ kcast_IOE) hce hcv hcl ?_
      refine W.eq (g2 := F0 m 15 ls [.ref q9]) rfl ?_
      refine lv_astore (lv' := [(5, .ref q9), (0, .ref x), (1, .int p1), (2, .int p2), (3, .int p3), (4, .ref ov)]) hx hb dL_stepValue_15 hl (by decide) rfl (fun ls hl => ?_)
      refine lv_iconst (v := 1) hx hb dL_stepValue_17 (by decide) ?_
      have hP : va_P D vwCl ([(ty_XO x w sp sv bu bl le), (ov, .inl (ct 1, 1, .inr (.inl o)))] ++ ws_3) H := ty_permP hP (ty_ordp (E := [(ov, .inl (ct 1, 1, .inr (.inl o))), (ty_XO x w sp sv bu bl le)]) (E2 := [(ty_XO x w sp sv bu bl le), (ov, .inl (ct 1, 1, .inr (.inl o)))]) (n := 2) [1, 0] rfl rfl (by decide))
      have hD : va_D A ([(ty_XO x w sp sv bu bl le), (ov, .inl (ct 1, 1, .inr (.inl o)))] ++ ws_3) := ty_permD hD (ty_ordp (E := [(ov, .inl (ct 1, 1, .inr (.inl o))), (ty_XO x w sp sv bu bl le)]) (E2 := [(ty_XO x w sp sv bu bl le), (ov, .inl (ct 1, 1, .inr (.inl o)))]) (n := 2) [1, 0] rfl rfl (by decide))
      exact W.iret (v := 1) hx hb hr (fun t ht hW => ⟨⟨1, (ws_3, o), rfl, hT, by rw [ht]; exact hP, by rw [hAe]; exact hD⟩, hS.F ht⟩) hS.2.2 dL_stepValue_18
  · obtain ⟨ws_4, rfl⟩ : ∃ z, z = u := ⟨_, rfl⟩
    have hT := hw_2
    have hP : va_P D vwCl ([(ov, .inl (ct 1, 1, .inr (.inl o))), (ty_XO x w sp sv bu bl le)] ++ ws_4) H := hP
    have hD : va_D A ([(ov, .inl (ct 1, 1, .inr (.inl o))), (ty_XO x w sp sv bu bl le)] ++ ws_4) := hD
    refine W.widen (k := 2) (n := 12) (Nat.le_of_ble_eq_true rfl) (Nat.le_of_ble_eq_true rfl) ?_
    refine lv_i2l hx hb dL_stepValue_10 rfl ?_
    refine lv_topl (fun x_5 _ => ?_)
    refine va_last hx hb hK hP hD hS 0 1 rfl rfl (cm_vin (by decide)) dL_stepValue_11 (fun H locs hP hD hS => ?_)
    have hP : va_P D vwCl ([(ov, .inl (ct 1, 1, .inr (.inl (vp_updL o (0 : Int32).toNatClampNeg x_5)))), (ty_XO x w sp sv bu bl le)] ++ ws_4) H := hP
    have hD : va_D A ([(ov, .inl (ct 1, 1, .inr (.inl (vp_updL o (0 : Int32).toNatClampNeg x_5)))), (ty_XO x w sp sv bu bl le)] ++ ws_4) := hD
    refine lv_goto (tgt := 23) hx hb dL_stepValue_12 (by decide) ?_
    refine lv_iconst (v := 0) hx hb dL_stepValue_23 (by decide) ?_
    have hP : va_P D vwCl ([(ty_XO x w sp sv bu bl le), (ov, .inl (ct 1, 1, .inr (.inl (vp_updL o (0 : Int32).toNatClampNeg x_5))))] ++ ws_4) H := ty_permP hP (ty_ordp (E := [(ov, .inl (ct 1, 1, .inr (.inl (vp_updL o (0 : Int32).toNatClampNeg x_5)))), (ty_XO x w sp sv bu bl le)]) (E2 := [(ty_XO x w sp sv bu bl le), (ov, .inl (ct 1, 1, .inr (.inl (vp_updL o (0 : Int32).toNatClampNeg x_5))))]) (n := 2) [1, 0] rfl rfl (by decide))
    have hD : va_D A ([(ty_XO x w sp sv bu bl le), (ov, .inl (ct 1, 1, .inr (.inl (vp_updL o (0 : Int32).toNatClampNeg x_5))))] ++ ws_4) := ty_permD hD (ty_ordp (E := [(ov, .inl (ct 1, 1, .inr (.inl (vp_updL o (0 : Int32).toNatClampNeg x_5)))), (ty_XO x w sp sv bu bl le)]) (E2 := [(ty_XO x w sp sv bu bl le), (ov, .inl (ct 1, 1, .inr (.inl (vp_updL o (0 : Int32).toNatClampNeg x_5))))]) (n := 2) [1, 0] rfl rfl (by decide))
    exact W.iret (v := 0) hx hb hr (fun t ht hW => ⟨⟨0, (ws_4, (vp_updL o (0 : Int32).toNatClampNeg x_5)), rfl, hT, by rw [ht]; exact hP, by rw [hAe]; exact hD⟩, hS.F ht⟩) hS.2.2 dL_stepValue_24
theorem dL_advance_0 : decode cL_advance 0 = .ok (.aload_n 2, 1) := by decide +kernel
theorem dL_advance_1 : decode cL_advance 1 = .ok (.iconst 0, 1) := by decide +kernel
theorem dL_advance_2 : decode cL_advance 2 = .ok (.aload_n 0, 1) := by decide +kernel
theorem dL_advance_3 : decode cL_advance 3 = .ok (.iload_n 1, 1) := by decide +kernel
theorem dL_advance_4 : decode cL_advance 4 = .ok (.invokevirtual 34, 3) := by decide +kernel
theorem dL_advance_7 : decode cL_advance 7 = .ok (.i2l, 1) := by decide +kernel
theorem dL_advance_8 : decode cL_advance 8 = .ok (.lastore, 1) := by decide +kernel
theorem dL_advance_9 : decode cL_advance 9 = .ok (.goto 6, 3) := by decide +kernel
theorem dL_advance_12 : decode cL_advance 12 = .ok (.astore_n 3, 1) := by decide +kernel
theorem dL_advance_13 : decode cL_advance 13 = .ok (.iconst 1, 1) := by decide +kernel
theorem dL_advance_14 : decode cL_advance 14 = .ok (.ireturn, 1) := by decide +kernel
theorem dL_advance_15 : decode cL_advance 15 = .ok (.iconst 0, 1) := by decide +kernel
theorem dL_advance_16 : decode cL_advance 16 = .ok (.ireturn, 1) := by decide +kernel
set_option maxRecDepth 100000 in
set_option maxHeartbeats 4000000 in
theorem tl_advance (l : Launch) (hfl : l.stackTraces = false) (D : va_G) (ct : Nat → ClassId) (S : ty_S) (ws : va_W) (x : Nat) (w : Nat) (sp : Nat) (sv : Nat) (bu : Nat) (bl : Int32) (le : Int32) (p1 : Int32) (ov : Nat) (o : Nat → Int64) (v0 : Option Nat) (v1 : Option Nat) (tt : Int32) (τ0 : Int32) (τ1 : Int32) (cu : Nat) (na : Nat) (pr : Nat) (ch : Nat) (sz : Nat) (hT : ty_V ct S (rp_L w sp sv cu na pr ch v0 v1 tt τ0 τ1) ws) (h_w : S w = some (.inl 9)) (h_sp : S sp = some (.inl 9)) (h_sv : S sv = some (.inr (4, 2))) (h_ch : S ch = some (.inr (3, 6))) (hsd : rp_sd w sp v0 v1) : Met l yL_advance (wsw_ yL_advance cL_advance 4 (some .int) [(0, 9, 12, 13)]) ({ frames := 8, cells := 1, slots := 6, locals := 146 } : Room) (va_Pc [.ref x, .int p1, .ref ov] (cmPn D ct sz ([(ty_XO x w sp sv bu bl le), (ov, .inl (ct 1, 1, .inr (.inl o)))] ++ ws))) (va_Qi (fun (r : Int32) (u : va_W × (Nat → Int64)) => match u with | (u9, o1) => ty_V ct S (rp_L w sp sv cu na pr ch v0 v1 (rp_av tt p1) τ0 τ1) u9) (cmB D ([(ty_XO x w sp sv bu bl le), (ov, .inl (ct 1, 1, .inr (.inl o)))] ++ ws) sz (fun (u : va_W × (Nat → Int64)) => match u with | (u9, o1) => ([(ty_XO x w sp sv bu bl le), (ov, .inl (ct 1, 1, .inr (.inl o1)))] ++ u9))) (va_A ([(ty_XO x w sp sv bu bl le), (ov, .inl (ct 1, 1, .inr (.inl o)))] ++ ws) sz)) 1 6 (va_A ([(ty_XO x w sp sv bu bl le), (ov, .inl (ct 1, 1, .inr (.inl o)))] ++ ws) sz) := by
  refine va_MetW (cc := cL_advance) (maxL := 4) (ret := (some .int)) (hh := [(0, 9, 12, 13)]) (by decide) rfl ?_
  intro p e s m args below meth c s₁ B hml hv
  have hts0 := atoms_spec (ws := wsw_ yL_advance cL_advance 4 (some .int) [(0, 9, 12, 13)]) B.pre
  have hts : ∀ w ∈ cm_all, w.before args s = true := fun w h => hts0 w (List.mem_cons_of_mem _ h)
  obtain ⟨rfl, ⟨hsz, hP, hK, hD0, hX⟩, hNc⟩ := hv
  have hx := B.exec
  have hb := B.bytes
  have hr := B.returns
  have htab := vx_table (x := yL_advance) B (hts0 _ List.mem_cons_self)
  have hown : s.vm.findClass RL = some m.cls := findClass_of_methodNamed B.named
  have hlocks := B.notSynchronized
  subst hsz
  have hD := hD0.self (sz := s.heap.size)
  generalize hAe : va_A ([(ty_XO x w sp sv bu bl le), (ov, .inl (ct 1, 1, .inr (.inl o)))] ++ ws) s.heap.size = A at hD hX ⊢
  have hA : ∀ q : Nat, s.heap.size ≤ q → A q := fun q h => by rw [← hAe]; exact Or.inr h
  have hS : va_S A s.heap s.heap [] := va_S.rf
  have hl := lv_entry ([.ref x, .int p1, .ref ov]) (n := 4) (Nat.le_of_ble_eq_true rfl)
  rw [lg_entry_eq]
  generalize (lg_sl ([.ref x, .int p1, .ref ov]) ++ List.replicate (4 - (lg_sl ([.ref x, .int p1, .ref ov])).length) Slot.unset).toArray = ls at hl ⊢
  have hl : lv_has ls 4 [(0, .ref x), (1, .int p1), (2, .ref ov)] := hl
  refine lv_aload_n hx hb dL_advance_0 rfl (lv_at hl 2 rfl) ?_
  refine lv_iconst (v := 0) hx hb dL_advance_1 (by decide) ?_
  refine lv_aload_n hx hb dL_advance_2 rfl (lv_at hl 0 rfl) ?_
  refine lv_iload_n hx hb dL_advance_3 rfl (lv_at hl 1 rfl) ?_
  have hP : va_P D vwCl ([(ov, .inl (ct 1, 1, .inr (.inl o))), (ty_XO x w sp sv bu bl le)] ++ ws) s.heap := ty_permP hP (ty_ordp (E := [(ty_XO x w sp sv bu bl le), (ov, .inl (ct 1, 1, .inr (.inl o)))]) (E2 := [(ov, .inl (ct 1, 1, .inr (.inl o))), (ty_XO x w sp sv bu bl le)]) (n := 2) [1, 0] rfl rfl (by decide))
  have hD : va_D A ([(ov, .inl (ct 1, 1, .inr (.inl o))), (ty_XO x w sp sv bu bl le)] ++ ws) := ty_permD hD (ty_ordp (E := [(ty_XO x w sp sv bu bl le), (ov, .inl (ct 1, 1, .inr (.inl o)))]) (E2 := [(ov, .inl (ct 1, 1, .inr (.inl o))), (ty_XO x w sp sv bu bl le)]) (n := 2) [1, 0] rfl rfl (by decide))
  refine ty_xi (wr := [(ov, .inl (ct 1, 1, .inr (.inl o)))]) (wc := ([(ty_XO x w sp sv bu bl le)] ++ ws)) (vx_runV (As := [.int p1]) (rest := [.int 0, .ref ov]) ⟨hx, hb, hml, hown, hts⟩ (r_advance l hfl D ct S ws x w sp sv bu bl le v0 v1 tt τ0 τ1 cu na pr ch p1 _ hT h_w hsd) (cm_V 1 hts kc_X10_advance ki_RX10 kl_RL_34 kv_X10_advance kx_X10_advance kd_X10_advance ⟨Nat.le_of_ble_eq_true rfl, Nat.le_of_ble_eq_true rfl⟩) (ty_preE (wr := [(ov, .inl (ct 1, 1, .inr (.inl o)))]) (wc := ([(ty_XO x w sp sv bu bl le)] ++ ws)) (ci := 10) (q0 := 1) hP hK hD hS hA hX rfl rfl) rfl rfl hl.1 rfl (lv_room (Nat.le_of_ble_eq_true rfl)) dL_advance_4 ⟨Nat.le_of_ble_eq_true rfl, Nat.le_of_ble_eq_true rfl⟩) hP hD hS hA (fun E ce q9 u H locs hu hE hP hD hS hce hcv hcl => ?_) (fun r_1 u H locs hw_2 hP hD hS => ?_)
  · obtain ⟨ws_3, rfl⟩ : ∃ z, z = u := ⟨_, rfl⟩
    obtain ⟨hT, hxp⟩ := hu
    have hP : va_P D vwCl ([(ov, .inl (ct 1, 1, .inr (.inl o))), (ty_XO x w sp sv bu bl le)] ++ ws_3) H := hP
    have hD : va_D A ([(ov, .inl (ct 1, 1, .inr (.inl o))), (ty_XO x w sp sv bu bl le)] ++ ws_3) := hD
    obtain rfl := List.mem_singleton.mp hE
    refine vx_catch (name := "java/lang/IllegalArgumentException") hown [] _ _ htab (fun z hz => absurd hz List.not_mem_nil) (by decide) (by decide) (hts _ kl_RL_13) (hts _ kcast_IAE) hce hcv hcl ?_
    refine W.eq (g2 := F0 m 12 ls [.ref q9]) rfl ?_
    refine lv_astore_n (lv' := [(3, .ref q9), (0, .ref x), (1, .int p1), (2, .ref ov)]) hx hb dL_advance_12 rfl hl (by decide) rfl (fun ls hl => ?_)
    refine lv_iconst (v := 1) hx hb dL_advance_13 (by decide) ?_
    have hTf_4 : ty_V ct S (rp_L w sp sv cu na pr ch v0 v1 (rp_av tt p1) τ0 τ1) ws_3 := by rw [rp_avX hxp]; exact hT
    have hP : va_P D vwCl ([(ty_XO x w sp sv bu bl le), (ov, .inl (ct 1, 1, .inr (.inl o)))] ++ ws_3) H := ty_permP hP (ty_ordp (E := [(ov, .inl (ct 1, 1, .inr (.inl o))), (ty_XO x w sp sv bu bl le)]) (E2 := [(ty_XO x w sp sv bu bl le), (ov, .inl (ct 1, 1, .inr (.inl o)))]) (n := 2) [1, 0] rfl rfl (by decide))
    have hD : va_D A ([(ty_XO x w sp sv bu bl le), (ov, .inl (ct 1, 1, .inr (.inl o)))] ++ ws_3) := ty_permD hD (ty_ordp (E := [(ov, .inl (ct 1, 1, .inr (.inl o))), (ty_XO x w sp sv bu bl le)]) (E2 := [(ty_XO x w sp sv bu bl le), (ov, .inl (ct 1, 1, .inr (.inl o)))]) (n := 2) [1, 0] rfl rfl (by decide))
    exact W.iret (v := 1) hx hb hr (fun t ht hW => ⟨⟨1, (ws_3, o), rfl, hTf_4, by rw [ht]; exact hP, by rw [hAe]; exact hD⟩, hS.F ht⟩) hS.2.2 dL_advance_14
  · obtain ⟨ws_5, rfl⟩ : ∃ z, z = u := ⟨_, rfl⟩
    have hT := hw_2
    have hP : va_P D vwCl ([(ov, .inl (ct 1, 1, .inr (.inl o))), (ty_XO x w sp sv bu bl le)] ++ ws_5) H := hP
    have hD : va_D A ([(ov, .inl (ct 1, 1, .inr (.inl o))), (ty_XO x w sp sv bu bl le)] ++ ws_5) := hD
    refine W.widen (k := 1) (n := 6) (Nat.le_of_ble_eq_true rfl) (Nat.le_of_ble_eq_true rfl) ?_
    refine lv_i2l hx hb dL_advance_7 rfl ?_
    refine va_last hx hb hK hP hD hS 0 1 rfl rfl (cm_vin (by decide)) dL_advance_8 (fun H locs hP hD hS => ?_)
    have hP : va_P D vwCl ([(ov, .inl (ct 1, 1, .inr (.inl (vp_updL o (0 : Int32).toNatClampNeg r_1.toInt64)))), (ty_XO x w sp sv bu bl le)] ++ ws_5) H := hP
    have hD : va_D A ([(ov, .inl (ct 1, 1, .inr (.inl (vp_updL o (0 : Int32).toNatClampNeg r_1.toInt64)))), (ty_XO x w sp sv bu bl le)] ++ ws_5) := hD
    refine lv_goto (tgt := 15) hx hb dL_advance_9 (by decide) ?_
    refine lv_iconst (v := 0) hx hb dL_advance_15 (by decide) ?_
    have hP : va_P D vwCl ([(ty_XO x w sp sv bu bl le), (ov, .inl (ct 1, 1, .inr (.inl (vp_updL o (0 : Int32).toNatClampNeg r_1.toInt64))))] ++ ws_5) H := ty_permP hP (ty_ordp (E := [(ov, .inl (ct 1, 1, .inr (.inl (vp_updL o (0 : Int32).toNatClampNeg r_1.toInt64)))), (ty_XO x w sp sv bu bl le)]) (E2 := [(ty_XO x w sp sv bu bl le), (ov, .inl (ct 1, 1, .inr (.inl (vp_updL o (0 : Int32).toNatClampNeg r_1.toInt64))))]) (n := 2) [1, 0] rfl rfl (by decide))
    have hD : va_D A ([(ty_XO x w sp sv bu bl le), (ov, .inl (ct 1, 1, .inr (.inl (vp_updL o (0 : Int32).toNatClampNeg r_1.toInt64))))] ++ ws_5) := ty_permD hD (ty_ordp (E := [(ov, .inl (ct 1, 1, .inr (.inl (vp_updL o (0 : Int32).toNatClampNeg r_1.toInt64)))), (ty_XO x w sp sv bu bl le)]) (E2 := [(ty_XO x w sp sv bu bl le), (ov, .inl (ct 1, 1, .inr (.inl (vp_updL o (0 : Int32).toNatClampNeg r_1.toInt64))))]) (n := 2) [1, 0] rfl rfl (by decide))
    exact W.iret (v := 0) hx hb hr (fun t ht hW => ⟨⟨0, (ws_5, (vp_updL o (0 : Int32).toNatClampNeg r_1.toInt64)), rfl, hT, by rw [ht]; exact hP, by rw [hAe]; exact hD⟩, hS.F ht⟩) hS.2.2 dL_advance_16
theorem dL_start_0 : decode cL_start 0 = .ok (.aload_n 3, 1) := by decide +kernel
theorem dL_start_1 : decode cL_start 1 = .ok (.iconst 0, 1) := by decide +kernel
theorem dL_start_2 : decode cL_start 2 = .ok (.aload_n 0, 1) := by decide +kernel
theorem dL_start_3 : decode cL_start 3 = .ok (.iload_n 1, 1) := by decide +kernel
theorem dL_start_4 : decode cL_start 4 = .ok (.iload_n 2, 1) := by decide +kernel
theorem dL_start_5 : decode cL_start 5 = .ok (.invokevirtual 37, 3) := by decide +kernel
theorem dL_start_8 : decode cL_start 8 = .ok (.i2l, 1) := by decide +kernel
theorem dL_start_9 : decode cL_start 9 = .ok (.lastore, 1) := by decide +kernel
theorem dL_start_10 : decode cL_start 10 = .ok (.goto 7, 3) := by decide +kernel
theorem dL_start_13 : decode cL_start 13 = .ok (.astore 4, 2) := by decide +kernel
theorem dL_start_15 : decode cL_start 15 = .ok (.iconst 1, 1) := by decide +kernel
theorem dL_start_16 : decode cL_start 16 = .ok (.ireturn, 1) := by decide +kernel
theorem dL_start_17 : decode cL_start 17 = .ok (.iconst 0, 1) := by decide +kernel
theorem dL_start_18 : decode cL_start 18 = .ok (.ireturn, 1) := by decide +kernel
set_option maxRecDepth 100000 in
set_option maxHeartbeats 4000000 in
theorem tl_start (l : Launch) (hfl : l.stackTraces = false) (D : va_G) (ct : Nat → ClassId) (S : ty_S) (ws : va_W) (ph : va_W → Prop) (xx : Nat → Nat → Nat → Prop) (x : Nat) (w : Nat) (sp : Nat) (sv : Nat) (bu : Nat) (ns : Nat) (bl : Int32) (le : Int32) (p1 : Int32) (p2 : Int32) (ov : Nat) (o : Nat → Int64) (sz : Nat) (hT : ty_V ct S ph ws) (h_w : S w = some (.inl 9)) (h_sp : S sp = some (.inl 9)) (h_sv : S sv = some (.inr (4, ns))) (hph : ty_C ph xx) (hy1 : ty_y1 xx) (hy11 : ty_y0 xx 11) : Met l yL_start (wsw_ yL_start cL_start 5 (some .int) [(0, 10, 13, 32)]) ({ frames := 8, cells := 2, slots := 12, locals := 135 } : Room) (va_Pc [.ref x, .int p1, .int p2, .ref ov] (cmPn D ct sz ([(ty_XO x w sp sv bu bl le), (ov, .inl (ct 1, 1, .inr (.inl o)))] ++ ws))) (va_Qi (fun (r : Int32) (u : va_W × (Nat → Int64)) => match u with | (u9, o1) => ty_V ct S ph u9) (cmB D ([(ty_XO x w sp sv bu bl le), (ov, .inl (ct 1, 1, .inr (.inl o)))] ++ ws) sz (fun (u : va_W × (Nat → Int64)) => match u with | (u9, o1) => ([(ty_XO x w sp sv bu bl le), (ov, .inl (ct 1, 1, .inr (.inl o1)))] ++ u9))) (va_A ([(ty_XO x w sp sv bu bl le), (ov, .inl (ct 1, 1, .inr (.inl o)))] ++ ws) sz)) 2 12 (va_A ([(ty_XO x w sp sv bu bl le), (ov, .inl (ct 1, 1, .inr (.inl o)))] ++ ws) sz) := by
  refine va_MetW (cc := cL_start) (maxL := 5) (ret := (some .int)) (hh := [(0, 10, 13, 32)]) (by decide) rfl ?_
  intro p e s m args below meth c s₁ B hml hv
  have hts0 := atoms_spec (ws := wsw_ yL_start cL_start 5 (some .int) [(0, 10, 13, 32)]) B.pre
  have hts : ∀ w ∈ cm_all, w.before args s = true := fun w h => hts0 w (List.mem_cons_of_mem _ h)
  obtain ⟨rfl, ⟨hsz, hP, hK, hD0, hX⟩, hNc⟩ := hv
  have hx := B.exec
  have hb := B.bytes
  have hr := B.returns
  have htab := vx_table (x := yL_start) B (hts0 _ List.mem_cons_self)
  have hown : s.vm.findClass RL = some m.cls := findClass_of_methodNamed B.named
  have hlocks := B.notSynchronized
  subst hsz
  have hD := hD0.self (sz := s.heap.size)
  generalize hAe : va_A ([(ty_XO x w sp sv bu bl le), (ov, .inl (ct 1, 1, .inr (.inl o)))] ++ ws) s.heap.size = A at hD hX ⊢
  have hA : ∀ q : Nat, s.heap.size ≤ q → A q := fun q h => by rw [← hAe]; exact Or.inr h
  have hS : va_S A s.heap s.heap [] := va_S.rf
  have hl := lv_entry ([.ref x, .int p1, .int p2, .ref ov]) (n := 5) (Nat.le_of_ble_eq_true rfl)
  rw [lg_entry_eq]
  generalize (lg_sl ([.ref x, .int p1, .int p2, .ref ov]) ++ List.replicate (5 - (lg_sl ([.ref x, .int p1, .int p2, .ref ov])).length) Slot.unset).toArray = ls at hl ⊢
  have hl : lv_has ls 5 [(0, .ref x), (1, .int p1), (2, .int p2), (3, .ref ov)] := hl
  refine lv_aload_n hx hb dL_start_0 rfl (lv_at hl 3 rfl) ?_
  refine lv_iconst (v := 0) hx hb dL_start_1 (by decide) ?_
  refine lv_aload_n hx hb dL_start_2 rfl (lv_at hl 0 rfl) ?_
  refine lv_iload_n hx hb dL_start_3 rfl (lv_at hl 1 rfl) ?_
  refine lv_iload_n hx hb dL_start_4 rfl (lv_at hl 2 rfl) ?_
  have hP : va_P D vwCl ([(ov, .inl (ct 1, 1, .inr (.inl o))), (ty_XO x w sp sv bu bl le)] ++ ws) s.heap := ty_permP hP (ty_ordp (E := [(ty_XO x w sp sv bu bl le), (ov, .inl (ct 1, 1, .inr (.inl o)))]) (E2 := [(ov, .inl (ct 1, 1, .inr (.inl o))), (ty_XO x w sp sv bu bl le)]) (n := 2) [1, 0] rfl rfl (by decide))
  have hD : va_D A ([(ov, .inl (ct 1, 1, .inr (.inl o))), (ty_XO x w sp sv bu bl le)] ++ ws) := ty_permD hD (ty_ordp (E := [(ty_XO x w sp sv bu bl le), (ov, .inl (ct 1, 1, .inr (.inl o)))]) (E2 := [(ov, .inl (ct 1, 1, .inr (.inl o))), (ty_XO x w sp sv bu bl le)]) (n := 2) [1, 0] rfl rfl (by decide))
  refine ty_xi (wr := [(ov, .inl (ct 1, 1, .inr (.inl o)))]) (wc := ([(ty_XO x w sp sv bu bl le)] ++ ws)) (vx_runV (As := [.int p1, .int p2]) (rest := [.int 0, .ref ov]) ⟨hx, hb, hml, hown, hts⟩ (t_X10_start l hfl D ct S ws ph xx x w sp sv bu ns bl le p1 p2 _ hT h_w h_sp h_sv hph hy1) (cm_V 2 hts kc_X10_start ki_RX10 kl_RL_37 kv_X10_start kx_X10_start kd_X10_start ⟨Nat.le_of_ble_eq_true rfl, Nat.le_of_ble_eq_true rfl⟩) (ty_preE (wr := [(ov, .inl (ct 1, 1, .inr (.inl o)))]) (wc := ([(ty_XO x w sp sv bu bl le)] ++ ws)) (ci := 10) (q0 := 1) hP hK hD hS hA hX rfl rfl) rfl rfl hl.1 rfl (lv_room (Nat.le_of_ble_eq_true rfl)) dL_start_5 ⟨Nat.le_of_ble_eq_true rfl, Nat.le_of_ble_eq_true rfl⟩) hP hD hS hA (fun E ce q9 u H locs hu hE hP hD hS hce hcv hcl => ?_) (fun r_1 u H locs hw_2 hP hD hS => ?_)
  · obtain ⟨ws_3, rfl⟩ : ∃ z, z = u := ⟨_, rfl⟩
    have hT := hu
    have hP : va_P D vwCl ([(ov, .inl (ct 1, 1, .inr (.inl o))), (ty_XO x w sp sv bu bl le)] ++ ws_3) H := hP
    have hD : va_D A ([(ov, .inl (ct 1, 1, .inr (.inl o))), (ty_XO x w sp sv bu bl le)] ++ ws_3) := hD
    obtain rfl := List.mem_singleton.mp hE
    refine vx_catch (name := "java/lang/IndexOutOfBoundsException") hown [] _ _ htab (fun z hz => absurd hz List.not_mem_nil) (by decide) (by decide) (hts _ kl_RL_32) (hts _ kcast_IOE) hce hcv hcl ?_
    refine W.eq (g2 := F0 m 13 ls [.ref q9]) rfl ?_
    refine lv_astore (lv' := [(4, .ref q9), (0, .ref x), (1, .int p1), (2, .int p2), (3, .ref ov)]) hx hb dL_start_13 hl (by decide) rfl (fun ls hl => ?_)
    refine lv_iconst (v := 1) hx hb dL_start_15 (by decide) ?_
    have hP : va_P D vwCl ([(ty_XO x w sp sv bu bl le), (ov, .inl (ct 1, 1, .inr (.inl o)))] ++ ws_3) H := ty_permP hP (ty_ordp (E := [(ov, .inl (ct 1, 1, .inr (.inl o))), (ty_XO x w sp sv bu bl le)]) (E2 := [(ty_XO x w sp sv bu bl le), (ov, .inl (ct 1, 1, .inr (.inl o)))]) (n := 2) [1, 0] rfl rfl (by decide))
    have hD : va_D A ([(ty_XO x w sp sv bu bl le), (ov, .inl (ct 1, 1, .inr (.inl o)))] ++ ws_3) := ty_permD hD (ty_ordp (E := [(ov, .inl (ct 1, 1, .inr (.inl o))), (ty_XO x w sp sv bu bl le)]) (E2 := [(ty_XO x w sp sv bu bl le), (ov, .inl (ct 1, 1, .inr (.inl o)))]) (n := 2) [1, 0] rfl rfl (by decide))
    exact W.iret (v := 1) hx hb hr (fun t ht hW => ⟨⟨1, (ws_3, o), rfl, hT, by rw [ht]; exact hP, by rw [hAe]; exact hD⟩, hS.F ht⟩) hS.2.2 dL_start_16
  · obtain ⟨ws_4, rfl⟩ : ∃ z, z = u := ⟨_, rfl⟩
    have hT := hw_2
    have hP : va_P D vwCl ([(ov, .inl (ct 1, 1, .inr (.inl o))), (ty_XO x w sp sv bu bl le)] ++ ws_4) H := hP
    have hD : va_D A ([(ov, .inl (ct 1, 1, .inr (.inl o))), (ty_XO x w sp sv bu bl le)] ++ ws_4) := hD
    refine W.widen (k := 2) (n := 12) (Nat.le_of_ble_eq_true rfl) (Nat.le_of_ble_eq_true rfl) ?_
    refine lv_i2l hx hb dL_start_8 rfl ?_
    refine lv_topl (fun x_5 _ => ?_)
    refine va_last hx hb hK hP hD hS 0 1 rfl rfl (cm_vin (by decide)) dL_start_9 (fun H locs hP hD hS => ?_)
    have hP : va_P D vwCl ([(ov, .inl (ct 1, 1, .inr (.inl (vp_updL o (0 : Int32).toNatClampNeg x_5)))), (ty_XO x w sp sv bu bl le)] ++ ws_4) H := hP
    have hD : va_D A ([(ov, .inl (ct 1, 1, .inr (.inl (vp_updL o (0 : Int32).toNatClampNeg x_5)))), (ty_XO x w sp sv bu bl le)] ++ ws_4) := hD
    refine lv_goto (tgt := 17) hx hb dL_start_10 (by decide) ?_
    refine lv_iconst (v := 0) hx hb dL_start_17 (by decide) ?_
    have hP : va_P D vwCl ([(ty_XO x w sp sv bu bl le), (ov, .inl (ct 1, 1, .inr (.inl (vp_updL o (0 : Int32).toNatClampNeg x_5))))] ++ ws_4) H := ty_permP hP (ty_ordp (E := [(ov, .inl (ct 1, 1, .inr (.inl (vp_updL o (0 : Int32).toNatClampNeg x_5)))), (ty_XO x w sp sv bu bl le)]) (E2 := [(ty_XO x w sp sv bu bl le), (ov, .inl (ct 1, 1, .inr (.inl (vp_updL o (0 : Int32).toNatClampNeg x_5))))]) (n := 2) [1, 0] rfl rfl (by decide))
    have hD : va_D A ([(ty_XO x w sp sv bu bl le), (ov, .inl (ct 1, 1, .inr (.inl (vp_updL o (0 : Int32).toNatClampNeg x_5))))] ++ ws_4) := ty_permD hD (ty_ordp (E := [(ov, .inl (ct 1, 1, .inr (.inl (vp_updL o (0 : Int32).toNatClampNeg x_5)))), (ty_XO x w sp sv bu bl le)]) (E2 := [(ty_XO x w sp sv bu bl le), (ov, .inl (ct 1, 1, .inr (.inl (vp_updL o (0 : Int32).toNatClampNeg x_5))))]) (n := 2) [1, 0] rfl rfl (by decide))
    exact W.iret (v := 0) hx hb hr (fun t ht hW => ⟨⟨0, (ws_4, (vp_updL o (0 : Int32).toNatClampNeg x_5)), rfl, hT, by rw [ht]; exact hP, by rw [hAe]; exact hD⟩, hS.F ht⟩) hS.2.2 dL_start_18
theorem dL_pause_0 : decode cL_pause 0 = .ok (.aload_n 2, 1) := by decide +kernel
theorem dL_pause_1 : decode cL_pause 1 = .ok (.iconst 0, 1) := by decide +kernel
theorem dL_pause_2 : decode cL_pause 2 = .ok (.aload_n 0, 1) := by decide +kernel
theorem dL_pause_3 : decode cL_pause 3 = .ok (.iload_n 1, 1) := by decide +kernel
theorem dL_pause_4 : decode cL_pause 4 = .ok (.invokevirtual 40, 3) := by decide +kernel
theorem dL_pause_7 : decode cL_pause 7 = .ok (.i2l, 1) := by decide +kernel
theorem dL_pause_8 : decode cL_pause 8 = .ok (.lastore, 1) := by decide +kernel
theorem dL_pause_9 : decode cL_pause 9 = .ok (.goto 6, 3) := by decide +kernel
theorem dL_pause_12 : decode cL_pause 12 = .ok (.astore_n 3, 1) := by decide +kernel
theorem dL_pause_13 : decode cL_pause 13 = .ok (.iconst 1, 1) := by decide +kernel
theorem dL_pause_14 : decode cL_pause 14 = .ok (.ireturn, 1) := by decide +kernel
theorem dL_pause_15 : decode cL_pause 15 = .ok (.iconst 0, 1) := by decide +kernel
theorem dL_pause_16 : decode cL_pause 16 = .ok (.ireturn, 1) := by decide +kernel
set_option maxRecDepth 100000 in
set_option maxHeartbeats 4000000 in
theorem tl_pause (l : Launch) (hfl : l.stackTraces = false) (D : va_G) (ct : Nat → ClassId) (S : ty_S) (ws : va_W) (ph : va_W → Prop) (xx : Nat → Nat → Nat → Prop) (x : Nat) (w : Nat) (sp : Nat) (sv : Nat) (bu : Nat) (ns : Nat) (bl : Int32) (le : Int32) (p1 : Int32) (ov : Nat) (o : Nat → Int64) (sz : Nat) (hT : ty_V ct S ph ws) (h_w : S w = some (.inl 9)) (h_sp : S sp = some (.inl 9)) (h_sv : S sv = some (.inr (4, ns))) (hph : ty_C ph xx) (hy1 : ty_y1 xx) (hy11 : ty_y0 xx 11) : Met l yL_pause (wsw_ yL_pause cL_pause 4 (some .int) [(0, 9, 12, 32)]) ({ frames := 8, cells := 1, slots := 6, locals := 134 } : Room) (va_Pc [.ref x, .int p1, .ref ov] (cmPn D ct sz ([(ty_XO x w sp sv bu bl le), (ov, .inl (ct 1, 1, .inr (.inl o)))] ++ ws))) (va_Qi (fun (r : Int32) (u : va_W × (Nat → Int64)) => match u with | (u9, o1) => ty_V ct S ph u9) (cmB D ([(ty_XO x w sp sv bu bl le), (ov, .inl (ct 1, 1, .inr (.inl o)))] ++ ws) sz (fun (u : va_W × (Nat → Int64)) => match u with | (u9, o1) => ([(ty_XO x w sp sv bu bl le), (ov, .inl (ct 1, 1, .inr (.inl o1)))] ++ u9))) (va_A ([(ty_XO x w sp sv bu bl le), (ov, .inl (ct 1, 1, .inr (.inl o)))] ++ ws) sz)) 1 6 (va_A ([(ty_XO x w sp sv bu bl le), (ov, .inl (ct 1, 1, .inr (.inl o)))] ++ ws) sz) := by
  refine va_MetW (cc := cL_pause) (maxL := 4) (ret := (some .int)) (hh := [(0, 9, 12, 32)]) (by decide) rfl ?_
  intro p e s m args below meth c s₁ B hml hv
  have hts0 := atoms_spec (ws := wsw_ yL_pause cL_pause 4 (some .int) [(0, 9, 12, 32)]) B.pre
  have hts : ∀ w ∈ cm_all, w.before args s = true := fun w h => hts0 w (List.mem_cons_of_mem _ h)
  obtain ⟨rfl, ⟨hsz, hP, hK, hD0, hX⟩, hNc⟩ := hv
  have hx := B.exec
  have hb := B.bytes
  have hr := B.returns
  have htab := vx_table (x := yL_pause) B (hts0 _ List.mem_cons_self)
  have hown : s.vm.findClass RL = some m.cls := findClass_of_methodNamed B.named
  have hlocks := B.notSynchronized
  subst hsz
  have hD := hD0.self (sz := s.heap.size)
  generalize hAe : va_A ([(ty_XO x w sp sv bu bl le), (ov, .inl (ct 1, 1, .inr (.inl o)))] ++ ws) s.heap.size = A at hD hX ⊢
  have hA : ∀ q : Nat, s.heap.size ≤ q → A q := fun q h => by rw [← hAe]; exact Or.inr h
  have hS : va_S A s.heap s.heap [] := va_S.rf
  have hl := lv_entry ([.ref x, .int p1, .ref ov]) (n := 4) (Nat.le_of_ble_eq_true rfl)
  rw [lg_entry_eq]
  generalize (lg_sl ([.ref x, .int p1, .ref ov]) ++ List.replicate (4 - (lg_sl ([.ref x, .int p1, .ref ov])).length) Slot.unset).toArray = ls at hl ⊢
  have hl : lv_has ls 4 [(0, .ref x), (1, .int p1), (2, .ref ov)] := hl
  refine lv_aload_n hx hb dL_pause_0 rfl (lv_at hl 2 rfl) ?_
  refine lv_iconst (v := 0) hx hb dL_pause_1 (by decide) ?_
  refine lv_aload_n hx hb dL_pause_2 rfl (lv_at hl 0 rfl) ?_
  refine lv_iload_n hx hb dL_pause_3 rfl (lv_at hl 1 rfl) ?_
  have hP : va_P D vwCl ([(ov, .inl (ct 1, 1, .inr (.inl o))), (ty_XO x w sp sv bu bl le)] ++ ws) s.heap := ty_permP hP (ty_ordp (E := [(ty_XO x w sp sv bu bl le), (ov, .inl (ct 1, 1, .inr (.inl o)))]) (E2 := [(ov, .inl (ct 1, 1, .inr (.inl o))), (ty_XO x w sp sv bu bl le)]) (n := 2) [1, 0] rfl rfl (by decide))
  have hD : va_D A ([(ov, .inl (ct 1, 1, .inr (.inl o))), (ty_XO x w sp sv bu bl le)] ++ ws) := ty_permD hD (ty_ordp (E := [(ty_XO x w sp sv bu bl le), (ov, .inl (ct 1, 1, .inr (.inl o)))]) (E2 := [(ov, .inl (ct 1, 1, .inr (.inl o))), (ty_XO x w sp sv bu bl le)]) (n := 2) [1, 0] rfl rfl (by decide))
  refine ty_xi (wr := [(ov, .inl (ct 1, 1, .inr (.inl o)))]) (wc := ([(ty_XO x w sp sv bu bl le)] ++ ws)) (vx_runV (As := [.int p1]) (rest := [.int 0, .ref ov]) ⟨hx, hb, hml, hown, hts⟩ (t_X10_pause l hfl D ct S ws ph xx x w sp sv bu ns bl le p1 _ hT h_w h_sp h_sv hph hy1) (cm_V 1 hts kc_X10_pause ki_RX10 kl_RL_40 kv_X10_pause kx_X10_pause kd_X10_pause ⟨Nat.le_of_ble_eq_true rfl, Nat.le_of_ble_eq_true rfl⟩) (ty_preE (wr := [(ov, .inl (ct 1, 1, .inr (.inl o)))]) (wc := ([(ty_XO x w sp sv bu bl le)] ++ ws)) (ci := 10) (q0 := 1) hP hK hD hS hA hX rfl rfl) rfl rfl hl.1 rfl (lv_room (Nat.le_of_ble_eq_true rfl)) dL_pause_4 ⟨Nat.le_of_ble_eq_true rfl, Nat.le_of_ble_eq_true rfl⟩) hP hD hS hA (fun E ce q9 u H locs hu hE hP hD hS hce hcv hcl => ?_) (fun r_1 u H locs hw_2 hP hD hS => ?_)
  · obtain ⟨ws_3, rfl⟩ : ∃ z, z = u := ⟨_, rfl⟩
    have hT := hu
    have hP : va_P D vwCl ([(ov, .inl (ct 1, 1, .inr (.inl o))), (ty_XO x w sp sv bu bl le)] ++ ws_3) H := hP
    have hD : va_D A ([(ov, .inl (ct 1, 1, .inr (.inl o))), (ty_XO x w sp sv bu bl le)] ++ ws_3) := hD
    obtain rfl := List.mem_singleton.mp hE
    refine vx_catch (name := "java/lang/IndexOutOfBoundsException") hown [] _ _ htab (fun z hz => absurd hz List.not_mem_nil) (by decide) (by decide) (hts _ kl_RL_32) (hts _ kcast_IOE) hce hcv hcl ?_
    refine W.eq (g2 := F0 m 12 ls [.ref q9]) rfl ?_
    refine lv_astore_n (lv' := [(3, .ref q9), (0, .ref x), (1, .int p1), (2, .ref ov)]) hx hb dL_pause_12 rfl hl (by decide) rfl (fun ls hl => ?_)
    refine lv_iconst (v := 1) hx hb dL_pause_13 (by decide) ?_
    have hP : va_P D vwCl ([(ty_XO x w sp sv bu bl le), (ov, .inl (ct 1, 1, .inr (.inl o)))] ++ ws_3) H := ty_permP hP (ty_ordp (E := [(ov, .inl (ct 1, 1, .inr (.inl o))), (ty_XO x w sp sv bu bl le)]) (E2 := [(ty_XO x w sp sv bu bl le), (ov, .inl (ct 1, 1, .inr (.inl o)))]) (n := 2) [1, 0] rfl rfl (by decide))
    have hD : va_D A ([(ty_XO x w sp sv bu bl le), (ov, .inl (ct 1, 1, .inr (.inl o)))] ++ ws_3) := ty_permD hD (ty_ordp (E := [(ov, .inl (ct 1, 1, .inr (.inl o))), (ty_XO x w sp sv bu bl le)]) (E2 := [(ty_XO x w sp sv bu bl le), (ov, .inl (ct 1, 1, .inr (.inl o)))]) (n := 2) [1, 0] rfl rfl (by decide))
    exact W.iret (v := 1) hx hb hr (fun t ht hW => ⟨⟨1, (ws_3, o), rfl, hT, by rw [ht]; exact hP, by rw [hAe]; exact hD⟩, hS.F ht⟩) hS.2.2 dL_pause_14
  · obtain ⟨ws_4, rfl⟩ : ∃ z, z = u := ⟨_, rfl⟩
    have hT := hw_2
    have hP : va_P D vwCl ([(ov, .inl (ct 1, 1, .inr (.inl o))), (ty_XO x w sp sv bu bl le)] ++ ws_4) H := hP
    have hD : va_D A ([(ov, .inl (ct 1, 1, .inr (.inl o))), (ty_XO x w sp sv bu bl le)] ++ ws_4) := hD
    refine W.widen (k := 1) (n := 6) (Nat.le_of_ble_eq_true rfl) (Nat.le_of_ble_eq_true rfl) ?_
    refine lv_i2l hx hb dL_pause_7 rfl ?_
    refine lv_topl (fun x_5 _ => ?_)
    refine va_last hx hb hK hP hD hS 0 1 rfl rfl (cm_vin (by decide)) dL_pause_8 (fun H locs hP hD hS => ?_)
    have hP : va_P D vwCl ([(ov, .inl (ct 1, 1, .inr (.inl (vp_updL o (0 : Int32).toNatClampNeg x_5)))), (ty_XO x w sp sv bu bl le)] ++ ws_4) H := hP
    have hD : va_D A ([(ov, .inl (ct 1, 1, .inr (.inl (vp_updL o (0 : Int32).toNatClampNeg x_5)))), (ty_XO x w sp sv bu bl le)] ++ ws_4) := hD
    refine lv_goto (tgt := 15) hx hb dL_pause_9 (by decide) ?_
    refine lv_iconst (v := 0) hx hb dL_pause_15 (by decide) ?_
    have hP : va_P D vwCl ([(ty_XO x w sp sv bu bl le), (ov, .inl (ct 1, 1, .inr (.inl (vp_updL o (0 : Int32).toNatClampNeg x_5))))] ++ ws_4) H := ty_permP hP (ty_ordp (E := [(ov, .inl (ct 1, 1, .inr (.inl (vp_updL o (0 : Int32).toNatClampNeg x_5)))), (ty_XO x w sp sv bu bl le)]) (E2 := [(ty_XO x w sp sv bu bl le), (ov, .inl (ct 1, 1, .inr (.inl (vp_updL o (0 : Int32).toNatClampNeg x_5))))]) (n := 2) [1, 0] rfl rfl (by decide))
    have hD : va_D A ([(ty_XO x w sp sv bu bl le), (ov, .inl (ct 1, 1, .inr (.inl (vp_updL o (0 : Int32).toNatClampNeg x_5))))] ++ ws_4) := ty_permD hD (ty_ordp (E := [(ov, .inl (ct 1, 1, .inr (.inl (vp_updL o (0 : Int32).toNatClampNeg x_5)))), (ty_XO x w sp sv bu bl le)]) (E2 := [(ty_XO x w sp sv bu bl le), (ov, .inl (ct 1, 1, .inr (.inl (vp_updL o (0 : Int32).toNatClampNeg x_5))))]) (n := 2) [1, 0] rfl rfl (by decide))
    exact W.iret (v := 0) hx hb hr (fun t ht hW => ⟨⟨0, (ws_4, (vp_updL o (0 : Int32).toNatClampNeg x_5)), rfl, hT, by rw [ht]; exact hP, by rw [hAe]; exact hD⟩, hS.F ht⟩) hS.2.2 dL_pause_16
theorem dL_resume_0 : decode cL_resume 0 = .ok (.aload_n 2, 1) := by decide +kernel
theorem dL_resume_1 : decode cL_resume 1 = .ok (.iconst 0, 1) := by decide +kernel
theorem dL_resume_2 : decode cL_resume 2 = .ok (.aload_n 0, 1) := by decide +kernel
theorem dL_resume_3 : decode cL_resume 3 = .ok (.iload_n 1, 1) := by decide +kernel
theorem dL_resume_4 : decode cL_resume 4 = .ok (.invokevirtual 43, 3) := by decide +kernel
theorem dL_resume_7 : decode cL_resume 7 = .ok (.i2l, 1) := by decide +kernel
theorem dL_resume_8 : decode cL_resume 8 = .ok (.lastore, 1) := by decide +kernel
theorem dL_resume_9 : decode cL_resume 9 = .ok (.goto 6, 3) := by decide +kernel
theorem dL_resume_12 : decode cL_resume 12 = .ok (.astore_n 3, 1) := by decide +kernel
theorem dL_resume_13 : decode cL_resume 13 = .ok (.iconst 1, 1) := by decide +kernel
theorem dL_resume_14 : decode cL_resume 14 = .ok (.ireturn, 1) := by decide +kernel
theorem dL_resume_15 : decode cL_resume 15 = .ok (.iconst 0, 1) := by decide +kernel
theorem dL_resume_16 : decode cL_resume 16 = .ok (.ireturn, 1) := by decide +kernel
set_option maxRecDepth 100000 in
set_option maxHeartbeats 4000000 in
theorem tl_resume (l : Launch) (hfl : l.stackTraces = false) (D : va_G) (ct : Nat → ClassId) (S : ty_S) (ws : va_W) (ph : va_W → Prop) (xx : Nat → Nat → Nat → Prop) (x : Nat) (w : Nat) (sp : Nat) (sv : Nat) (bu : Nat) (ns : Nat) (bl : Int32) (le : Int32) (p1 : Int32) (ov : Nat) (o : Nat → Int64) (sz : Nat) (hT : ty_V ct S ph ws) (h_w : S w = some (.inl 9)) (h_sp : S sp = some (.inl 9)) (h_sv : S sv = some (.inr (4, ns))) (hph : ty_C ph xx) (hy1 : ty_y1 xx) (hy11 : ty_y0 xx 11) : Met l yL_resume (wsw_ yL_resume cL_resume 4 (some .int) [(0, 9, 12, 32)]) ({ frames := 8, cells := 1, slots := 6, locals := 134 } : Room) (va_Pc [.ref x, .int p1, .ref ov] (cmPn D ct sz ([(ty_XO x w sp sv bu bl le), (ov, .inl (ct 1, 1, .inr (.inl o)))] ++ ws))) (va_Qi (fun (r : Int32) (u : va_W × (Nat → Int64)) => match u with | (u9, o1) => ty_V ct S ph u9) (cmB D ([(ty_XO x w sp sv bu bl le), (ov, .inl (ct 1, 1, .inr (.inl o)))] ++ ws) sz (fun (u : va_W × (Nat → Int64)) => match u with | (u9, o1) => ([(ty_XO x w sp sv bu bl le), (ov, .inl (ct 1, 1, .inr (.inl o1)))] ++ u9))) (va_A ([(ty_XO x w sp sv bu bl le), (ov, .inl (ct 1, 1, .inr (.inl o)))] ++ ws) sz)) 1 6 (va_A ([(ty_XO x w sp sv bu bl le), (ov, .inl (ct 1, 1, .inr (.inl o)))] ++ ws) sz) := by
  refine va_MetW (cc := cL_resume) (maxL := 4) (ret := (some .int)) (hh := [(0, 9, 12, 32)]) (by decide) rfl ?_
  intro p e s m args below meth c s₁ B hml hv
  have hts0 := atoms_spec (ws := wsw_ yL_resume cL_resume 4 (some .int) [(0, 9, 12, 32)]) B.pre
  have hts : ∀ w ∈ cm_all, w.before args s = true := fun w h => hts0 w (List.mem_cons_of_mem _ h)
  obtain ⟨rfl, ⟨hsz, hP, hK, hD0, hX⟩, hNc⟩ := hv
  have hx := B.exec
  have hb := B.bytes
  have hr := B.returns
  have htab := vx_table (x := yL_resume) B (hts0 _ List.mem_cons_self)
  have hown : s.vm.findClass RL = some m.cls := findClass_of_methodNamed B.named
  have hlocks := B.notSynchronized
  subst hsz
  have hD := hD0.self (sz := s.heap.size)
  generalize hAe : va_A ([(ty_XO x w sp sv bu bl le), (ov, .inl (ct 1, 1, .inr (.inl o)))] ++ ws) s.heap.size = A at hD hX ⊢
  have hA : ∀ q : Nat, s.heap.size ≤ q → A q := fun q h => by rw [← hAe]; exact Or.inr h
  have hS : va_S A s.heap s.heap [] := va_S.rf
  have hl := lv_entry ([.ref x, .int p1, .ref ov]) (n := 4) (Nat.le_of_ble_eq_true rfl)
  rw [lg_entry_eq]
  generalize (lg_sl ([.ref x, .int p1, .ref ov]) ++ List.replicate (4 - (lg_sl ([.ref x, .int p1, .ref ov])).length) Slot.unset).toArray = ls at hl ⊢
  have hl : lv_has ls 4 [(0, .ref x), (1, .int p1), (2, .ref ov)] := hl
  refine lv_aload_n hx hb dL_resume_0 rfl (lv_at hl 2 rfl) ?_
  refine lv_iconst (v := 0) hx hb dL_resume_1 (by decide) ?_
  refine lv_aload_n hx hb dL_resume_2 rfl (lv_at hl 0 rfl) ?_
  refine lv_iload_n hx hb dL_resume_3 rfl (lv_at hl 1 rfl) ?_
  have hP : va_P D vwCl ([(ov, .inl (ct 1, 1, .inr (.inl o))), (ty_XO x w sp sv bu bl le)] ++ ws) s.heap := ty_permP hP (ty_ordp (E := [(ty_XO x w sp sv bu bl le), (ov, .inl (ct 1, 1, .inr (.inl o)))]) (E2 := [(ov, .inl (ct 1, 1, .inr (.inl o))), (ty_XO x w sp sv bu bl le)]) (n := 2) [1, 0] rfl rfl (by decide))
  have hD : va_D A ([(ov, .inl (ct 1, 1, .inr (.inl o))), (ty_XO x w sp sv bu bl le)] ++ ws) := ty_permD hD (ty_ordp (E := [(ty_XO x w sp sv bu bl le), (ov, .inl (ct 1, 1, .inr (.inl o)))]) (E2 := [(ov, .inl (ct 1, 1, .inr (.inl o))), (ty_XO x w sp sv bu bl le)]) (n := 2) [1, 0] rfl rfl (by decide))
  refine ty_xi (wr := [(ov, .inl (ct 1, 1, .inr (.inl o)))]) (wc := ([(ty_XO x w sp sv bu bl le)] ++ ws)) (vx_runV (As := [.int p1]) (rest := [.int 0, .ref ov]) ⟨hx, hb, hml, hown, hts⟩ (t_X10_resume l hfl D ct S ws ph xx x w sp sv bu ns bl le p1 _ hT h_w h_sp h_sv hph hy1) (cm_V 1 hts kc_X10_resume ki_RX10 kl_RL_43 kv_X10_resume kx_X10_resume kd_X10_resume ⟨Nat.le_of_ble_eq_true rfl, Nat.le_of_ble_eq_true rfl⟩) (ty_preE (wr := [(ov, .inl (ct 1, 1, .inr (.inl o)))]) (wc := ([(ty_XO x w sp sv bu bl le)] ++ ws)) (ci := 10) (q0 := 1) hP hK hD hS hA hX rfl rfl) rfl rfl hl.1 rfl (lv_room (Nat.le_of_ble_eq_true rfl)) dL_resume_4 ⟨Nat.le_of_ble_eq_true rfl, Nat.le_of_ble_eq_true rfl⟩) hP hD hS hA (fun E ce q9 u H locs hu hE hP hD hS hce hcv hcl => ?_) (fun r_1 u H locs hw_2 hP hD hS => ?_)
  · obtain ⟨ws_3, rfl⟩ : ∃ z, z = u := ⟨_, rfl⟩
    have hT := hu
    have hP : va_P D vwCl ([(ov, .inl (ct 1, 1, .inr (.inl o))), (ty_XO x w sp sv bu bl le)] ++ ws_3) H := hP
    have hD : va_D A ([(ov, .inl (ct 1, 1, .inr (.inl o))), (ty_XO x w sp sv bu bl le)] ++ ws_3) := hD
    obtain rfl := List.mem_singleton.mp hE
    refine vx_catch (name := "java/lang/IndexOutOfBoundsException") hown [] _ _ htab (fun z hz => absurd hz List.not_mem_nil) (by decide) (by decide) (hts _ kl_RL_32) (hts _ kcast_IOE) hce hcv hcl ?_
    refine W.eq (g2 := F0 m 12 ls [.ref q9]) rfl ?_
    refine lv_astore_n (lv' := [(3, .ref q9), (0, .ref x), (1, .int p1), (2, .ref ov)]) hx hb dL_resume_12 rfl hl (by decide) rfl (fun ls hl => ?_)
    refine lv_iconst (v := 1) hx hb dL_resume_13 (by decide) ?_
    have hP : va_P D vwCl ([(ty_XO x w sp sv bu bl le), (ov, .inl (ct 1, 1, .inr (.inl o)))] ++ ws_3) H := ty_permP hP (ty_ordp (E := [(ov, .inl (ct 1, 1, .inr (.inl o))), (ty_XO x w sp sv bu bl le)]) (E2 := [(ty_XO x w sp sv bu bl le), (ov, .inl (ct 1, 1, .inr (.inl o)))]) (n := 2) [1, 0] rfl rfl (by decide))
    have hD : va_D A ([(ty_XO x w sp sv bu bl le), (ov, .inl (ct 1, 1, .inr (.inl o)))] ++ ws_3) := ty_permD hD (ty_ordp (E := [(ov, .inl (ct 1, 1, .inr (.inl o))), (ty_XO x w sp sv bu bl le)]) (E2 := [(ty_XO x w sp sv bu bl le), (ov, .inl (ct 1, 1, .inr (.inl o)))]) (n := 2) [1, 0] rfl rfl (by decide))
    exact W.iret (v := 1) hx hb hr (fun t ht hW => ⟨⟨1, (ws_3, o), rfl, hT, by rw [ht]; exact hP, by rw [hAe]; exact hD⟩, hS.F ht⟩) hS.2.2 dL_resume_14
  · obtain ⟨ws_4, rfl⟩ : ∃ z, z = u := ⟨_, rfl⟩
    have hT := hw_2
    have hP : va_P D vwCl ([(ov, .inl (ct 1, 1, .inr (.inl o))), (ty_XO x w sp sv bu bl le)] ++ ws_4) H := hP
    have hD : va_D A ([(ov, .inl (ct 1, 1, .inr (.inl o))), (ty_XO x w sp sv bu bl le)] ++ ws_4) := hD
    refine W.widen (k := 1) (n := 6) (Nat.le_of_ble_eq_true rfl) (Nat.le_of_ble_eq_true rfl) ?_
    refine lv_i2l hx hb dL_resume_7 rfl ?_
    refine lv_topl (fun x_5 _ => ?_)
    refine va_last hx hb hK hP hD hS 0 1 rfl rfl (cm_vin (by decide)) dL_resume_8 (fun H locs hP hD hS => ?_)
    have hP : va_P D vwCl ([(ov, .inl (ct 1, 1, .inr (.inl (vp_updL o (0 : Int32).toNatClampNeg x_5)))), (ty_XO x w sp sv bu bl le)] ++ ws_4) H := hP
    have hD : va_D A ([(ov, .inl (ct 1, 1, .inr (.inl (vp_updL o (0 : Int32).toNatClampNeg x_5)))), (ty_XO x w sp sv bu bl le)] ++ ws_4) := hD
    refine lv_goto (tgt := 15) hx hb dL_resume_9 (by decide) ?_
    refine lv_iconst (v := 0) hx hb dL_resume_15 (by decide) ?_
    have hP : va_P D vwCl ([(ty_XO x w sp sv bu bl le), (ov, .inl (ct 1, 1, .inr (.inl (vp_updL o (0 : Int32).toNatClampNeg x_5))))] ++ ws_4) H := ty_permP hP (ty_ordp (E := [(ov, .inl (ct 1, 1, .inr (.inl (vp_updL o (0 : Int32).toNatClampNeg x_5)))), (ty_XO x w sp sv bu bl le)]) (E2 := [(ty_XO x w sp sv bu bl le), (ov, .inl (ct 1, 1, .inr (.inl (vp_updL o (0 : Int32).toNatClampNeg x_5))))]) (n := 2) [1, 0] rfl rfl (by decide))
    have hD : va_D A ([(ty_XO x w sp sv bu bl le), (ov, .inl (ct 1, 1, .inr (.inl (vp_updL o (0 : Int32).toNatClampNeg x_5))))] ++ ws_4) := ty_permD hD (ty_ordp (E := [(ov, .inl (ct 1, 1, .inr (.inl (vp_updL o (0 : Int32).toNatClampNeg x_5)))), (ty_XO x w sp sv bu bl le)]) (E2 := [(ty_XO x w sp sv bu bl le), (ov, .inl (ct 1, 1, .inr (.inl (vp_updL o (0 : Int32).toNatClampNeg x_5))))]) (n := 2) [1, 0] rfl rfl (by decide))
    exact W.iret (v := 0) hx hb hr (fun t ht hW => ⟨⟨0, (ws_4, (vp_updL o (0 : Int32).toNatClampNeg x_5)), rfl, hT, by rw [ht]; exact hP, by rw [hAe]; exact hD⟩, hS.F ht⟩) hS.2.2 dL_resume_16
theorem dL_stop_0 : decode cL_stop 0 = .ok (.aload_n 2, 1) := by decide +kernel
theorem dL_stop_1 : decode cL_stop 1 = .ok (.iconst 0, 1) := by decide +kernel
theorem dL_stop_2 : decode cL_stop 2 = .ok (.aload_n 0, 1) := by decide +kernel
theorem dL_stop_3 : decode cL_stop 3 = .ok (.iload_n 1, 1) := by decide +kernel
theorem dL_stop_4 : decode cL_stop 4 = .ok (.invokevirtual 46, 3) := by decide +kernel
theorem dL_stop_7 : decode cL_stop 7 = .ok (.i2l, 1) := by decide +kernel
theorem dL_stop_8 : decode cL_stop 8 = .ok (.lastore, 1) := by decide +kernel
theorem dL_stop_9 : decode cL_stop 9 = .ok (.goto 6, 3) := by decide +kernel
theorem dL_stop_12 : decode cL_stop 12 = .ok (.astore_n 3, 1) := by decide +kernel
theorem dL_stop_13 : decode cL_stop 13 = .ok (.iconst 1, 1) := by decide +kernel
theorem dL_stop_14 : decode cL_stop 14 = .ok (.ireturn, 1) := by decide +kernel
theorem dL_stop_15 : decode cL_stop 15 = .ok (.iconst 0, 1) := by decide +kernel
theorem dL_stop_16 : decode cL_stop 16 = .ok (.ireturn, 1) := by decide +kernel
set_option maxRecDepth 100000 in
set_option maxHeartbeats 4000000 in
theorem tl_stop (l : Launch) (hfl : l.stackTraces = false) (D : va_G) (ct : Nat → ClassId) (S : ty_S) (ws : va_W) (ph : va_W → Prop) (xx : Nat → Nat → Nat → Prop) (x : Nat) (w : Nat) (sp : Nat) (sv : Nat) (bu : Nat) (ns : Nat) (bl : Int32) (le : Int32) (p1 : Int32) (ov : Nat) (o : Nat → Int64) (sz : Nat) (hT : ty_V ct S ph ws) (h_w : S w = some (.inl 9)) (h_sp : S sp = some (.inl 9)) (h_sv : S sv = some (.inr (4, ns))) (hph : ty_C ph xx) (hy1 : ty_y1 xx) (hy11 : ty_y0 xx 11) : Met l yL_stop (wsw_ yL_stop cL_stop 4 (some .int) [(0, 9, 12, 32)]) ({ frames := 8, cells := 1, slots := 6, locals := 135 } : Room) (va_Pc [.ref x, .int p1, .ref ov] (cmPn D ct sz ([(ty_XO x w sp sv bu bl le), (ov, .inl (ct 1, 1, .inr (.inl o)))] ++ ws))) (va_Qi (fun (r : Int32) (u : va_W × (Nat → Int64)) => match u with | (u9, o1) => ty_V ct S ph u9) (cmB D ([(ty_XO x w sp sv bu bl le), (ov, .inl (ct 1, 1, .inr (.inl o)))] ++ ws) sz (fun (u : va_W × (Nat → Int64)) => match u with | (u9, o1) => ([(ty_XO x w sp sv bu bl le), (ov, .inl (ct 1, 1, .inr (.inl o1)))] ++ u9))) (va_A ([(ty_XO x w sp sv bu bl le), (ov, .inl (ct 1, 1, .inr (.inl o)))] ++ ws) sz)) 1 6 (va_A ([(ty_XO x w sp sv bu bl le), (ov, .inl (ct 1, 1, .inr (.inl o)))] ++ ws) sz) := by
  refine va_MetW (cc := cL_stop) (maxL := 4) (ret := (some .int)) (hh := [(0, 9, 12, 32)]) (by decide) rfl ?_
  intro p e s m args below meth c s₁ B hml hv
  have hts0 := atoms_spec (ws := wsw_ yL_stop cL_stop 4 (some .int) [(0, 9, 12, 32)]) B.pre
  have hts : ∀ w ∈ cm_all, w.before args s = true := fun w h => hts0 w (List.mem_cons_of_mem _ h)
  obtain ⟨rfl, ⟨hsz, hP, hK, hD0, hX⟩, hNc⟩ := hv
  have hx := B.exec
  have hb := B.bytes
  have hr := B.returns
  have htab := vx_table (x := yL_stop) B (hts0 _ List.mem_cons_self)
  have hown : s.vm.findClass RL = some m.cls := findClass_of_methodNamed B.named
  have hlocks := B.notSynchronized
  subst hsz
  have hD := hD0.self (sz := s.heap.size)
  generalize hAe : va_A ([(ty_XO x w sp sv bu bl le), (ov, .inl (ct 1, 1, .inr (.inl o)))] ++ ws) s.heap.size = A at hD hX ⊢
  have hA : ∀ q : Nat, s.heap.size ≤ q → A q := fun q h => by rw [← hAe]; exact Or.inr h
  have hS : va_S A s.heap s.heap [] := va_S.rf
  have hl := lv_entry ([.ref x, .int p1, .ref ov]) (n := 4) (Nat.le_of_ble_eq_true rfl)
  rw [lg_entry_eq]
  generalize (lg_sl ([.ref x, .int p1, .ref ov]) ++ List.replicate (4 - (lg_sl ([.ref x, .int p1, .ref ov])).length) Slot.unset).toArray = ls at hl ⊢
  have hl : lv_has ls 4 [(0, .ref x), (1, .int p1), (2, .ref ov)] := hl
  refine lv_aload_n hx hb dL_stop_0 rfl (lv_at hl 2 rfl) ?_
  refine lv_iconst (v := 0) hx hb dL_stop_1 (by decide) ?_
  refine lv_aload_n hx hb dL_stop_2 rfl (lv_at hl 0 rfl) ?_
  refine lv_iload_n hx hb dL_stop_3 rfl (lv_at hl 1 rfl) ?_
  have hP : va_P D vwCl ([(ov, .inl (ct 1, 1, .inr (.inl o))), (ty_XO x w sp sv bu bl le)] ++ ws) s.heap := ty_permP hP (ty_ordp (E := [(ty_XO x w sp sv bu bl le), (ov, .inl (ct 1, 1, .inr (.inl o)))]) (E2 := [(ov, .inl (ct 1, 1, .inr (.inl o))), (ty_XO x w sp sv bu bl le)]) (n := 2) [1, 0] rfl rfl (by decide))
  have hD : va_D A ([(ov, .inl (ct 1, 1, .inr (.inl o))), (ty_XO x w sp sv bu bl le)] ++ ws) := ty_permD hD (ty_ordp (E := [(ty_XO x w sp sv bu bl le), (ov, .inl (ct 1, 1, .inr (.inl o)))]) (E2 := [(ov, .inl (ct 1, 1, .inr (.inl o))), (ty_XO x w sp sv bu bl le)]) (n := 2) [1, 0] rfl rfl (by decide))
  refine ty_xi (wr := [(ov, .inl (ct 1, 1, .inr (.inl o)))]) (wc := ([(ty_XO x w sp sv bu bl le)] ++ ws)) (vx_runV (As := [.int p1]) (rest := [.int 0, .ref ov]) ⟨hx, hb, hml, hown, hts⟩ (t_X10_stop l hfl D ct S ws ph xx x w sp sv bu ns bl le p1 _ hT h_w h_sp h_sv hph hy1) (cm_V 1 hts kc_X10_stop ki_RX10 kl_RL_46 kv_X10_stop kx_X10_stop kd_X10_stop ⟨Nat.le_of_ble_eq_true rfl, Nat.le_of_ble_eq_true rfl⟩) (ty_preE (wr := [(ov, .inl (ct 1, 1, .inr (.inl o)))]) (wc := ([(ty_XO x w sp sv bu bl le)] ++ ws)) (ci := 10) (q0 := 1) hP hK hD hS hA hX rfl rfl) rfl rfl hl.1 rfl (lv_room (Nat.le_of_ble_eq_true rfl)) dL_stop_4 ⟨Nat.le_of_ble_eq_true rfl, Nat.le_of_ble_eq_true rfl⟩) hP hD hS hA (fun E ce q9 u H locs hu hE hP hD hS hce hcv hcl => ?_) (fun r_1 u H locs hw_2 hP hD hS => ?_)
  · obtain ⟨ws_3, rfl⟩ : ∃ z, z = u := ⟨_, rfl⟩
    have hT := hu
    have hP : va_P D vwCl ([(ov, .inl (ct 1, 1, .inr (.inl o))), (ty_XO x w sp sv bu bl le)] ++ ws_3) H := hP
    have hD : va_D A ([(ov, .inl (ct 1, 1, .inr (.inl o))), (ty_XO x w sp sv bu bl le)] ++ ws_3) := hD
    obtain rfl := List.mem_singleton.mp hE
    refine vx_catch (name := "java/lang/IndexOutOfBoundsException") hown [] _ _ htab (fun z hz => absurd hz List.not_mem_nil) (by decide) (by decide) (hts _ kl_RL_32) (hts _ kcast_IOE) hce hcv hcl ?_
    refine W.eq (g2 := F0 m 12 ls [.ref q9]) rfl ?_
    refine lv_astore_n (lv' := [(3, .ref q9), (0, .ref x), (1, .int p1), (2, .ref ov)]) hx hb dL_stop_12 rfl hl (by decide) rfl (fun ls hl => ?_)
    refine lv_iconst (v := 1) hx hb dL_stop_13 (by decide) ?_
    have hP : va_P D vwCl ([(ty_XO x w sp sv bu bl le), (ov, .inl (ct 1, 1, .inr (.inl o)))] ++ ws_3) H := ty_permP hP (ty_ordp (E := [(ov, .inl (ct 1, 1, .inr (.inl o))), (ty_XO x w sp sv bu bl le)]) (E2 := [(ty_XO x w sp sv bu bl le), (ov, .inl (ct 1, 1, .inr (.inl o)))]) (n := 2) [1, 0] rfl rfl (by decide))
    have hD : va_D A ([(ty_XO x w sp sv bu bl le), (ov, .inl (ct 1, 1, .inr (.inl o)))] ++ ws_3) := ty_permD hD (ty_ordp (E := [(ov, .inl (ct 1, 1, .inr (.inl o))), (ty_XO x w sp sv bu bl le)]) (E2 := [(ty_XO x w sp sv bu bl le), (ov, .inl (ct 1, 1, .inr (.inl o)))]) (n := 2) [1, 0] rfl rfl (by decide))
    exact W.iret (v := 1) hx hb hr (fun t ht hW => ⟨⟨1, (ws_3, o), rfl, hT, by rw [ht]; exact hP, by rw [hAe]; exact hD⟩, hS.F ht⟩) hS.2.2 dL_stop_14
  · obtain ⟨ws_4, rfl⟩ : ∃ z, z = u := ⟨_, rfl⟩
    have hT := hw_2
    have hP : va_P D vwCl ([(ov, .inl (ct 1, 1, .inr (.inl o))), (ty_XO x w sp sv bu bl le)] ++ ws_4) H := hP
    have hD : va_D A ([(ov, .inl (ct 1, 1, .inr (.inl o))), (ty_XO x w sp sv bu bl le)] ++ ws_4) := hD
    refine W.widen (k := 1) (n := 6) (Nat.le_of_ble_eq_true rfl) (Nat.le_of_ble_eq_true rfl) ?_
    refine lv_i2l hx hb dL_stop_7 rfl ?_
    refine lv_topl (fun x_5 _ => ?_)
    refine va_last hx hb hK hP hD hS 0 1 rfl rfl (cm_vin (by decide)) dL_stop_8 (fun H locs hP hD hS => ?_)
    have hP : va_P D vwCl ([(ov, .inl (ct 1, 1, .inr (.inl (vp_updL o (0 : Int32).toNatClampNeg x_5)))), (ty_XO x w sp sv bu bl le)] ++ ws_4) H := hP
    have hD : va_D A ([(ov, .inl (ct 1, 1, .inr (.inl (vp_updL o (0 : Int32).toNatClampNeg x_5)))), (ty_XO x w sp sv bu bl le)] ++ ws_4) := hD
    refine lv_goto (tgt := 15) hx hb dL_stop_9 (by decide) ?_
    refine lv_iconst (v := 0) hx hb dL_stop_15 (by decide) ?_
    have hP : va_P D vwCl ([(ty_XO x w sp sv bu bl le), (ov, .inl (ct 1, 1, .inr (.inl (vp_updL o (0 : Int32).toNatClampNeg x_5))))] ++ ws_4) H := ty_permP hP (ty_ordp (E := [(ov, .inl (ct 1, 1, .inr (.inl (vp_updL o (0 : Int32).toNatClampNeg x_5)))), (ty_XO x w sp sv bu bl le)]) (E2 := [(ty_XO x w sp sv bu bl le), (ov, .inl (ct 1, 1, .inr (.inl (vp_updL o (0 : Int32).toNatClampNeg x_5))))]) (n := 2) [1, 0] rfl rfl (by decide))
    have hD : va_D A ([(ty_XO x w sp sv bu bl le), (ov, .inl (ct 1, 1, .inr (.inl (vp_updL o (0 : Int32).toNatClampNeg x_5))))] ++ ws_4) := ty_permD hD (ty_ordp (E := [(ov, .inl (ct 1, 1, .inr (.inl (vp_updL o (0 : Int32).toNatClampNeg x_5)))), (ty_XO x w sp sv bu bl le)]) (E2 := [(ty_XO x w sp sv bu bl le), (ov, .inl (ct 1, 1, .inr (.inl (vp_updL o (0 : Int32).toNatClampNeg x_5))))]) (n := 2) [1, 0] rfl rfl (by decide))
    exact W.iret (v := 0) hx hb hr (fun t ht hW => ⟨⟨0, (ws_4, (vp_updL o (0 : Int32).toNatClampNeg x_5)), rfl, hT, by rw [ht]; exact hP, by rw [hAe]; exact hD⟩, hS.F ht⟩) hS.2.2 dL_stop_16
theorem dL_skip_0 : decode cL_skip 0 = .ok (.aload_n 2, 1) := by decide +kernel
theorem dL_skip_1 : decode cL_skip 1 = .ok (.iconst 0, 1) := by decide +kernel
theorem dL_skip_2 : decode cL_skip 2 = .ok (.aload_n 0, 1) := by decide +kernel
theorem dL_skip_3 : decode cL_skip 3 = .ok (.iload_n 1, 1) := by decide +kernel
theorem dL_skip_4 : decode cL_skip 4 = .ok (.invokevirtual 49, 3) := by decide +kernel
theorem dL_skip_7 : decode cL_skip 7 = .ok (.i2l, 1) := by decide +kernel
theorem dL_skip_8 : decode cL_skip 8 = .ok (.lastore, 1) := by decide +kernel
theorem dL_skip_9 : decode cL_skip 9 = .ok (.goto 6, 3) := by decide +kernel
theorem dL_skip_12 : decode cL_skip 12 = .ok (.astore_n 3, 1) := by decide +kernel
theorem dL_skip_13 : decode cL_skip 13 = .ok (.iconst 1, 1) := by decide +kernel
theorem dL_skip_14 : decode cL_skip 14 = .ok (.ireturn, 1) := by decide +kernel
theorem dL_skip_15 : decode cL_skip 15 = .ok (.iconst 0, 1) := by decide +kernel
theorem dL_skip_16 : decode cL_skip 16 = .ok (.ireturn, 1) := by decide +kernel
set_option maxRecDepth 100000 in
set_option maxHeartbeats 4000000 in
theorem tl_skip (l : Launch) (hfl : l.stackTraces = false) (D : va_G) (ct : Nat → ClassId) (S : ty_S) (ws : va_W) (ph : va_W → Prop) (xx : Nat → Nat → Nat → Prop) (x : Nat) (w : Nat) (sp : Nat) (sv : Nat) (bu : Nat) (ns : Nat) (bl : Int32) (le : Int32) (p1 : Int32) (ov : Nat) (o : Nat → Int64) (sz : Nat) (hT : ty_V ct S ph ws) (h_w : S w = some (.inl 9)) (h_sp : S sp = some (.inl 9)) (h_sv : S sv = some (.inr (4, ns))) (hph : ty_C ph xx) (hy1 : ty_y1 xx) (hy11 : ty_y0 xx 11) : Met l yL_skip (wsw_ yL_skip cL_skip 4 (some .int) [(0, 9, 12, 32)]) ({ frames := 8, cells := 1, slots := 6, locals := 134 } : Room) (va_Pc [.ref x, .int p1, .ref ov] (cmPn D ct sz ([(ty_XO x w sp sv bu bl le), (ov, .inl (ct 1, 1, .inr (.inl o)))] ++ ws))) (va_Qi (fun (r : Int32) (u : va_W × (Nat → Int64)) => match u with | (u9, o1) => ty_V ct S ph u9) (cmB D ([(ty_XO x w sp sv bu bl le), (ov, .inl (ct 1, 1, .inr (.inl o)))] ++ ws) sz (fun (u : va_W × (Nat → Int64)) => match u with | (u9, o1) => ([(ty_XO x w sp sv bu bl le), (ov, .inl (ct 1, 1, .inr (.inl o1)))] ++ u9))) (va_A ([(ty_XO x w sp sv bu bl le), (ov, .inl (ct 1, 1, .inr (.inl o)))] ++ ws) sz)) 1 6 (va_A ([(ty_XO x w sp sv bu bl le), (ov, .inl (ct 1, 1, .inr (.inl o)))] ++ ws) sz) := by
  refine va_MetW (cc := cL_skip) (maxL := 4) (ret := (some .int)) (hh := [(0, 9, 12, 32)]) (by decide) rfl ?_
  intro p e s m args below meth c s₁ B hml hv
  have hts0 := atoms_spec (ws := wsw_ yL_skip cL_skip 4 (some .int) [(0, 9, 12, 32)]) B.pre
  have hts : ∀ w ∈ cm_all, w.before args s = true := fun w h => hts0 w (List.mem_cons_of_mem _ h)
  obtain ⟨rfl, ⟨hsz, hP, hK, hD0, hX⟩, hNc⟩ := hv
  have hx := B.exec
  have hb := B.bytes
  have hr := B.returns
  have htab := vx_table (x := yL_skip) B (hts0 _ List.mem_cons_self)
  have hown : s.vm.findClass RL = some m.cls := findClass_of_methodNamed B.named
  have hlocks := B.notSynchronized
  subst hsz
  have hD := hD0.self (sz := s.heap.size)
  generalize hAe : va_A ([(ty_XO x w sp sv bu bl le), (ov, .inl (ct 1, 1, .inr (.inl o)))] ++ ws) s.heap.size = A at hD hX ⊢
  have hA : ∀ q : Nat, s.heap.size ≤ q → A q := fun q h => by rw [← hAe]; exact Or.inr h
  have hS : va_S A s.heap s.heap [] := va_S.rf
  have hl := lv_entry ([.ref x, .int p1, .ref ov]) (n := 4) (Nat.le_of_ble_eq_true rfl)
  rw [lg_entry_eq]
  generalize (lg_sl ([.ref x, .int p1, .ref ov]) ++ List.replicate (4 - (lg_sl ([.ref x, .int p1, .ref ov])).length) Slot.unset).toArray = ls at hl ⊢
  have hl : lv_has ls 4 [(0, .ref x), (1, .int p1), (2, .ref ov)] := hl
  refine lv_aload_n hx hb dL_skip_0 rfl (lv_at hl 2 rfl) ?_
  refine lv_iconst (v := 0) hx hb dL_skip_1 (by decide) ?_
  refine lv_aload_n hx hb dL_skip_2 rfl (lv_at hl 0 rfl) ?_
  refine lv_iload_n hx hb dL_skip_3 rfl (lv_at hl 1 rfl) ?_
  have hP : va_P D vwCl ([(ov, .inl (ct 1, 1, .inr (.inl o))), (ty_XO x w sp sv bu bl le)] ++ ws) s.heap := ty_permP hP (ty_ordp (E := [(ty_XO x w sp sv bu bl le), (ov, .inl (ct 1, 1, .inr (.inl o)))]) (E2 := [(ov, .inl (ct 1, 1, .inr (.inl o))), (ty_XO x w sp sv bu bl le)]) (n := 2) [1, 0] rfl rfl (by decide))
  have hD : va_D A ([(ov, .inl (ct 1, 1, .inr (.inl o))), (ty_XO x w sp sv bu bl le)] ++ ws) := ty_permD hD (ty_ordp (E := [(ty_XO x w sp sv bu bl le), (ov, .inl (ct 1, 1, .inr (.inl o)))]) (E2 := [(ov, .inl (ct 1, 1, .inr (.inl o))), (ty_XO x w sp sv bu bl le)]) (n := 2) [1, 0] rfl rfl (by decide))
  refine ty_xi (wr := [(ov, .inl (ct 1, 1, .inr (.inl o)))]) (wc := ([(ty_XO x w sp sv bu bl le)] ++ ws)) (vx_runV (As := [.int p1]) (rest := [.int 0, .ref ov]) ⟨hx, hb, hml, hown, hts⟩ (t_X10_skip l hfl D ct S ws ph xx x w sp sv bu ns bl le p1 _ hT h_w h_sp h_sv hph hy1) (cm_V 1 hts kc_X10_skip ki_RX10 kl_RL_49 kv_X10_skip kx_X10_skip kd_X10_skip ⟨Nat.le_of_ble_eq_true rfl, Nat.le_of_ble_eq_true rfl⟩) (ty_preE (wr := [(ov, .inl (ct 1, 1, .inr (.inl o)))]) (wc := ([(ty_XO x w sp sv bu bl le)] ++ ws)) (ci := 10) (q0 := 1) hP hK hD hS hA hX rfl rfl) rfl rfl hl.1 rfl (lv_room (Nat.le_of_ble_eq_true rfl)) dL_skip_4 ⟨Nat.le_of_ble_eq_true rfl, Nat.le_of_ble_eq_true rfl⟩) hP hD hS hA (fun E ce q9 u H locs hu hE hP hD hS hce hcv hcl => ?_) (fun r_1 u H locs hw_2 hP hD hS => ?_)
  · obtain ⟨ws_3, rfl⟩ : ∃ z, z = u := ⟨_, rfl⟩
    have hT := hu
    have hP : va_P D vwCl ([(ov, .inl (ct 1, 1, .inr (.inl o))), (ty_XO x w sp sv bu bl le)] ++ ws_3) H := hP
    have hD : va_D A ([(ov, .inl (ct 1, 1, .inr (.inl o))), (ty_XO x w sp sv bu bl le)] ++ ws_3) := hD
    obtain rfl := List.mem_singleton.mp hE
    refine vx_catch (name := "java/lang/IndexOutOfBoundsException") hown [] _ _ htab (fun z hz => absurd hz List.not_mem_nil) (by decide) (by decide) (hts _ kl_RL_32) (hts _ kcast_IOE) hce hcv hcl ?_
    refine W.eq (g2 := F0 m 12 ls [.ref q9]) rfl ?_
    refine lv_astore_n (lv' := [(3, .ref q9), (0, .ref x), (1, .int p1), (2, .ref ov)]) hx hb dL_skip_12 rfl hl (by decide) rfl (fun ls hl => ?_)
    refine lv_iconst (v := 1) hx hb dL_skip_13 (by decide) ?_
    have hP : va_P D vwCl ([(ty_XO x w sp sv bu bl le), (ov, .inl (ct 1, 1, .inr (.inl o)))] ++ ws_3) H := ty_permP hP (ty_ordp (E := [(ov, .inl (ct 1, 1, .inr (.inl o))), (ty_XO x w sp sv bu bl le)]) (E2 := [(ty_XO x w sp sv bu bl le), (ov, .inl (ct 1, 1, .inr (.inl o)))]) (n := 2) [1, 0] rfl rfl (by decide))
    have hD : va_D A ([(ty_XO x w sp sv bu bl le), (ov, .inl (ct 1, 1, .inr (.inl o)))] ++ ws_3) := ty_permD hD (ty_ordp (E := [(ov, .inl (ct 1, 1, .inr (.inl o))), (ty_XO x w sp sv bu bl le)]) (E2 := [(ty_XO x w sp sv bu bl le), (ov, .inl (ct 1, 1, .inr (.inl o)))]) (n := 2) [1, 0] rfl rfl (by decide))
    exact W.iret (v := 1) hx hb hr (fun t ht hW => ⟨⟨1, (ws_3, o), rfl, hT, by rw [ht]; exact hP, by rw [hAe]; exact hD⟩, hS.F ht⟩) hS.2.2 dL_skip_14
  · obtain ⟨ws_4, rfl⟩ : ∃ z, z = u := ⟨_, rfl⟩
    have hT := hw_2
    have hP : va_P D vwCl ([(ov, .inl (ct 1, 1, .inr (.inl o))), (ty_XO x w sp sv bu bl le)] ++ ws_4) H := hP
    have hD : va_D A ([(ov, .inl (ct 1, 1, .inr (.inl o))), (ty_XO x w sp sv bu bl le)] ++ ws_4) := hD
    refine W.widen (k := 1) (n := 6) (Nat.le_of_ble_eq_true rfl) (Nat.le_of_ble_eq_true rfl) ?_
    refine lv_i2l hx hb dL_skip_7 rfl ?_
    refine lv_topl (fun x_5 _ => ?_)
    refine va_last hx hb hK hP hD hS 0 1 rfl rfl (cm_vin (by decide)) dL_skip_8 (fun H locs hP hD hS => ?_)
    have hP : va_P D vwCl ([(ov, .inl (ct 1, 1, .inr (.inl (vp_updL o (0 : Int32).toNatClampNeg x_5)))), (ty_XO x w sp sv bu bl le)] ++ ws_4) H := hP
    have hD : va_D A ([(ov, .inl (ct 1, 1, .inr (.inl (vp_updL o (0 : Int32).toNatClampNeg x_5)))), (ty_XO x w sp sv bu bl le)] ++ ws_4) := hD
    refine lv_goto (tgt := 15) hx hb dL_skip_9 (by decide) ?_
    refine lv_iconst (v := 0) hx hb dL_skip_15 (by decide) ?_
    have hP : va_P D vwCl ([(ty_XO x w sp sv bu bl le), (ov, .inl (ct 1, 1, .inr (.inl (vp_updL o (0 : Int32).toNatClampNeg x_5))))] ++ ws_4) H := ty_permP hP (ty_ordp (E := [(ov, .inl (ct 1, 1, .inr (.inl (vp_updL o (0 : Int32).toNatClampNeg x_5)))), (ty_XO x w sp sv bu bl le)]) (E2 := [(ty_XO x w sp sv bu bl le), (ov, .inl (ct 1, 1, .inr (.inl (vp_updL o (0 : Int32).toNatClampNeg x_5))))]) (n := 2) [1, 0] rfl rfl (by decide))
    have hD : va_D A ([(ty_XO x w sp sv bu bl le), (ov, .inl (ct 1, 1, .inr (.inl (vp_updL o (0 : Int32).toNatClampNeg x_5))))] ++ ws_4) := ty_permD hD (ty_ordp (E := [(ov, .inl (ct 1, 1, .inr (.inl (vp_updL o (0 : Int32).toNatClampNeg x_5)))), (ty_XO x w sp sv bu bl le)]) (E2 := [(ty_XO x w sp sv bu bl le), (ov, .inl (ct 1, 1, .inr (.inl (vp_updL o (0 : Int32).toNatClampNeg x_5))))]) (n := 2) [1, 0] rfl rfl (by decide))
    exact W.iret (v := 0) hx hb hr (fun t ht hW => ⟨⟨0, (ws_4, (vp_updL o (0 : Int32).toNatClampNeg x_5)), rfl, hT, by rw [ht]; exact hP, by rw [hAe]; exact hD⟩, hS.F ht⟩) hS.2.2 dL_skip_16
theorem dL_replace_0 : decode cL_replace 0 = .ok (.aload_n 3, 1) := by decide +kernel
theorem dL_replace_1 : decode cL_replace 1 = .ok (.iconst 0, 1) := by decide +kernel
theorem dL_replace_2 : decode cL_replace 2 = .ok (.aload_n 0, 1) := by decide +kernel
theorem dL_replace_3 : decode cL_replace 3 = .ok (.iload_n 1, 1) := by decide +kernel
theorem dL_replace_4 : decode cL_replace 4 = .ok (.iload_n 2, 1) := by decide +kernel
theorem dL_replace_5 : decode cL_replace 5 = .ok (.invokevirtual 52, 3) := by decide +kernel
theorem dL_replace_8 : decode cL_replace 8 = .ok (.i2l, 1) := by decide +kernel
theorem dL_replace_9 : decode cL_replace 9 = .ok (.lastore, 1) := by decide +kernel
theorem dL_replace_10 : decode cL_replace 10 = .ok (.goto 11, 3) := by decide +kernel
theorem dL_replace_13 : decode cL_replace 13 = .ok (.astore 4, 2) := by decide +kernel
theorem dL_replace_15 : decode cL_replace 15 = .ok (.iconst 1, 1) := by decide +kernel
theorem dL_replace_16 : decode cL_replace 16 = .ok (.ireturn, 1) := by decide +kernel
theorem dL_replace_17 : decode cL_replace 17 = .ok (.astore 4, 2) := by decide +kernel
theorem dL_replace_19 : decode cL_replace 19 = .ok (.iconst 2, 1) := by decide +kernel
theorem dL_replace_20 : decode cL_replace 20 = .ok (.ireturn, 1) := by decide +kernel
theorem dL_replace_21 : decode cL_replace 21 = .ok (.iconst 0, 1) := by decide +kernel
theorem dL_replace_22 : decode cL_replace 22 = .ok (.ireturn, 1) := by decide +kernel
set_option maxRecDepth 100000 in
set_option maxHeartbeats 4000000 in
theorem tl_replace (l : Launch) (hfl : l.stackTraces = false) (D : va_G) (ct : Nat → ClassId) (S : ty_S) (ws : va_W) (ph : va_W → Prop) (xx : Nat → Nat → Nat → Prop) (x : Nat) (w : Nat) (sp : Nat) (sv : Nat) (bu : Nat) (ns : Nat) (bl : Int32) (le : Int32) (p1 : Int32) (p2 : Int32) (ov : Nat) (o : Nat → Int64) (sz : Nat) (hT : ty_V ct S ph ws) (h_w : S w = some (.inl 9)) (h_sp : S sp = some (.inl 9)) (h_sv : S sv = some (.inr (4, ns))) (hph : ty_C ph xx) (hy1 : ty_y1 xx) (hy11 : ty_y0 xx 11) : Met l yL_replace (wsw_ yL_replace cL_replace 5 (some .int) [(0, 10, 13, 32), (0, 10, 17, 13)]) ({ frames := 8, cells := 2, slots := 12, locals := 136 } : Room) (va_Pc [.ref x, .int p1, .int p2, .ref ov] (cmPn D ct sz ([(ty_XO x w sp sv bu bl le), (ov, .inl (ct 1, 1, .inr (.inl o)))] ++ ws))) (va_Qi (fun (r : Int32) (u : va_W × (Nat → Int64)) => match u with | (u9, o1) => ty_V ct S ph u9) (cmB D ([(ty_XO x w sp sv bu bl le), (ov, .inl (ct 1, 1, .inr (.inl o)))] ++ ws) sz (fun (u : va_W × (Nat → Int64)) => match u with | (u9, o1) => ([(ty_XO x w sp sv bu bl le), (ov, .inl (ct 1, 1, .inr (.inl o1)))] ++ u9))) (va_A ([(ty_XO x w sp sv bu bl le), (ov, .inl (ct 1, 1, .inr (.inl o)))] ++ ws) sz)) 2 12 (va_A ([(ty_XO x w sp sv bu bl le), (ov, .inl (ct 1, 1, .inr (.inl o)))] ++ ws) sz) := by
  refine va_MetW (cc := cL_replace) (maxL := 5) (ret := (some .int)) (hh := [(0, 10, 13, 32), (0, 10, 17, 13)]) (by decide) rfl ?_
  intro p e s m args below meth c s₁ B hml hv
  have hts0 := atoms_spec (ws := wsw_ yL_replace cL_replace 5 (some .int) [(0, 10, 13, 32), (0, 10, 17, 13)]) B.pre
  have hts : ∀ w ∈ cm_all, w.before args s = true := fun w h => hts0 w (List.mem_cons_of_mem _ h)
  obtain ⟨rfl, ⟨hsz, hP, hK, hD0, hX⟩, hNc⟩ := hv
  have hx := B.exec
  have hb := B.bytes
  have hr := B.returns
  have htab := vx_table (x := yL_replace) B (hts0 _ List.mem_cons_self)
  have hown : s.vm.findClass RL = some m.cls := findClass_of_methodNamed B.named
  have hlocks := B.notSynchronized
  subst hsz
  have hD := hD0.self (sz := s.heap.size)
  generalize hAe : va_A ([(ty_XO x w sp sv bu bl le), (ov, .inl (ct 1, 1, .inr (.inl o)))] ++ ws) s.heap.size = A at hD hX ⊢
  have hA : ∀ q : Nat, s.heap.size ≤ q → A q := fun q h => by rw [← hAe]; exact Or.inr h
  have hS : va_S A s.heap s.heap [] := va_S.rf
  have hl := lv_entry ([.ref x, .int p1, .int p2, .ref ov]) (n := 5) (Nat.le_of_ble_eq_true rfl)
  rw [lg_entry_eq]
  generalize (lg_sl ([.ref x, .int p1, .int p2, .ref ov]) ++ List.replicate (5 - (lg_sl ([.ref x, .int p1, .int p2, .ref ov])).length) Slot.unset).toArray = ls at hl ⊢
  have hl : lv_has ls 5 [(0, .ref x), (1, .int p1), (2, .int p2), (3, .ref ov)] := hl
  refine lv_aload_n hx hb dL_replace_0 rfl (lv_at hl 3 rfl) ?_
  refine lv_iconst (v := 0) hx hb dL_replace_1 (by decide) ?_
  refine lv_aload_n hx hb dL_replace_2 rfl (lv_at hl 0 rfl) ?_
  refine lv_iload_n hx hb dL_replace_3 rfl (lv_at hl 1 rfl) ?_
  refine lv_iload_n hx hb dL_replace_4 rfl (lv_at hl 2 rfl) ?_
  have hP : va_P D vwCl ([(ov, .inl (ct 1, 1, .inr (.inl o))), (ty_XO x w sp sv bu bl le)] ++ ws) s.heap := ty_permP hP (ty_ordp (E := [(ty_XO x w sp sv bu bl le), (ov, .inl (ct 1, 1, .inr (.inl o)))]) (E2 := [(ov, .inl (ct 1, 1, .inr (.inl o))), (ty_XO x w sp sv bu bl le)]) (n := 2) [1, 0] rfl rfl (by decide))
  have hD : va_D A ([(ov, .inl (ct 1, 1, .inr (.inl o))), (ty_XO x w sp sv bu bl le)] ++ ws) := ty_permD hD (ty_ordp (E := [(ty_XO x w sp sv bu bl le), (ov, .inl (ct 1, 1, .inr (.inl o)))]) (E2 := [(ov, .inl (ct 1, 1, .inr (.inl o))), (ty_XO x w sp sv bu bl le)]) (n := 2) [1, 0] rfl rfl (by decide))
  refine ty_xi (wr := [(ov, .inl (ct 1, 1, .inr (.inl o)))]) (wc := ([(ty_XO x w sp sv bu bl le)] ++ ws)) (vx_runV (As := [.int p1, .int p2]) (rest := [.int 0, .ref ov]) ⟨hx, hb, hml, hown, hts⟩ (t_X10_replace l hfl D ct S ws ph xx x w sp sv bu ns bl le p1 p2 _ hT h_w h_sp h_sv hph hy1) (cm_V 2 hts kc_X10_replace ki_RX10 kl_RL_52 kv_X10_replace kx_X10_replace kd_X10_replace ⟨Nat.le_of_ble_eq_true rfl, Nat.le_of_ble_eq_true rfl⟩) (ty_preE (wr := [(ov, .inl (ct 1, 1, .inr (.inl o)))]) (wc := ([(ty_XO x w sp sv bu bl le)] ++ ws)) (ci := 10) (q0 := 1) hP hK hD hS hA hX rfl rfl) rfl rfl hl.1 rfl (lv_room (Nat.le_of_ble_eq_true rfl)) dL_replace_5 ⟨Nat.le_of_ble_eq_true rfl, Nat.le_of_ble_eq_true rfl⟩) hP hD hS hA (fun E ce q9 u H locs hu hE hP hD hS hce hcv hcl => ?_) (fun r_1 u H locs hw_2 hP hD hS => ?_)
  · obtain ⟨ws_3, rfl⟩ : ∃ z, z = u := ⟨_, rfl⟩
    have hT := hu
    have hP : va_P D vwCl ([(ov, .inl (ct 1, 1, .inr (.inl o))), (ty_XO x w sp sv bu bl le)] ++ ws_3) H := hP
    have hD : va_D A ([(ov, .inl (ct 1, 1, .inr (.inl o))), (ty_XO x w sp sv bu bl le)] ++ ws_3) := hD
    rcases List.mem_cons.mp hE with rfl | hE
    · refine vx_catch (name := "java/lang/IllegalArgumentException") hown [_] _ _ htab (fun z hz => by obtain rfl := List.mem_singleton.mp hz; exact Or.inr ⟨by decide, _, hts _ kl_RL_32, hNc⟩) (by decide) (by decide) (hts _ kl_RL_13) (hts _ kcast_IAE) hce hcv hcl ?_
      refine W.eq (g2 := F0 m 17 ls [.ref q9]) rfl ?_
      refine lv_astore (lv' := [(4, .ref q9), (0, .ref x), (1, .int p1), (2, .int p2), (3, .ref ov)]) hx hb dL_replace_17 hl (by decide) rfl (fun ls hl => ?_)
      refine lv_iconst (v := 2) hx hb dL_replace_19 (by decide) ?_
      have hP : va_P D vwCl ([(ty_XO x w sp sv bu bl le), (ov, .inl (ct 1, 1, .inr (.inl o)))] ++ ws_3) H := ty_permP hP (ty_ordp (E := [(ov, .inl (ct 1, 1, .inr (.inl o))), (ty_XO x w sp sv bu bl le)]) (E2 := [(ty_XO x w sp sv bu bl le), (ov, .inl (ct 1, 1, .inr (.inl o)))]) (n := 2) [1, 0] rfl rfl (by decide))
      have hD : va_D A ([(ty_XO x w sp sv bu bl le), (ov, .inl (ct 1, 1, .inr (.inl o)))] ++ ws_3) := ty_permD hD (ty_ordp (E := [(ov, .inl (ct 1, 1, .inr (.inl o))), (ty_XO x w sp sv bu bl le)]) (E2 := [(ty_XO x w sp sv bu bl le), (ov, .inl (ct 1, 1, .inr (.inl o)))]) (n := 2) [1, 0] rfl rfl (by decide))
      exact W.iret (v := 2) hx hb hr (fun t ht hW => ⟨⟨2, (ws_3, o), rfl, hT, by rw [ht]; exact hP, by rw [hAe]; exact hD⟩, hS.F ht⟩) hS.2.2 dL_replace_20
    · obtain rfl := List.mem_singleton.mp hE
      refine vx_catch (name := "java/lang/IndexOutOfBoundsException") hown [] _ _ htab (fun z hz => absurd hz List.not_mem_nil) (by decide) (by decide) (hts _ kl_RL_32) (hts _ kcast_IOE) hce hcv hcl ?_
      refine W.eq (g2 := F0 m 13 ls [.ref q9]) rfl ?_
      refine lv_astore (lv' := [(4, .ref q9), (0, .ref x), (1, .int p1), (2, .int p2), (3, .ref ov)]) hx hb dL_replace_13 hl (by decide) rfl (fun ls hl => ?_)
      refine lv_iconst (v := 1) hx hb dL_replace_15 (by decide) ?_
      have hP : va_P D vwCl ([(ty_XO x w sp sv bu bl le), (ov, .inl (ct 1, 1, .inr (.inl o)))] ++ ws_3) H := ty_permP hP (ty_ordp (E := [(ov, .inl (ct 1, 1, .inr (.inl o))), (ty_XO x w sp sv bu bl le)]) (E2 := [(ty_XO x w sp sv bu bl le), (ov, .inl (ct 1, 1, .inr (.inl o)))]) (n := 2) [1, 0] rfl rfl (by decide))
      have hD : va_D A ([(ty_XO x w sp sv bu bl le), (ov, .inl (ct 1, 1, .inr (.inl o)))] ++ ws_3) := ty_permD hD (ty_ordp (E := [(ov, .inl (ct 1, 1, .inr (.inl o))), (ty_XO x w sp sv bu bl le)]) (E2 := [(ty_XO x w sp sv bu bl le), (ov, .inl (ct 1, 1, .inr (.inl o)))]) (n := 2) [1, 0] rfl rfl (by decide))
      exact W.iret (v := 1) hx hb hr (fun t ht hW => ⟨⟨1, (ws_3, o), rfl, hT, by rw [ht]; exact hP, by rw [hAe]; exact hD⟩, hS.F ht⟩) hS.2.2 dL_replace_16
  · obtain ⟨ws_4, rfl⟩ : ∃ z, z = u := ⟨_, rfl⟩
    have hT := hw_2
    have hP : va_P D vwCl ([(ov, .inl (ct 1, 1, .inr (.inl o))), (ty_XO x w sp sv bu bl le)] ++ ws_4) H := hP
    have hD : va_D A ([(ov, .inl (ct 1, 1, .inr (.inl o))), (ty_XO x w sp sv bu bl le)] ++ ws_4) := hD
    refine W.widen (k := 2) (n := 12) (Nat.le_of_ble_eq_true rfl) (Nat.le_of_ble_eq_true rfl) ?_
    refine lv_i2l hx hb dL_replace_8 rfl ?_
    refine lv_topl (fun x_5 _ => ?_)
    refine va_last hx hb hK hP hD hS 0 1 rfl rfl (cm_vin (by decide)) dL_replace_9 (fun H locs hP hD hS => ?_)
    have hP : va_P D vwCl ([(ov, .inl (ct 1, 1, .inr (.inl (vp_updL o (0 : Int32).toNatClampNeg x_5)))), (ty_XO x w sp sv bu bl le)] ++ ws_4) H := hP
    have hD : va_D A ([(ov, .inl (ct 1, 1, .inr (.inl (vp_updL o (0 : Int32).toNatClampNeg x_5)))), (ty_XO x w sp sv bu bl le)] ++ ws_4) := hD
    refine lv_goto (tgt := 21) hx hb dL_replace_10 (by decide) ?_
    refine lv_iconst (v := 0) hx hb dL_replace_21 (by decide) ?_
    have hP : va_P D vwCl ([(ty_XO x w sp sv bu bl le), (ov, .inl (ct 1, 1, .inr (.inl (vp_updL o (0 : Int32).toNatClampNeg x_5))))] ++ ws_4) H := ty_permP hP (ty_ordp (E := [(ov, .inl (ct 1, 1, .inr (.inl (vp_updL o (0 : Int32).toNatClampNeg x_5)))), (ty_XO x w sp sv bu bl le)]) (E2 := [(ty_XO x w sp sv bu bl le), (ov, .inl (ct 1, 1, .inr (.inl (vp_updL o (0 : Int32).toNatClampNeg x_5))))]) (n := 2) [1, 0] rfl rfl (by decide))
    have hD : va_D A ([(ty_XO x w sp sv bu bl le), (ov, .inl (ct 1, 1, .inr (.inl (vp_updL o (0 : Int32).toNatClampNeg x_5))))] ++ ws_4) := ty_permD hD (ty_ordp (E := [(ov, .inl (ct 1, 1, .inr (.inl (vp_updL o (0 : Int32).toNatClampNeg x_5)))), (ty_XO x w sp sv bu bl le)]) (E2 := [(ty_XO x w sp sv bu bl le), (ov, .inl (ct 1, 1, .inr (.inl (vp_updL o (0 : Int32).toNatClampNeg x_5))))]) (n := 2) [1, 0] rfl rfl (by decide))
    exact W.iret (v := 0) hx hb hr (fun t ht hW => ⟨⟨0, (ws_4, (vp_updL o (0 : Int32).toNatClampNeg x_5)), rfl, hT, by rw [ht]; exact hP, by rw [hAe]; exact hD⟩, hS.F ht⟩) hS.2.2 dL_replace_22
theorem dL_enqueue_0 : decode cL_enqueue 0 = .ok (.aload_n 3, 1) := by decide +kernel
theorem dL_enqueue_1 : decode cL_enqueue 1 = .ok (.iconst 0, 1) := by decide +kernel
theorem dL_enqueue_2 : decode cL_enqueue 2 = .ok (.aload_n 0, 1) := by decide +kernel
theorem dL_enqueue_3 : decode cL_enqueue 3 = .ok (.iload_n 1, 1) := by decide +kernel
theorem dL_enqueue_4 : decode cL_enqueue 4 = .ok (.iload_n 2, 1) := by decide +kernel
theorem dL_enqueue_5 : decode cL_enqueue 5 = .ok (.invokevirtual 55, 3) := by decide +kernel
theorem dL_enqueue_8 : decode cL_enqueue 8 = .ok (.i2l, 1) := by decide +kernel
theorem dL_enqueue_9 : decode cL_enqueue 9 = .ok (.lastore, 1) := by decide +kernel
theorem dL_enqueue_10 : decode cL_enqueue 10 = .ok (.goto 7, 3) := by decide +kernel
theorem dL_enqueue_13 : decode cL_enqueue 13 = .ok (.astore 4, 2) := by decide +kernel
theorem dL_enqueue_15 : decode cL_enqueue 15 = .ok (.iconst 1, 1) := by decide +kernel
theorem dL_enqueue_16 : decode cL_enqueue 16 = .ok (.ireturn, 1) := by decide +kernel
theorem dL_enqueue_17 : decode cL_enqueue 17 = .ok (.iconst 0, 1) := by decide +kernel
theorem dL_enqueue_18 : decode cL_enqueue 18 = .ok (.ireturn, 1) := by decide +kernel
set_option maxRecDepth 100000 in
set_option maxHeartbeats 4000000 in
theorem tl_enqueue (l : Launch) (hfl : l.stackTraces = false) (D : va_G) (ct : Nat → ClassId) (S : ty_S) (ws : va_W) (ph : va_W → Prop) (xx : Nat → Nat → Nat → Prop) (x : Nat) (w : Nat) (sp : Nat) (sv : Nat) (bu : Nat) (ns : Nat) (bl : Int32) (le : Int32) (p1 : Int32) (p2 : Int32) (ov : Nat) (o : Nat → Int64) (sz : Nat) (hT : ty_V ct S ph ws) (h_w : S w = some (.inl 9)) (h_sp : S sp = some (.inl 9)) (h_sv : S sv = some (.inr (4, ns))) (hph : ty_C ph xx) (hy1 : ty_y1 xx) (hy11 : ty_y0 xx 11) : Met l yL_enqueue (wsw_ yL_enqueue cL_enqueue 5 (some .int) [(0, 10, 13, 32)]) ({ frames := 8, cells := 2, slots := 12, locals := 135 } : Room) (va_Pc [.ref x, .int p1, .int p2, .ref ov] (cmPn D ct sz ([(ty_XO x w sp sv bu bl le), (ov, .inl (ct 1, 1, .inr (.inl o)))] ++ ws))) (va_Qi (fun (r : Int32) (u : va_W × (Nat → Int64)) => match u with | (u9, o1) => ty_V ct S ph u9) (cmB D ([(ty_XO x w sp sv bu bl le), (ov, .inl (ct 1, 1, .inr (.inl o)))] ++ ws) sz (fun (u : va_W × (Nat → Int64)) => match u with | (u9, o1) => ([(ty_XO x w sp sv bu bl le), (ov, .inl (ct 1, 1, .inr (.inl o1)))] ++ u9))) (va_A ([(ty_XO x w sp sv bu bl le), (ov, .inl (ct 1, 1, .inr (.inl o)))] ++ ws) sz)) 2 12 (va_A ([(ty_XO x w sp sv bu bl le), (ov, .inl (ct 1, 1, .inr (.inl o)))] ++ ws) sz) := by
  refine va_MetW (cc := cL_enqueue) (maxL := 5) (ret := (some .int)) (hh := [(0, 10, 13, 32)]) (by decide) rfl ?_
  intro p e s m args below meth c s₁ B hml hv
  have hts0 := atoms_spec (ws := wsw_ yL_enqueue cL_enqueue 5 (some .int) [(0, 10, 13, 32)]) B.pre
  have hts : ∀ w ∈ cm_all, w.before args s = true := fun w h => hts0 w (List.mem_cons_of_mem _ h)
  obtain ⟨rfl, ⟨hsz, hP, hK, hD0, hX⟩, hNc⟩ := hv
  have hx := B.exec
  have hb := B.bytes
  have hr := B.returns
  have htab := vx_table (x := yL_enqueue) B (hts0 _ List.mem_cons_self)
  have hown : s.vm.findClass RL = some m.cls := findClass_of_methodNamed B.named
  have hlocks := B.notSynchronized
  subst hsz
  have hD := hD0.self (sz := s.heap.size)
  generalize hAe : va_A ([(ty_XO x w sp sv bu bl le), (ov, .inl (ct 1, 1, .inr (.inl o)))] ++ ws) s.heap.size = A at hD hX ⊢
  have hA : ∀ q : Nat, s.heap.size ≤ q → A q := fun q h => by rw [← hAe]; exact Or.inr h
  have hS : va_S A s.heap s.heap [] := va_S.rf
  have hl := lv_entry ([.ref x, .int p1, .int p2, .ref ov]) (n := 5) (Nat.le_of_ble_eq_true rfl)
  rw [lg_entry_eq]
  generalize (lg_sl ([.ref x, .int p1, .int p2, .ref ov]) ++ List.replicate (5 - (lg_sl ([.ref x, .int p1, .int p2, .ref ov])).length) Slot.unset).toArray = ls at hl ⊢
  have hl : lv_has ls 5 [(0, .ref x), (1, .int p1), (2, .int p2), (3, .ref ov)] := hl
  refine lv_aload_n hx hb dL_enqueue_0 rfl (lv_at hl 3 rfl) ?_
  refine lv_iconst (v := 0) hx hb dL_enqueue_1 (by decide) ?_
  refine lv_aload_n hx hb dL_enqueue_2 rfl (lv_at hl 0 rfl) ?_
  refine lv_iload_n hx hb dL_enqueue_3 rfl (lv_at hl 1 rfl) ?_
  refine lv_iload_n hx hb dL_enqueue_4 rfl (lv_at hl 2 rfl) ?_
  have hP : va_P D vwCl ([(ov, .inl (ct 1, 1, .inr (.inl o))), (ty_XO x w sp sv bu bl le)] ++ ws) s.heap := ty_permP hP (ty_ordp (E := [(ty_XO x w sp sv bu bl le), (ov, .inl (ct 1, 1, .inr (.inl o)))]) (E2 := [(ov, .inl (ct 1, 1, .inr (.inl o))), (ty_XO x w sp sv bu bl le)]) (n := 2) [1, 0] rfl rfl (by decide))
  have hD : va_D A ([(ov, .inl (ct 1, 1, .inr (.inl o))), (ty_XO x w sp sv bu bl le)] ++ ws) := ty_permD hD (ty_ordp (E := [(ty_XO x w sp sv bu bl le), (ov, .inl (ct 1, 1, .inr (.inl o)))]) (E2 := [(ov, .inl (ct 1, 1, .inr (.inl o))), (ty_XO x w sp sv bu bl le)]) (n := 2) [1, 0] rfl rfl (by decide))
  refine ty_xi (wr := [(ov, .inl (ct 1, 1, .inr (.inl o)))]) (wc := ([(ty_XO x w sp sv bu bl le)] ++ ws)) (vx_runV (As := [.int p1, .int p2]) (rest := [.int 0, .ref ov]) ⟨hx, hb, hml, hown, hts⟩ (t_X10_enqueue l hfl D ct S ws ph xx x w sp sv bu ns bl le p1 p2 _ hT h_w h_sp h_sv hph hy1) (cm_V 2 hts kc_X10_enqueue ki_RX10 kl_RL_55 kv_X10_enqueue kx_X10_enqueue kd_X10_enqueue ⟨Nat.le_of_ble_eq_true rfl, Nat.le_of_ble_eq_true rfl⟩) (ty_preE (wr := [(ov, .inl (ct 1, 1, .inr (.inl o)))]) (wc := ([(ty_XO x w sp sv bu bl le)] ++ ws)) (ci := 10) (q0 := 1) hP hK hD hS hA hX rfl rfl) rfl rfl hl.1 rfl (lv_room (Nat.le_of_ble_eq_true rfl)) dL_enqueue_5 ⟨Nat.le_of_ble_eq_true rfl, Nat.le_of_ble_eq_true rfl⟩) hP hD hS hA (fun E ce q9 u H locs hu hE hP hD hS hce hcv hcl => ?_) (fun r_1 u H locs hw_2 hP hD hS => ?_)
  · obtain ⟨ws_3, rfl⟩ : ∃ z, z = u := ⟨_, rfl⟩
    have hT := hu
    have hP : va_P D vwCl ([(ov, .inl (ct 1, 1, .inr (.inl o))), (ty_XO x w sp sv bu bl le)] ++ ws_3) H := hP
    have hD : va_D A ([(ov, .inl (ct 1, 1, .inr (.inl o))), (ty_XO x w sp sv bu bl le)] ++ ws_3) := hD
    obtain rfl := List.mem_singleton.mp hE
    refine vx_catch (name := "java/lang/IndexOutOfBoundsException") hown [] _ _ htab (fun z hz => absurd hz List.not_mem_nil) (by decide) (by decide) (hts _ kl_RL_32) (hts _ kcast_IOE) hce hcv hcl ?_
    refine W.eq (g2 := F0 m 13 ls [.ref q9]) rfl ?_
    refine lv_astore (lv' := [(4, .ref q9), (0, .ref x), (1, .int p1), (2, .int p2), (3, .ref ov)]) hx hb dL_enqueue_13 hl (by decide) rfl (fun ls hl => ?_)
    refine lv_iconst (v := 1) hx hb dL_enqueue_15 (by decide) ?_
    have hP : va_P D vwCl ([(ty_XO x w sp sv bu bl le), (ov, .inl (ct 1, 1, .inr (.inl o)))] ++ ws_3) H := ty_permP hP (ty_ordp (E := [(ov, .inl (ct 1, 1, .inr (.inl o))), (ty_XO x w sp sv bu bl le)]) (E2 := [(ty_XO x w sp sv bu bl le), (ov, .inl (ct 1, 1, .inr (.inl o)))]) (n := 2) [1, 0] rfl rfl (by decide))
    have hD : va_D A ([(ty_XO x w sp sv bu bl le), (ov, .inl (ct 1, 1, .inr (.inl o)))] ++ ws_3) := ty_permD hD (ty_ordp (E := [(ov, .inl (ct 1, 1, .inr (.inl o))), (ty_XO x w sp sv bu bl le)]) (E2 := [(ty_XO x w sp sv bu bl le), (ov, .inl (ct 1, 1, .inr (.inl o)))]) (n := 2) [1, 0] rfl rfl (by decide))
    exact W.iret (v := 1) hx hb hr (fun t ht hW => ⟨⟨1, (ws_3, o), rfl, hT, by rw [ht]; exact hP, by rw [hAe]; exact hD⟩, hS.F ht⟩) hS.2.2 dL_enqueue_16
  · obtain ⟨ws_4, rfl⟩ : ∃ z, z = u := ⟨_, rfl⟩
    have hT := hw_2
    have hP : va_P D vwCl ([(ov, .inl (ct 1, 1, .inr (.inl o))), (ty_XO x w sp sv bu bl le)] ++ ws_4) H := hP
    have hD : va_D A ([(ov, .inl (ct 1, 1, .inr (.inl o))), (ty_XO x w sp sv bu bl le)] ++ ws_4) := hD
    refine W.widen (k := 2) (n := 12) (Nat.le_of_ble_eq_true rfl) (Nat.le_of_ble_eq_true rfl) ?_
    refine lv_i2l hx hb dL_enqueue_8 rfl ?_
    refine lv_topl (fun x_5 _ => ?_)
    refine va_last hx hb hK hP hD hS 0 1 rfl rfl (cm_vin (by decide)) dL_enqueue_9 (fun H locs hP hD hS => ?_)
    have hP : va_P D vwCl ([(ov, .inl (ct 1, 1, .inr (.inl (vp_updL o (0 : Int32).toNatClampNeg x_5)))), (ty_XO x w sp sv bu bl le)] ++ ws_4) H := hP
    have hD : va_D A ([(ov, .inl (ct 1, 1, .inr (.inl (vp_updL o (0 : Int32).toNatClampNeg x_5)))), (ty_XO x w sp sv bu bl le)] ++ ws_4) := hD
    refine lv_goto (tgt := 17) hx hb dL_enqueue_10 (by decide) ?_
    refine lv_iconst (v := 0) hx hb dL_enqueue_17 (by decide) ?_
    have hP : va_P D vwCl ([(ty_XO x w sp sv bu bl le), (ov, .inl (ct 1, 1, .inr (.inl (vp_updL o (0 : Int32).toNatClampNeg x_5))))] ++ ws_4) H := ty_permP hP (ty_ordp (E := [(ov, .inl (ct 1, 1, .inr (.inl (vp_updL o (0 : Int32).toNatClampNeg x_5)))), (ty_XO x w sp sv bu bl le)]) (E2 := [(ty_XO x w sp sv bu bl le), (ov, .inl (ct 1, 1, .inr (.inl (vp_updL o (0 : Int32).toNatClampNeg x_5))))]) (n := 2) [1, 0] rfl rfl (by decide))
    have hD : va_D A ([(ty_XO x w sp sv bu bl le), (ov, .inl (ct 1, 1, .inr (.inl (vp_updL o (0 : Int32).toNatClampNeg x_5))))] ++ ws_4) := ty_permD hD (ty_ordp (E := [(ov, .inl (ct 1, 1, .inr (.inl (vp_updL o (0 : Int32).toNatClampNeg x_5)))), (ty_XO x w sp sv bu bl le)]) (E2 := [(ty_XO x w sp sv bu bl le), (ov, .inl (ct 1, 1, .inr (.inl (vp_updL o (0 : Int32).toNatClampNeg x_5))))]) (n := 2) [1, 0] rfl rfl (by decide))
    exact W.iret (v := 0) hx hb hr (fun t ht hW => ⟨⟨0, (ws_4, (vp_updL o (0 : Int32).toNatClampNeg x_5)), rfl, hT, by rw [ht]; exact hP, by rw [hAe]; exact hD⟩, hS.F ht⟩) hS.2.2 dL_enqueue_18
theorem dL_dequeue_0 : decode cL_dequeue 0 = .ok (.aload_n 2, 1) := by decide +kernel
theorem dL_dequeue_1 : decode cL_dequeue 1 = .ok (.iconst 0, 1) := by decide +kernel
theorem dL_dequeue_2 : decode cL_dequeue 2 = .ok (.aload_n 0, 1) := by decide +kernel
theorem dL_dequeue_3 : decode cL_dequeue 3 = .ok (.iload_n 1, 1) := by decide +kernel
theorem dL_dequeue_4 : decode cL_dequeue 4 = .ok (.invokevirtual 58, 3) := by decide +kernel
theorem dL_dequeue_7 : decode cL_dequeue 7 = .ok (.i2l, 1) := by decide +kernel
theorem dL_dequeue_8 : decode cL_dequeue 8 = .ok (.lastore, 1) := by decide +kernel
theorem dL_dequeue_9 : decode cL_dequeue 9 = .ok (.goto 6, 3) := by decide +kernel
theorem dL_dequeue_12 : decode cL_dequeue 12 = .ok (.astore_n 3, 1) := by decide +kernel
theorem dL_dequeue_13 : decode cL_dequeue 13 = .ok (.iconst 1, 1) := by decide +kernel
theorem dL_dequeue_14 : decode cL_dequeue 14 = .ok (.ireturn, 1) := by decide +kernel
theorem dL_dequeue_15 : decode cL_dequeue 15 = .ok (.iconst 0, 1) := by decide +kernel
theorem dL_dequeue_16 : decode cL_dequeue 16 = .ok (.ireturn, 1) := by decide +kernel
set_option maxRecDepth 100000 in
set_option maxHeartbeats 4000000 in
theorem tl_dequeue (l : Launch) (hfl : l.stackTraces = false) (D : va_G) (ct : Nat → ClassId) (S : ty_S) (ws : va_W) (ph : va_W → Prop) (xx : Nat → Nat → Nat → Prop) (x : Nat) (w : Nat) (sp : Nat) (sv : Nat) (bu : Nat) (ns : Nat) (bl : Int32) (le : Int32) (p1 : Int32) (ov : Nat) (o : Nat → Int64) (sz : Nat) (hT : ty_V ct S ph ws) (h_w : S w = some (.inl 9)) (h_sp : S sp = some (.inl 9)) (h_sv : S sv = some (.inr (4, ns))) (hph : ty_C ph xx) (hy1 : ty_y1 xx) (hy11 : ty_y0 xx 11) : Met l yL_dequeue (wsw_ yL_dequeue cL_dequeue 4 (some .int) [(0, 9, 12, 32)]) ({ frames := 8, cells := 1, slots := 6, locals := 134 } : Room) (va_Pc [.ref x, .int p1, .ref ov] (cmPn D ct sz ([(ty_XO x w sp sv bu bl le), (ov, .inl (ct 1, 1, .inr (.inl o)))] ++ ws))) (va_Qi (fun (r : Int32) (u : va_W × (Nat → Int64)) => match u with | (u9, o1) => ty_V ct S ph u9) (cmB D ([(ty_XO x w sp sv bu bl le), (ov, .inl (ct 1, 1, .inr (.inl o)))] ++ ws) sz (fun (u : va_W × (Nat → Int64)) => match u with | (u9, o1) => ([(ty_XO x w sp sv bu bl le), (ov, .inl (ct 1, 1, .inr (.inl o1)))] ++ u9))) (va_A ([(ty_XO x w sp sv bu bl le), (ov, .inl (ct 1, 1, .inr (.inl o)))] ++ ws) sz)) 1 6 (va_A ([(ty_XO x w sp sv bu bl le), (ov, .inl (ct 1, 1, .inr (.inl o)))] ++ ws) sz) := by
  refine va_MetW (cc := cL_dequeue) (maxL := 4) (ret := (some .int)) (hh := [(0, 9, 12, 32)]) (by decide) rfl ?_
  intro p e s m args below meth c s₁ B hml hv
  have hts0 := atoms_spec (ws := wsw_ yL_dequeue cL_dequeue 4 (some .int) [(0, 9, 12, 32)]) B.pre
  have hts : ∀ w ∈ cm_all, w.before args s = true := fun w h => hts0 w (List.mem_cons_of_mem _ h)
  obtain ⟨rfl, ⟨hsz, hP, hK, hD0, hX⟩, hNc⟩ := hv
  have hx := B.exec
  have hb := B.bytes
  have hr := B.returns
  have htab := vx_table (x := yL_dequeue) B (hts0 _ List.mem_cons_self)
  have hown : s.vm.findClass RL = some m.cls := findClass_of_methodNamed B.named
  have hlocks := B.notSynchronized
  subst hsz
  have hD := hD0.self (sz := s.heap.size)
  generalize hAe : va_A ([(ty_XO x w sp sv bu bl le), (ov, .inl (ct 1, 1, .inr (.inl o)))] ++ ws) s.heap.size = A at hD hX ⊢
  have hA : ∀ q : Nat, s.heap.size ≤ q → A q := fun q h => by rw [← hAe]; exact Or.inr h
  have hS : va_S A s.heap s.heap [] := va_S.rf
  have hl := lv_entry ([.ref x, .int p1, .ref ov]) (n := 4) (Nat.le_of_ble_eq_true rfl)
  rw [lg_entry_eq]
  generalize (lg_sl ([.ref x, .int p1, .ref ov]) ++ List.replicate (4 - (lg_sl ([.ref x, .int p1, .ref ov])).length) Slot.unset).toArray = ls at hl ⊢
  have hl : lv_has ls 4 [(0, .ref x), (1, .int p1), (2, .ref ov)] := hl
  refine lv_aload_n hx hb dL_dequeue_0 rfl (lv_at hl 2 rfl) ?_
  refine lv_iconst (v := 0) hx hb dL_dequeue_1 (by decide) ?_
  refine lv_aload_n hx hb dL_dequeue_2 rfl (lv_at hl 0 rfl) ?_
  refine lv_iload_n hx hb dL_dequeue_3 rfl (lv_at hl 1 rfl) ?_
  have hP : va_P D vwCl ([(ov, .inl (ct 1, 1, .inr (.inl o))), (ty_XO x w sp sv bu bl le)] ++ ws) s.heap := ty_permP hP (ty_ordp (E := [(ty_XO x w sp sv bu bl le), (ov, .inl (ct 1, 1, .inr (.inl o)))]) (E2 := [(ov, .inl (ct 1, 1, .inr (.inl o))), (ty_XO x w sp sv bu bl le)]) (n := 2) [1, 0] rfl rfl (by decide))
  have hD : va_D A ([(ov, .inl (ct 1, 1, .inr (.inl o))), (ty_XO x w sp sv bu bl le)] ++ ws) := ty_permD hD (ty_ordp (E := [(ty_XO x w sp sv bu bl le), (ov, .inl (ct 1, 1, .inr (.inl o)))]) (E2 := [(ov, .inl (ct 1, 1, .inr (.inl o))), (ty_XO x w sp sv bu bl le)]) (n := 2) [1, 0] rfl rfl (by decide))
  refine ty_xi (wr := [(ov, .inl (ct 1, 1, .inr (.inl o)))]) (wc := ([(ty_XO x w sp sv bu bl le)] ++ ws)) (vx_runV (As := [.int p1]) (rest := [.int 0, .ref ov]) ⟨hx, hb, hml, hown, hts⟩ (t_X10_dequeue l hfl D ct S ws ph xx x w sp sv bu ns bl le p1 _ hT h_w h_sp h_sv hph hy1) (cm_V 1 hts kc_X10_dequeue ki_RX10 kl_RL_58 kv_X10_dequeue kx_X10_dequeue kd_X10_dequeue ⟨Nat.le_of_ble_eq_true rfl, Nat.le_of_ble_eq_true rfl⟩) (ty_preE (wr := [(ov, .inl (ct 1, 1, .inr (.inl o)))]) (wc := ([(ty_XO x w sp sv bu bl le)] ++ ws)) (ci := 10) (q0 := 1) hP hK hD hS hA hX rfl rfl) rfl rfl hl.1 rfl (lv_room (Nat.le_of_ble_eq_true rfl)) dL_dequeue_4 ⟨Nat.le_of_ble_eq_true rfl, Nat.le_of_ble_eq_true rfl⟩) hP hD hS hA (fun E ce q9 u H locs hu hE hP hD hS hce hcv hcl => ?_) (fun r_1 u H locs hw_2 hP hD hS => ?_)
  · obtain ⟨ws_3, rfl⟩ : ∃ z, z = u := ⟨_, rfl⟩
    have hT := hu
    have hP : va_P D vwCl ([(ov, .inl (ct 1, 1, .inr (.inl o))), (ty_XO x w sp sv bu bl le)] ++ ws_3) H := hP
    have hD : va_D A ([(ov, .inl (ct 1, 1, .inr (.inl o))), (ty_XO x w sp sv bu bl le)] ++ ws_3) := hD
    obtain rfl := List.mem_singleton.mp hE
    refine vx_catch (name := "java/lang/IndexOutOfBoundsException") hown [] _ _ htab (fun z hz => absurd hz List.not_mem_nil) (by decide) (by decide) (hts _ kl_RL_32) (hts _ kcast_IOE) hce hcv hcl ?_
    refine W.eq (g2 := F0 m 12 ls [.ref q9]) rfl ?_
    refine lv_astore_n (lv' := [(3, .ref q9), (0, .ref x), (1, .int p1), (2, .ref ov)]) hx hb dL_dequeue_12 rfl hl (by decide) rfl (fun ls hl => ?_)
    refine lv_iconst (v := 1) hx hb dL_dequeue_13 (by decide) ?_
    have hP : va_P D vwCl ([(ty_XO x w sp sv bu bl le), (ov, .inl (ct 1, 1, .inr (.inl o)))] ++ ws_3) H := ty_permP hP (ty_ordp (E := [(ov, .inl (ct 1, 1, .inr (.inl o))), (ty_XO x w sp sv bu bl le)]) (E2 := [(ty_XO x w sp sv bu bl le), (ov, .inl (ct 1, 1, .inr (.inl o)))]) (n := 2) [1, 0] rfl rfl (by decide))
    have hD : va_D A ([(ty_XO x w sp sv bu bl le), (ov, .inl (ct 1, 1, .inr (.inl o)))] ++ ws_3) := ty_permD hD (ty_ordp (E := [(ov, .inl (ct 1, 1, .inr (.inl o))), (ty_XO x w sp sv bu bl le)]) (E2 := [(ty_XO x w sp sv bu bl le), (ov, .inl (ct 1, 1, .inr (.inl o)))]) (n := 2) [1, 0] rfl rfl (by decide))
    exact W.iret (v := 1) hx hb hr (fun t ht hW => ⟨⟨1, (ws_3, o), rfl, hT, by rw [ht]; exact hP, by rw [hAe]; exact hD⟩, hS.F ht⟩) hS.2.2 dL_dequeue_14
  · obtain ⟨ws_4, rfl⟩ : ∃ z, z = u := ⟨_, rfl⟩
    have hT := hw_2
    have hP : va_P D vwCl ([(ov, .inl (ct 1, 1, .inr (.inl o))), (ty_XO x w sp sv bu bl le)] ++ ws_4) H := hP
    have hD : va_D A ([(ov, .inl (ct 1, 1, .inr (.inl o))), (ty_XO x w sp sv bu bl le)] ++ ws_4) := hD
    refine W.widen (k := 1) (n := 6) (Nat.le_of_ble_eq_true rfl) (Nat.le_of_ble_eq_true rfl) ?_
    refine lv_i2l hx hb dL_dequeue_7 rfl ?_
    refine lv_topl (fun x_5 _ => ?_)
    refine va_last hx hb hK hP hD hS 0 1 rfl rfl (cm_vin (by decide)) dL_dequeue_8 (fun H locs hP hD hS => ?_)
    have hP : va_P D vwCl ([(ov, .inl (ct 1, 1, .inr (.inl (vp_updL o (0 : Int32).toNatClampNeg x_5)))), (ty_XO x w sp sv bu bl le)] ++ ws_4) H := hP
    have hD : va_D A ([(ov, .inl (ct 1, 1, .inr (.inl (vp_updL o (0 : Int32).toNatClampNeg x_5)))), (ty_XO x w sp sv bu bl le)] ++ ws_4) := hD
    refine lv_goto (tgt := 15) hx hb dL_dequeue_9 (by decide) ?_
    refine lv_iconst (v := 0) hx hb dL_dequeue_15 (by decide) ?_
    have hP : va_P D vwCl ([(ty_XO x w sp sv bu bl le), (ov, .inl (ct 1, 1, .inr (.inl (vp_updL o (0 : Int32).toNatClampNeg x_5))))] ++ ws_4) H := ty_permP hP (ty_ordp (E := [(ov, .inl (ct 1, 1, .inr (.inl (vp_updL o (0 : Int32).toNatClampNeg x_5)))), (ty_XO x w sp sv bu bl le)]) (E2 := [(ty_XO x w sp sv bu bl le), (ov, .inl (ct 1, 1, .inr (.inl (vp_updL o (0 : Int32).toNatClampNeg x_5))))]) (n := 2) [1, 0] rfl rfl (by decide))
    have hD : va_D A ([(ty_XO x w sp sv bu bl le), (ov, .inl (ct 1, 1, .inr (.inl (vp_updL o (0 : Int32).toNatClampNeg x_5))))] ++ ws_4) := ty_permD hD (ty_ordp (E := [(ov, .inl (ct 1, 1, .inr (.inl (vp_updL o (0 : Int32).toNatClampNeg x_5)))), (ty_XO x w sp sv bu bl le)]) (E2 := [(ty_XO x w sp sv bu bl le), (ov, .inl (ct 1, 1, .inr (.inl (vp_updL o (0 : Int32).toNatClampNeg x_5))))]) (n := 2) [1, 0] rfl rfl (by decide))
    exact W.iret (v := 0) hx hb hr (fun t ht hW => ⟨⟨0, (ws_4, (vp_updL o (0 : Int32).toNatClampNeg x_5)), rfl, hT, by rw [ht]; exact hP, by rw [hAe]; exact hD⟩, hS.F ht⟩) hS.2.2 dL_dequeue_16
theorem dL_startNext_0 : decode cL_startNext 0 = .ok (.aload_n 2, 1) := by decide +kernel
theorem dL_startNext_1 : decode cL_startNext 1 = .ok (.iconst 0, 1) := by decide +kernel
theorem dL_startNext_2 : decode cL_startNext 2 = .ok (.aload_n 0, 1) := by decide +kernel
theorem dL_startNext_3 : decode cL_startNext 3 = .ok (.iload_n 1, 1) := by decide +kernel
theorem dL_startNext_4 : decode cL_startNext 4 = .ok (.invokevirtual 61, 3) := by decide +kernel
theorem dL_startNext_7 : decode cL_startNext 7 = .ok (.i2l, 1) := by decide +kernel
theorem dL_startNext_8 : decode cL_startNext 8 = .ok (.lastore, 1) := by decide +kernel
theorem dL_startNext_9 : decode cL_startNext 9 = .ok (.goto 6, 3) := by decide +kernel
theorem dL_startNext_12 : decode cL_startNext 12 = .ok (.astore_n 3, 1) := by decide +kernel
theorem dL_startNext_13 : decode cL_startNext 13 = .ok (.iconst 1, 1) := by decide +kernel
theorem dL_startNext_14 : decode cL_startNext 14 = .ok (.ireturn, 1) := by decide +kernel
theorem dL_startNext_15 : decode cL_startNext 15 = .ok (.iconst 0, 1) := by decide +kernel
theorem dL_startNext_16 : decode cL_startNext 16 = .ok (.ireturn, 1) := by decide +kernel
set_option maxRecDepth 100000 in
set_option maxHeartbeats 4000000 in
theorem tl_startNext (l : Launch) (hfl : l.stackTraces = false) (D : va_G) (ct : Nat → ClassId) (S : ty_S) (ws : va_W) (ph : va_W → Prop) (xx : Nat → Nat → Nat → Prop) (x : Nat) (w : Nat) (sp : Nat) (sv : Nat) (bu : Nat) (ns : Nat) (bl : Int32) (le : Int32) (p1 : Int32) (ov : Nat) (o : Nat → Int64) (sz : Nat) (hT : ty_V ct S ph ws) (h_w : S w = some (.inl 9)) (h_sp : S sp = some (.inl 9)) (h_sv : S sv = some (.inr (4, ns))) (hph : ty_C ph xx) (hy1 : ty_y1 xx) (hy11 : ty_y0 xx 11) : Met l yL_startNext (wsw_ yL_startNext cL_startNext 4 (some .int) [(0, 9, 12, 32)]) ({ frames := 8, cells := 1, slots := 6, locals := 134 } : Room) (va_Pc [.ref x, .int p1, .ref ov] (cmPn D ct sz ([(ty_XO x w sp sv bu bl le), (ov, .inl (ct 1, 1, .inr (.inl o)))] ++ ws))) (va_Qi (fun (r : Int32) (u : va_W × (Nat → Int64)) => match u with | (u9, o1) => ty_V ct S ph u9) (cmB D ([(ty_XO x w sp sv bu bl le), (ov, .inl (ct 1, 1, .inr (.inl o)))] ++ ws) sz (fun (u : va_W × (Nat → Int64)) => match u with | (u9, o1) => ([(ty_XO x w sp sv bu bl le), (ov, .inl (ct 1, 1, .inr (.inl o1)))] ++ u9))) (va_A ([(ty_XO x w sp sv bu bl le), (ov, .inl (ct 1, 1, .inr (.inl o)))] ++ ws) sz)) 1 6 (va_A ([(ty_XO x w sp sv bu bl le), (ov, .inl (ct 1, 1, .inr (.inl o)))] ++ ws) sz) := by
  refine va_MetW (cc := cL_startNext) (maxL := 4) (ret := (some .int)) (hh := [(0, 9, 12, 32)]) (by decide) rfl ?_
  intro p e s m args below meth c s₁ B hml hv
  have hts0 := atoms_spec (ws := wsw_ yL_startNext cL_startNext 4 (some .int) [(0, 9, 12, 32)]) B.pre
  have hts : ∀ w ∈ cm_all, w.before args s = true := fun w h => hts0 w (List.mem_cons_of_mem _ h)
  obtain ⟨rfl, ⟨hsz, hP, hK, hD0, hX⟩, hNc⟩ := hv
  have hx := B.exec
  have hb := B.bytes
  have hr := B.returns
  have htab := vx_table (x := yL_startNext) B (hts0 _ List.mem_cons_self)
  have hown : s.vm.findClass RL = some m.cls := findClass_of_methodNamed B.named
  have hlocks := B.notSynchronized
  subst hsz
  have hD := hD0.self (sz := s.heap.size)
  generalize hAe : va_A ([(ty_XO x w sp sv bu bl le), (ov, .inl (ct 1, 1, .inr (.inl o)))] ++ ws) s.heap.size = A at hD hX ⊢
  have hA : ∀ q : Nat, s.heap.size ≤ q → A q := fun q h => by rw [← hAe]; exact Or.inr h
  have hS : va_S A s.heap s.heap [] := va_S.rf
  have hl := lv_entry ([.ref x, .int p1, .ref ov]) (n := 4) (Nat.le_of_ble_eq_true rfl)
  rw [lg_entry_eq]
  generalize (lg_sl ([.ref x, .int p1, .ref ov]) ++ List.replicate (4 - (lg_sl ([.ref x, .int p1, .ref ov])).length) Slot.unset).toArray = ls at hl ⊢
  have hl : lv_has ls 4 [(0, .ref x), (1, .int p1), (2, .ref ov)] := hl
  refine lv_aload_n hx hb dL_startNext_0 rfl (lv_at hl 2 rfl) ?_
  refine lv_iconst (v := 0) hx hb dL_startNext_1 (by decide) ?_
  refine lv_aload_n hx hb dL_startNext_2 rfl (lv_at hl 0 rfl) ?_
  refine lv_iload_n hx hb dL_startNext_3 rfl (lv_at hl 1 rfl) ?_
  have hP : va_P D vwCl ([(ov, .inl (ct 1, 1, .inr (.inl o))), (ty_XO x w sp sv bu bl le)] ++ ws) s.heap := ty_permP hP (ty_ordp (E := [(ty_XO x w sp sv bu bl le), (ov, .inl (ct 1, 1, .inr (.inl o)))]) (E2 := [(ov, .inl (ct 1, 1, .inr (.inl o))), (ty_XO x w sp sv bu bl le)]) (n := 2) [1, 0] rfl rfl (by decide))
  have hD : va_D A ([(ov, .inl (ct 1, 1, .inr (.inl o))), (ty_XO x w sp sv bu bl le)] ++ ws) := ty_permD hD (ty_ordp (E := [(ty_XO x w sp sv bu bl le), (ov, .inl (ct 1, 1, .inr (.inl o)))]) (E2 := [(ov, .inl (ct 1, 1, .inr (.inl o))), (ty_XO x w sp sv bu bl le)]) (n := 2) [1, 0] rfl rfl (by decide))
  refine ty_xi (wr := [(ov, .inl (ct 1, 1, .inr (.inl o)))]) (wc := ([(ty_XO x w sp sv bu bl le)] ++ ws)) (vx_runV (As := [.int p1]) (rest := [.int 0, .ref ov]) ⟨hx, hb, hml, hown, hts⟩ (t_X10_startNext l hfl D ct S ws ph xx x w sp sv bu ns bl le p1 _ hT h_w h_sp h_sv hph hy1) (cm_V 1 hts kc_X10_startNext ki_RX10 kl_RL_61 kv_X10_startNext kx_X10_startNext kd_X10_startNext ⟨Nat.le_of_ble_eq_true rfl, Nat.le_of_ble_eq_true rfl⟩) (ty_preE (wr := [(ov, .inl (ct 1, 1, .inr (.inl o)))]) (wc := ([(ty_XO x w sp sv bu bl le)] ++ ws)) (ci := 10) (q0 := 1) hP hK hD hS hA hX rfl rfl) rfl rfl hl.1 rfl (lv_room (Nat.le_of_ble_eq_true rfl)) dL_startNext_4 ⟨Nat.le_of_ble_eq_true rfl, Nat.le_of_ble_eq_true rfl⟩) hP hD hS hA (fun E ce q9 u H locs hu hE hP hD hS hce hcv hcl => ?_) (fun r_1 u H locs hw_2 hP hD hS => ?_)
  · obtain ⟨ws_3, rfl⟩ : ∃ z, z = u := ⟨_, rfl⟩
    have hT := hu
    have hP : va_P D vwCl ([(ov, .inl (ct 1, 1, .inr (.inl o))), (ty_XO x w sp sv bu bl le)] ++ ws_3) H := hP
    have hD : va_D A ([(ov, .inl (ct 1, 1, .inr (.inl o))), (ty_XO x w sp sv bu bl le)] ++ ws_3) := hD
    obtain rfl := List.mem_singleton.mp hE
    refine vx_catch (name := "java/lang/IndexOutOfBoundsException") hown [] _ _ htab (fun z hz => absurd hz List.not_mem_nil) (by decide) (by decide) (hts _ kl_RL_32) (hts _ kcast_IOE) hce hcv hcl ?_
    refine W.eq (g2 := F0 m 12 ls [.ref q9]) rfl ?_
    refine lv_astore_n (lv' := [(3, .ref q9), (0, .ref x), (1, .int p1), (2, .ref ov)]) hx hb dL_startNext_12 rfl hl (by decide) rfl (fun ls hl => ?_)
    refine lv_iconst (v := 1) hx hb dL_startNext_13 (by decide) ?_
    have hP : va_P D vwCl ([(ty_XO x w sp sv bu bl le), (ov, .inl (ct 1, 1, .inr (.inl o)))] ++ ws_3) H := ty_permP hP (ty_ordp (E := [(ov, .inl (ct 1, 1, .inr (.inl o))), (ty_XO x w sp sv bu bl le)]) (E2 := [(ty_XO x w sp sv bu bl le), (ov, .inl (ct 1, 1, .inr (.inl o)))]) (n := 2) [1, 0] rfl rfl (by decide))
    have hD : va_D A ([(ty_XO x w sp sv bu bl le), (ov, .inl (ct 1, 1, .inr (.inl o)))] ++ ws_3) := ty_permD hD (ty_ordp (E := [(ov, .inl (ct 1, 1, .inr (.inl o))), (ty_XO x w sp sv bu bl le)]) (E2 := [(ty_XO x w sp sv bu bl le), (ov, .inl (ct 1, 1, .inr (.inl o)))]) (n := 2) [1, 0] rfl rfl (by decide))
    exact W.iret (v := 1) hx hb hr (fun t ht hW => ⟨⟨1, (ws_3, o), rfl, hT, by rw [ht]; exact hP, by rw [hAe]; exact hD⟩, hS.F ht⟩) hS.2.2 dL_startNext_14
  · obtain ⟨ws_4, rfl⟩ : ∃ z, z = u := ⟨_, rfl⟩
    have hT := hw_2
    have hP : va_P D vwCl ([(ov, .inl (ct 1, 1, .inr (.inl o))), (ty_XO x w sp sv bu bl le)] ++ ws_4) H := hP
    have hD : va_D A ([(ov, .inl (ct 1, 1, .inr (.inl o))), (ty_XO x w sp sv bu bl le)] ++ ws_4) := hD
    refine W.widen (k := 1) (n := 6) (Nat.le_of_ble_eq_true rfl) (Nat.le_of_ble_eq_true rfl) ?_
    refine lv_i2l hx hb dL_startNext_7 rfl ?_
    refine lv_topl (fun x_5 _ => ?_)
    refine va_last hx hb hK hP hD hS 0 1 rfl rfl (cm_vin (by decide)) dL_startNext_8 (fun H locs hP hD hS => ?_)
    have hP : va_P D vwCl ([(ov, .inl (ct 1, 1, .inr (.inl (vp_updL o (0 : Int32).toNatClampNeg x_5)))), (ty_XO x w sp sv bu bl le)] ++ ws_4) H := hP
    have hD : va_D A ([(ov, .inl (ct 1, 1, .inr (.inl (vp_updL o (0 : Int32).toNatClampNeg x_5)))), (ty_XO x w sp sv bu bl le)] ++ ws_4) := hD
    refine lv_goto (tgt := 15) hx hb dL_startNext_9 (by decide) ?_
    refine lv_iconst (v := 0) hx hb dL_startNext_15 (by decide) ?_
    have hP : va_P D vwCl ([(ty_XO x w sp sv bu bl le), (ov, .inl (ct 1, 1, .inr (.inl (vp_updL o (0 : Int32).toNatClampNeg x_5))))] ++ ws_4) H := ty_permP hP (ty_ordp (E := [(ov, .inl (ct 1, 1, .inr (.inl (vp_updL o (0 : Int32).toNatClampNeg x_5)))), (ty_XO x w sp sv bu bl le)]) (E2 := [(ty_XO x w sp sv bu bl le), (ov, .inl (ct 1, 1, .inr (.inl (vp_updL o (0 : Int32).toNatClampNeg x_5))))]) (n := 2) [1, 0] rfl rfl (by decide))
    have hD : va_D A ([(ty_XO x w sp sv bu bl le), (ov, .inl (ct 1, 1, .inr (.inl (vp_updL o (0 : Int32).toNatClampNeg x_5))))] ++ ws_4) := ty_permD hD (ty_ordp (E := [(ov, .inl (ct 1, 1, .inr (.inl (vp_updL o (0 : Int32).toNatClampNeg x_5)))), (ty_XO x w sp sv bu bl le)]) (E2 := [(ty_XO x w sp sv bu bl le), (ov, .inl (ct 1, 1, .inr (.inl (vp_updL o (0 : Int32).toNatClampNeg x_5))))]) (n := 2) [1, 0] rfl rfl (by decide))
    exact W.iret (v := 0) hx hb hr (fun t ht hW => ⟨⟨0, (ws_4, (vp_updL o (0 : Int32).toNatClampNeg x_5)), rfl, hT, by rw [ht]; exact hP, by rw [hAe]; exact hD⟩, hS.F ht⟩) hS.2.2 dL_startNext_16
theorem dL_queueAt_0 : decode cL_queueAt 0 = .ok (.aload_n 3, 1) := by decide +kernel
theorem dL_queueAt_1 : decode cL_queueAt 1 = .ok (.iconst 0, 1) := by decide +kernel
theorem dL_queueAt_2 : decode cL_queueAt 2 = .ok (.aload_n 0, 1) := by decide +kernel
theorem dL_queueAt_3 : decode cL_queueAt 3 = .ok (.iload_n 1, 1) := by decide +kernel
theorem dL_queueAt_4 : decode cL_queueAt 4 = .ok (.iload_n 2, 1) := by decide +kernel
theorem dL_queueAt_5 : decode cL_queueAt 5 = .ok (.invokevirtual 64, 3) := by decide +kernel
theorem dL_queueAt_8 : decode cL_queueAt 8 = .ok (.i2l, 1) := by decide +kernel
theorem dL_queueAt_9 : decode cL_queueAt 9 = .ok (.lastore, 1) := by decide +kernel
theorem dL_queueAt_10 : decode cL_queueAt 10 = .ok (.goto 7, 3) := by decide +kernel
theorem dL_queueAt_13 : decode cL_queueAt 13 = .ok (.astore 4, 2) := by decide +kernel
theorem dL_queueAt_15 : decode cL_queueAt 15 = .ok (.iconst 1, 1) := by decide +kernel
theorem dL_queueAt_16 : decode cL_queueAt 16 = .ok (.ireturn, 1) := by decide +kernel
theorem dL_queueAt_17 : decode cL_queueAt 17 = .ok (.iconst 0, 1) := by decide +kernel
theorem dL_queueAt_18 : decode cL_queueAt 18 = .ok (.ireturn, 1) := by decide +kernel
set_option maxRecDepth 100000 in
set_option maxHeartbeats 4000000 in
theorem tl_queueAt (l : Launch) (hfl : l.stackTraces = false) (D : va_G) (ct : Nat → ClassId) (S : ty_S) (ws : va_W) (ph : va_W → Prop) (xx : Nat → Nat → Nat → Prop) (x : Nat) (w : Nat) (sp : Nat) (sv : Nat) (bu : Nat) (ns : Nat) (bl : Int32) (le : Int32) (p1 : Int32) (p2 : Int32) (ov : Nat) (o : Nat → Int64) (sz : Nat) (hT : ty_V ct S ph ws) (h_w : S w = some (.inl 9)) (h_sp : S sp = some (.inl 9)) (h_sv : S sv = some (.inr (4, ns))) (hph : ty_C ph xx) (hy1 : ty_y1 xx) (hy11 : ty_y0 xx 11) : Met l yL_queueAt (wsw_ yL_queueAt cL_queueAt 5 (some .int) [(0, 10, 13, 32)]) ({ frames := 8, cells := 1, slots := 6, locals := 135 } : Room) (va_Pc [.ref x, .int p1, .int p2, .ref ov] (cmPn D ct sz ([(ty_XO x w sp sv bu bl le), (ov, .inl (ct 1, 1, .inr (.inl o)))] ++ ws))) (va_Qi (fun (r : Int32) (u : va_W × (Nat → Int64)) => match u with | (u9, o1) => ty_V ct S ph u9) (cmB D ([(ty_XO x w sp sv bu bl le), (ov, .inl (ct 1, 1, .inr (.inl o)))] ++ ws) sz (fun (u : va_W × (Nat → Int64)) => match u with | (u9, o1) => ([(ty_XO x w sp sv bu bl le), (ov, .inl (ct 1, 1, .inr (.inl o1)))] ++ u9))) (va_A ([(ty_XO x w sp sv bu bl le), (ov, .inl (ct 1, 1, .inr (.inl o)))] ++ ws) sz)) 1 6 (va_A ([(ty_XO x w sp sv bu bl le), (ov, .inl (ct 1, 1, .inr (.inl o)))] ++ ws) sz) := by
  refine va_MetW (cc := cL_queueAt) (maxL := 5) (ret := (some .int)) (hh := [(0, 10, 13, 32)]) (by decide) rfl ?_
  intro p e s m args below meth c s₁ B hml hv
  have hts0 := atoms_spec (ws := wsw_ yL_queueAt cL_queueAt 5 (some .int) [(0, 10, 13, 32)]) B.pre
  have hts : ∀ w ∈ cm_all, w.before args s = true := fun w h => hts0 w (List.mem_cons_of_mem _ h)
  obtain ⟨rfl, ⟨hsz, hP, hK, hD0, hX⟩, hNc⟩ := hv
  have hx := B.exec
  have hb := B.bytes
  have hr := B.returns
  have htab := vx_table (x := yL_queueAt) B (hts0 _ List.mem_cons_self)
  have hown : s.vm.findClass RL = some m.cls := findClass_of_methodNamed B.named
  have hlocks := B.notSynchronized
  subst hsz
  have hD := hD0.self (sz := s.heap.size)
  generalize hAe : va_A ([(ty_XO x w sp sv bu bl le), (ov, .inl (ct 1, 1, .inr (.inl o)))] ++ ws) s.heap.size = A at hD hX ⊢
  have hA : ∀ q : Nat, s.heap.size ≤ q → A q := fun q h => by rw [← hAe]; exact Or.inr h
  have hS : va_S A s.heap s.heap [] := va_S.rf
  have hl := lv_entry ([.ref x, .int p1, .int p2, .ref ov]) (n := 5) (Nat.le_of_ble_eq_true rfl)
  rw [lg_entry_eq]
  generalize (lg_sl ([.ref x, .int p1, .int p2, .ref ov]) ++ List.replicate (5 - (lg_sl ([.ref x, .int p1, .int p2, .ref ov])).length) Slot.unset).toArray = ls at hl ⊢
  have hl : lv_has ls 5 [(0, .ref x), (1, .int p1), (2, .int p2), (3, .ref ov)] := hl
  refine lv_aload_n hx hb dL_queueAt_0 rfl (lv_at hl 3 rfl) ?_
  refine lv_iconst (v := 0) hx hb dL_queueAt_1 (by decide) ?_
  refine lv_aload_n hx hb dL_queueAt_2 rfl (lv_at hl 0 rfl) ?_
  refine lv_iload_n hx hb dL_queueAt_3 rfl (lv_at hl 1 rfl) ?_
  refine lv_iload_n hx hb dL_queueAt_4 rfl (lv_at hl 2 rfl) ?_
  have hP : va_P D vwCl ([(ov, .inl (ct 1, 1, .inr (.inl o))), (ty_XO x w sp sv bu bl le)] ++ ws) s.heap := ty_permP hP (ty_ordp (E := [(ty_XO x w sp sv bu bl le), (ov, .inl (ct 1, 1, .inr (.inl o)))]) (E2 := [(ov, .inl (ct 1, 1, .inr (.inl o))), (ty_XO x w sp sv bu bl le)]) (n := 2) [1, 0] rfl rfl (by decide))
  have hD : va_D A ([(ov, .inl (ct 1, 1, .inr (.inl o))), (ty_XO x w sp sv bu bl le)] ++ ws) := ty_permD hD (ty_ordp (E := [(ty_XO x w sp sv bu bl le), (ov, .inl (ct 1, 1, .inr (.inl o)))]) (E2 := [(ov, .inl (ct 1, 1, .inr (.inl o))), (ty_XO x w sp sv bu bl le)]) (n := 2) [1, 0] rfl rfl (by decide))
  refine ty_xi (wr := [(ov, .inl (ct 1, 1, .inr (.inl o)))]) (wc := ([(ty_XO x w sp sv bu bl le)] ++ ws)) (vx_runV (As := [.int p1, .int p2]) (rest := [.int 0, .ref ov]) ⟨hx, hb, hml, hown, hts⟩ (t_X10_queueAt l hfl D ct S ws ph xx x w sp sv bu ns bl le p1 p2 _ hT h_w h_sp h_sv hph hy1) (cm_V 2 hts kc_X10_queueAt ki_RX10 kl_RL_64 kv_X10_queueAt kx_X10_queueAt kd_X10_queueAt ⟨Nat.le_of_ble_eq_true rfl, Nat.le_of_ble_eq_true rfl⟩) (ty_preE (wr := [(ov, .inl (ct 1, 1, .inr (.inl o)))]) (wc := ([(ty_XO x w sp sv bu bl le)] ++ ws)) (ci := 10) (q0 := 1) hP hK hD hS hA hX rfl rfl) rfl rfl hl.1 rfl (lv_room (Nat.le_of_ble_eq_true rfl)) dL_queueAt_5 ⟨Nat.le_of_ble_eq_true rfl, Nat.le_of_ble_eq_true rfl⟩) hP hD hS hA (fun E ce q9 u H locs hu hE hP hD hS hce hcv hcl => ?_) (fun r_1 u H locs hw_2 hP hD hS => ?_)
  · obtain ⟨ws_3, rfl⟩ : ∃ z, z = u := ⟨_, rfl⟩
    have hT := hu
    have hP : va_P D vwCl ([(ov, .inl (ct 1, 1, .inr (.inl o))), (ty_XO x w sp sv bu bl le)] ++ ws_3) H := hP
    have hD : va_D A ([(ov, .inl (ct 1, 1, .inr (.inl o))), (ty_XO x w sp sv bu bl le)] ++ ws_3) := hD
    obtain rfl := List.mem_singleton.mp hE
    refine vx_catch (name := "java/lang/IndexOutOfBoundsException") hown [] _ _ htab (fun z hz => absurd hz List.not_mem_nil) (by decide) (by decide) (hts _ kl_RL_32) (hts _ kcast_IOE) hce hcv hcl ?_
    refine W.eq (g2 := F0 m 13 ls [.ref q9]) rfl ?_
    refine lv_astore (lv' := [(4, .ref q9), (0, .ref x), (1, .int p1), (2, .int p2), (3, .ref ov)]) hx hb dL_queueAt_13 hl (by decide) rfl (fun ls hl => ?_)
    refine lv_iconst (v := 1) hx hb dL_queueAt_15 (by decide) ?_
    have hP : va_P D vwCl ([(ty_XO x w sp sv bu bl le), (ov, .inl (ct 1, 1, .inr (.inl o)))] ++ ws_3) H := ty_permP hP (ty_ordp (E := [(ov, .inl (ct 1, 1, .inr (.inl o))), (ty_XO x w sp sv bu bl le)]) (E2 := [(ty_XO x w sp sv bu bl le), (ov, .inl (ct 1, 1, .inr (.inl o)))]) (n := 2) [1, 0] rfl rfl (by decide))
    have hD : va_D A ([(ty_XO x w sp sv bu bl le), (ov, .inl (ct 1, 1, .inr (.inl o)))] ++ ws_3) := ty_permD hD (ty_ordp (E := [(ov, .inl (ct 1, 1, .inr (.inl o))), (ty_XO x w sp sv bu bl le)]) (E2 := [(ty_XO x w sp sv bu bl le), (ov, .inl (ct 1, 1, .inr (.inl o)))]) (n := 2) [1, 0] rfl rfl (by decide))
    exact W.iret (v := 1) hx hb hr (fun t ht hW => ⟨⟨1, (ws_3, o), rfl, hT, by rw [ht]; exact hP, by rw [hAe]; exact hD⟩, hS.F ht⟩) hS.2.2 dL_queueAt_16
  · obtain ⟨ws_4, rfl⟩ : ∃ z, z = u := ⟨_, rfl⟩
    have hT := hw_2
    have hP : va_P D vwCl ([(ov, .inl (ct 1, 1, .inr (.inl o))), (ty_XO x w sp sv bu bl le)] ++ ws_4) H := hP
    have hD : va_D A ([(ov, .inl (ct 1, 1, .inr (.inl o))), (ty_XO x w sp sv bu bl le)] ++ ws_4) := hD
    refine W.widen (k := 1) (n := 6) (Nat.le_of_ble_eq_true rfl) (Nat.le_of_ble_eq_true rfl) ?_
    refine lv_i2l hx hb dL_queueAt_8 rfl ?_
    refine lv_topl (fun x_5 _ => ?_)
    refine va_last hx hb hK hP hD hS 0 1 rfl rfl (cm_vin (by decide)) dL_queueAt_9 (fun H locs hP hD hS => ?_)
    have hP : va_P D vwCl ([(ov, .inl (ct 1, 1, .inr (.inl (vp_updL o (0 : Int32).toNatClampNeg x_5)))), (ty_XO x w sp sv bu bl le)] ++ ws_4) H := hP
    have hD : va_D A ([(ov, .inl (ct 1, 1, .inr (.inl (vp_updL o (0 : Int32).toNatClampNeg x_5)))), (ty_XO x w sp sv bu bl le)] ++ ws_4) := hD
    refine lv_goto (tgt := 17) hx hb dL_queueAt_10 (by decide) ?_
    refine lv_iconst (v := 0) hx hb dL_queueAt_17 (by decide) ?_
    have hP : va_P D vwCl ([(ty_XO x w sp sv bu bl le), (ov, .inl (ct 1, 1, .inr (.inl (vp_updL o (0 : Int32).toNatClampNeg x_5))))] ++ ws_4) H := ty_permP hP (ty_ordp (E := [(ov, .inl (ct 1, 1, .inr (.inl (vp_updL o (0 : Int32).toNatClampNeg x_5)))), (ty_XO x w sp sv bu bl le)]) (E2 := [(ty_XO x w sp sv bu bl le), (ov, .inl (ct 1, 1, .inr (.inl (vp_updL o (0 : Int32).toNatClampNeg x_5))))]) (n := 2) [1, 0] rfl rfl (by decide))
    have hD : va_D A ([(ty_XO x w sp sv bu bl le), (ov, .inl (ct 1, 1, .inr (.inl (vp_updL o (0 : Int32).toNatClampNeg x_5))))] ++ ws_4) := ty_permD hD (ty_ordp (E := [(ov, .inl (ct 1, 1, .inr (.inl (vp_updL o (0 : Int32).toNatClampNeg x_5)))), (ty_XO x w sp sv bu bl le)]) (E2 := [(ty_XO x w sp sv bu bl le), (ov, .inl (ct 1, 1, .inr (.inl (vp_updL o (0 : Int32).toNatClampNeg x_5))))]) (n := 2) [1, 0] rfl rfl (by decide))
    exact W.iret (v := 0) hx hb hr (fun t ht hW => ⟨⟨0, (ws_4, (vp_updL o (0 : Int32).toNatClampNeg x_5)), rfl, hT, by rw [ht]; exact hP, by rw [hAe]; exact hD⟩, hS.F ht⟩) hS.2.2 dL_queueAt_18
theorem dL_queueSize_0 : decode cL_queueSize 0 = .ok (.aload_n 2, 1) := by decide +kernel
theorem dL_queueSize_1 : decode cL_queueSize 1 = .ok (.iconst 0, 1) := by decide +kernel
theorem dL_queueSize_2 : decode cL_queueSize 2 = .ok (.aload_n 0, 1) := by decide +kernel
theorem dL_queueSize_3 : decode cL_queueSize 3 = .ok (.iload_n 1, 1) := by decide +kernel
theorem dL_queueSize_4 : decode cL_queueSize 4 = .ok (.invokevirtual 67, 3) := by decide +kernel
theorem dL_queueSize_7 : decode cL_queueSize 7 = .ok (.i2l, 1) := by decide +kernel
theorem dL_queueSize_8 : decode cL_queueSize 8 = .ok (.lastore, 1) := by decide +kernel
theorem dL_queueSize_9 : decode cL_queueSize 9 = .ok (.goto 6, 3) := by decide +kernel
theorem dL_queueSize_12 : decode cL_queueSize 12 = .ok (.astore_n 3, 1) := by decide +kernel
theorem dL_queueSize_13 : decode cL_queueSize 13 = .ok (.iconst 1, 1) := by decide +kernel
theorem dL_queueSize_14 : decode cL_queueSize 14 = .ok (.ireturn, 1) := by decide +kernel
theorem dL_queueSize_15 : decode cL_queueSize 15 = .ok (.iconst 0, 1) := by decide +kernel
theorem dL_queueSize_16 : decode cL_queueSize 16 = .ok (.ireturn, 1) := by decide +kernel
set_option maxRecDepth 100000 in
set_option maxHeartbeats 4000000 in
theorem tl_queueSize (l : Launch) (hfl : l.stackTraces = false) (D : va_G) (ct : Nat → ClassId) (S : ty_S) (ws : va_W) (ph : va_W → Prop) (xx : Nat → Nat → Nat → Prop) (x : Nat) (w : Nat) (sp : Nat) (sv : Nat) (bu : Nat) (ns : Nat) (bl : Int32) (le : Int32) (p1 : Int32) (ov : Nat) (o : Nat → Int64) (sz : Nat) (hT : ty_V ct S ph ws) (h_w : S w = some (.inl 9)) (h_sp : S sp = some (.inl 9)) (h_sv : S sv = some (.inr (4, ns))) (hph : ty_C ph xx) (hy1 : ty_y1 xx) (hy11 : ty_y0 xx 11) : Met l yL_queueSize (wsw_ yL_queueSize cL_queueSize 4 (some .int) [(0, 9, 12, 32)]) ({ frames := 8, cells := 1, slots := 6, locals := 133 } : Room) (va_Pc [.ref x, .int p1, .ref ov] (cmPn D ct sz ([(ty_XO x w sp sv bu bl le), (ov, .inl (ct 1, 1, .inr (.inl o)))] ++ ws))) (va_Qi (fun (r : Int32) (u : va_W × (Nat → Int64)) => match u with | (u9, o1) => ty_V ct S ph u9) (cmB D ([(ty_XO x w sp sv bu bl le), (ov, .inl (ct 1, 1, .inr (.inl o)))] ++ ws) sz (fun (u : va_W × (Nat → Int64)) => match u with | (u9, o1) => ([(ty_XO x w sp sv bu bl le), (ov, .inl (ct 1, 1, .inr (.inl o1)))] ++ u9))) (va_A ([(ty_XO x w sp sv bu bl le), (ov, .inl (ct 1, 1, .inr (.inl o)))] ++ ws) sz)) 1 6 (va_A ([(ty_XO x w sp sv bu bl le), (ov, .inl (ct 1, 1, .inr (.inl o)))] ++ ws) sz) := by
  refine va_MetW (cc := cL_queueSize) (maxL := 4) (ret := (some .int)) (hh := [(0, 9, 12, 32)]) (by decide) rfl ?_
  intro p e s m args below meth c s₁ B hml hv
  have hts0 := atoms_spec (ws := wsw_ yL_queueSize cL_queueSize 4 (some .int) [(0, 9, 12, 32)]) B.pre
  have hts : ∀ w ∈ cm_all, w.before args s = true := fun w h => hts0 w (List.mem_cons_of_mem _ h)
  obtain ⟨rfl, ⟨hsz, hP, hK, hD0, hX⟩, hNc⟩ := hv
  have hx := B.exec
  have hb := B.bytes
  have hr := B.returns
  have htab := vx_table (x := yL_queueSize) B (hts0 _ List.mem_cons_self)
  have hown : s.vm.findClass RL = some m.cls := findClass_of_methodNamed B.named
  have hlocks := B.notSynchronized
  subst hsz
  have hD := hD0.self (sz := s.heap.size)
  generalize hAe : va_A ([(ty_XO x w sp sv bu bl le), (ov, .inl (ct 1, 1, .inr (.inl o)))] ++ ws) s.heap.size = A at hD hX ⊢
  have hA : ∀ q : Nat, s.heap.size ≤ q → A q := fun q h => by rw [← hAe]; exact Or.inr h
  have hS : va_S A s.heap s.heap [] := va_S.rf
  have hl := lv_entry ([.ref x, .int p1, .ref ov]) (n := 4) (Nat.le_of_ble_eq_true rfl)
  rw [lg_entry_eq]
  generalize (lg_sl ([.ref x, .int p1, .ref ov]) ++ List.replicate (4 - (lg_sl ([.ref x, .int p1, .ref ov])).length) Slot.unset).toArray = ls at hl ⊢
  have hl : lv_has ls 4 [(0, .ref x), (1, .int p1), (2, .ref ov)] := hl
  refine lv_aload_n hx hb dL_queueSize_0 rfl (lv_at hl 2 rfl) ?_
  refine lv_iconst (v := 0) hx hb dL_queueSize_1 (by decide) ?_
  refine lv_aload_n hx hb dL_queueSize_2 rfl (lv_at hl 0 rfl) ?_
  refine lv_iload_n hx hb dL_queueSize_3 rfl (lv_at hl 1 rfl) ?_
  have hP : va_P D vwCl ([(ov, .inl (ct 1, 1, .inr (.inl o))), (ty_XO x w sp sv bu bl le)] ++ ws) s.heap := ty_permP hP (ty_ordp (E := [(ty_XO x w sp sv bu bl le), (ov, .inl (ct 1, 1, .inr (.inl o)))]) (E2 := [(ov, .inl (ct 1, 1, .inr (.inl o))), (ty_XO x w sp sv bu bl le)]) (n := 2) [1, 0] rfl rfl (by decide))
  have hD : va_D A ([(ov, .inl (ct 1, 1, .inr (.inl o))), (ty_XO x w sp sv bu bl le)] ++ ws) := ty_permD hD (ty_ordp (E := [(ty_XO x w sp sv bu bl le), (ov, .inl (ct 1, 1, .inr (.inl o)))]) (E2 := [(ov, .inl (ct 1, 1, .inr (.inl o))), (ty_XO x w sp sv bu bl le)]) (n := 2) [1, 0] rfl rfl (by decide))
  refine ty_xi (wr := [(ov, .inl (ct 1, 1, .inr (.inl o)))]) (wc := ([(ty_XO x w sp sv bu bl le)] ++ ws)) (vx_runV (As := [.int p1]) (rest := [.int 0, .ref ov]) ⟨hx, hb, hml, hown, hts⟩ (t_X10_queueSize l hfl D ct S ws ph xx x w sp sv bu ns bl le p1 _ hT h_w h_sp h_sv hph hy1) (cm_V 1 hts kc_X10_queueSize ki_RX10 kl_RL_67 kv_X10_queueSize kx_X10_queueSize kd_X10_queueSize ⟨Nat.le_of_ble_eq_true rfl, Nat.le_of_ble_eq_true rfl⟩) (ty_preE (wr := [(ov, .inl (ct 1, 1, .inr (.inl o)))]) (wc := ([(ty_XO x w sp sv bu bl le)] ++ ws)) (ci := 10) (q0 := 1) hP hK hD hS hA hX rfl rfl) rfl rfl hl.1 rfl (lv_room (Nat.le_of_ble_eq_true rfl)) dL_queueSize_4 ⟨Nat.le_of_ble_eq_true rfl, Nat.le_of_ble_eq_true rfl⟩) hP hD hS hA (fun E ce q9 u H locs hu hE hP hD hS hce hcv hcl => ?_) (fun r_1 u H locs hw_2 hP hD hS => ?_)
  · obtain ⟨ws_3, rfl⟩ : ∃ z, z = u := ⟨_, rfl⟩
    have hT := hu
    have hP : va_P D vwCl ([(ov, .inl (ct 1, 1, .inr (.inl o))), (ty_XO x w sp sv bu bl le)] ++ ws_3) H := hP
    have hD : va_D A ([(ov, .inl (ct 1, 1, .inr (.inl o))), (ty_XO x w sp sv bu bl le)] ++ ws_3) := hD
    obtain rfl := List.mem_singleton.mp hE
    refine vx_catch (name := "java/lang/IndexOutOfBoundsException") hown [] _ _ htab (fun z hz => absurd hz List.not_mem_nil) (by decide) (by decide) (hts _ kl_RL_32) (hts _ kcast_IOE) hce hcv hcl ?_
    refine W.eq (g2 := F0 m 12 ls [.ref q9]) rfl ?_
    refine lv_astore_n (lv' := [(3, .ref q9), (0, .ref x), (1, .int p1), (2, .ref ov)]) hx hb dL_queueSize_12 rfl hl (by decide) rfl (fun ls hl => ?_)
    refine lv_iconst (v := 1) hx hb dL_queueSize_13 (by decide) ?_
    have hP : va_P D vwCl ([(ty_XO x w sp sv bu bl le), (ov, .inl (ct 1, 1, .inr (.inl o)))] ++ ws_3) H := ty_permP hP (ty_ordp (E := [(ov, .inl (ct 1, 1, .inr (.inl o))), (ty_XO x w sp sv bu bl le)]) (E2 := [(ty_XO x w sp sv bu bl le), (ov, .inl (ct 1, 1, .inr (.inl o)))]) (n := 2) [1, 0] rfl rfl (by decide))
    have hD : va_D A ([(ty_XO x w sp sv bu bl le), (ov, .inl (ct 1, 1, .inr (.inl o)))] ++ ws_3) := ty_permD hD (ty_ordp (E := [(ov, .inl (ct 1, 1, .inr (.inl o))), (ty_XO x w sp sv bu bl le)]) (E2 := [(ty_XO x w sp sv bu bl le), (ov, .inl (ct 1, 1, .inr (.inl o)))]) (n := 2) [1, 0] rfl rfl (by decide))
    exact W.iret (v := 1) hx hb hr (fun t ht hW => ⟨⟨1, (ws_3, o), rfl, hT, by rw [ht]; exact hP, by rw [hAe]; exact hD⟩, hS.F ht⟩) hS.2.2 dL_queueSize_14
  · obtain ⟨ws_4, rfl⟩ : ∃ z, z = u := ⟨_, rfl⟩
    have hT := hw_2
    have hP : va_P D vwCl ([(ov, .inl (ct 1, 1, .inr (.inl o))), (ty_XO x w sp sv bu bl le)] ++ ws_4) H := hP
    have hD : va_D A ([(ov, .inl (ct 1, 1, .inr (.inl o))), (ty_XO x w sp sv bu bl le)] ++ ws_4) := hD
    refine W.widen (k := 1) (n := 6) (Nat.le_of_ble_eq_true rfl) (Nat.le_of_ble_eq_true rfl) ?_
    refine lv_i2l hx hb dL_queueSize_7 rfl ?_
    refine lv_topl (fun x_5 _ => ?_)
    refine va_last hx hb hK hP hD hS 0 1 rfl rfl (cm_vin (by decide)) dL_queueSize_8 (fun H locs hP hD hS => ?_)
    have hP : va_P D vwCl ([(ov, .inl (ct 1, 1, .inr (.inl (vp_updL o (0 : Int32).toNatClampNeg x_5)))), (ty_XO x w sp sv bu bl le)] ++ ws_4) H := hP
    have hD : va_D A ([(ov, .inl (ct 1, 1, .inr (.inl (vp_updL o (0 : Int32).toNatClampNeg x_5)))), (ty_XO x w sp sv bu bl le)] ++ ws_4) := hD
    refine lv_goto (tgt := 15) hx hb dL_queueSize_9 (by decide) ?_
    refine lv_iconst (v := 0) hx hb dL_queueSize_15 (by decide) ?_
    have hP : va_P D vwCl ([(ty_XO x w sp sv bu bl le), (ov, .inl (ct 1, 1, .inr (.inl (vp_updL o (0 : Int32).toNatClampNeg x_5))))] ++ ws_4) H := ty_permP hP (ty_ordp (E := [(ov, .inl (ct 1, 1, .inr (.inl (vp_updL o (0 : Int32).toNatClampNeg x_5)))), (ty_XO x w sp sv bu bl le)]) (E2 := [(ty_XO x w sp sv bu bl le), (ov, .inl (ct 1, 1, .inr (.inl (vp_updL o (0 : Int32).toNatClampNeg x_5))))]) (n := 2) [1, 0] rfl rfl (by decide))
    have hD : va_D A ([(ty_XO x w sp sv bu bl le), (ov, .inl (ct 1, 1, .inr (.inl (vp_updL o (0 : Int32).toNatClampNeg x_5))))] ++ ws_4) := ty_permD hD (ty_ordp (E := [(ov, .inl (ct 1, 1, .inr (.inl (vp_updL o (0 : Int32).toNatClampNeg x_5)))), (ty_XO x w sp sv bu bl le)]) (E2 := [(ty_XO x w sp sv bu bl le), (ov, .inl (ct 1, 1, .inr (.inl (vp_updL o (0 : Int32).toNatClampNeg x_5))))]) (n := 2) [1, 0] rfl rfl (by decide))
    exact W.iret (v := 0) hx hb hr (fun t ht hW => ⟨⟨0, (ws_4, (vp_updL o (0 : Int32).toNatClampNeg x_5)), rfl, hT, by rw [ht]; exact hP, by rw [hAe]; exact hD⟩, hS.F ht⟩) hS.2.2 dL_queueSize_16
theorem dL_value_0 : decode cL_value 0 = .ok (.aload_n 3, 1) := by decide +kernel
theorem dL_value_1 : decode cL_value 1 = .ok (.iconst 0, 1) := by decide +kernel
theorem dL_value_2 : decode cL_value 2 = .ok (.aload_n 0, 1) := by decide +kernel
theorem dL_value_3 : decode cL_value 3 = .ok (.iload_n 1, 1) := by decide +kernel
theorem dL_value_4 : decode cL_value 4 = .ok (.iload_n 2, 1) := by decide +kernel
theorem dL_value_5 : decode cL_value 5 = .ok (.invokevirtual 70, 3) := by decide +kernel
theorem dL_value_8 : decode cL_value 8 = .ok (.i2l, 1) := by decide +kernel
theorem dL_value_9 : decode cL_value 9 = .ok (.lastore, 1) := by decide +kernel
theorem dL_value_10 : decode cL_value 10 = .ok (.goto 11, 3) := by decide +kernel
theorem dL_value_13 : decode cL_value 13 = .ok (.astore 4, 2) := by decide +kernel
theorem dL_value_15 : decode cL_value 15 = .ok (.iconst 1, 1) := by decide +kernel
theorem dL_value_16 : decode cL_value 16 = .ok (.ireturn, 1) := by decide +kernel
theorem dL_value_17 : decode cL_value 17 = .ok (.astore 4, 2) := by decide +kernel
theorem dL_value_19 : decode cL_value 19 = .ok (.iconst 2, 1) := by decide +kernel
theorem dL_value_20 : decode cL_value 20 = .ok (.ireturn, 1) := by decide +kernel
theorem dL_value_21 : decode cL_value 21 = .ok (.iconst 0, 1) := by decide +kernel
theorem dL_value_22 : decode cL_value 22 = .ok (.ireturn, 1) := by decide +kernel
set_option maxRecDepth 100000 in
set_option maxHeartbeats 4000000 in
theorem tl_value (l : Launch) (hfl : l.stackTraces = false) (D : va_G) (ct : Nat → ClassId) (S : ty_S) (ws : va_W) (ph : va_W → Prop) (xx : Nat → Nat → Nat → Prop) (x : Nat) (w : Nat) (sp : Nat) (sv : Nat) (bu : Nat) (ns : Nat) (bl : Int32) (le : Int32) (p1 : Int32) (p2 : Int32) (ov : Nat) (o : Nat → Int64) (sz : Nat) (hT : ty_V ct S ph ws) (h_w : S w = some (.inl 9)) (h_sp : S sp = some (.inl 9)) (h_sv : S sv = some (.inr (4, ns))) (hph : ty_C ph xx) (hy1 : ty_y1 xx) (hy11 : ty_y0 xx 11) : Met l yL_value (wsw_ yL_value cL_value 5 (some .int) [(0, 10, 13, 32), (0, 10, 17, 13)]) ({ frames := 8, cells := 2, slots := 12, locals := 135 } : Room) (va_Pc [.ref x, .int p1, .int p2, .ref ov] (cmPn D ct sz ([(ty_XO x w sp sv bu bl le), (ov, .inl (ct 1, 1, .inr (.inl o)))] ++ ws))) (va_Qi (fun (r : Int32) (u : va_W × (Nat → Int64)) => match u with | (u9, o1) => ty_V ct S ph u9) (cmB D ([(ty_XO x w sp sv bu bl le), (ov, .inl (ct 1, 1, .inr (.inl o)))] ++ ws) sz (fun (u : va_W × (Nat → Int64)) => match u with | (u9, o1) => ([(ty_XO x w sp sv bu bl le), (ov, .inl (ct 1, 1, .inr (.inl o1)))] ++ u9))) (va_A ([(ty_XO x w sp sv bu bl le), (ov, .inl (ct 1, 1, .inr (.inl o)))] ++ ws) sz)) 2 12 (va_A ([(ty_XO x w sp sv bu bl le), (ov, .inl (ct 1, 1, .inr (.inl o)))] ++ ws) sz) := by
  refine va_MetW (cc := cL_value) (maxL := 5) (ret := (some .int)) (hh := [(0, 10, 13, 32), (0, 10, 17, 13)]) (by decide) rfl ?_
  intro p e s m args below meth c s₁ B hml hv
  have hts0 := atoms_spec (ws := wsw_ yL_value cL_value 5 (some .int) [(0, 10, 13, 32), (0, 10, 17, 13)]) B.pre
  have hts : ∀ w ∈ cm_all, w.before args s = true := fun w h => hts0 w (List.mem_cons_of_mem _ h)
  obtain ⟨rfl, ⟨hsz, hP, hK, hD0, hX⟩, hNc⟩ := hv
  have hx := B.exec
  have hb := B.bytes
  have hr := B.returns
  have htab := vx_table (x := yL_value) B (hts0 _ List.mem_cons_self)
  have hown : s.vm.findClass RL = some m.cls := findClass_of_methodNamed B.named
  have hlocks := B.notSynchronized
  subst hsz
  have hD := hD0.self (sz := s.heap.size)
  generalize hAe : va_A ([(ty_XO x w sp sv bu bl le), (ov, .inl (ct 1, 1, .inr (.inl o)))] ++ ws) s.heap.size = A at hD hX ⊢
  have hA : ∀ q : Nat, s.heap.size ≤ q → A q := fun q h => by rw [← hAe]; exact Or.inr h
  have hS : va_S A s.heap s.heap [] := va_S.rf
  have hl := lv_entry ([.ref x, .int p1, .int p2, .ref ov]) (n := 5) (Nat.le_of_ble_eq_true rfl)
  rw [lg_entry_eq]
  generalize (lg_sl ([.ref x, .int p1, .int p2, .ref ov]) ++ List.replicate (5 - (lg_sl ([.ref x, .int p1, .int p2, .ref ov])).length) Slot.unset).toArray = ls at hl ⊢
  have hl : lv_has ls 5 [(0, .ref x), (1, .int p1), (2, .int p2), (3, .ref ov)] := hl
  refine lv_aload_n hx hb dL_value_0 rfl (lv_at hl 3 rfl) ?_
  refine lv_iconst (v := 0) hx hb dL_value_1 (by decide) ?_
  refine lv_aload_n hx hb dL_value_2 rfl (lv_at hl 0 rfl) ?_
  refine lv_iload_n hx hb dL_value_3 rfl (lv_at hl 1 rfl) ?_
  refine lv_iload_n hx hb dL_value_4 rfl (lv_at hl 2 rfl) ?_
  have hP : va_P D vwCl ([(ov, .inl (ct 1, 1, .inr (.inl o))), (ty_XO x w sp sv bu bl le)] ++ ws) s.heap := ty_permP hP (ty_ordp (E := [(ty_XO x w sp sv bu bl le), (ov, .inl (ct 1, 1, .inr (.inl o)))]) (E2 := [(ov, .inl (ct 1, 1, .inr (.inl o))), (ty_XO x w sp sv bu bl le)]) (n := 2) [1, 0] rfl rfl (by decide))
  have hD : va_D A ([(ov, .inl (ct 1, 1, .inr (.inl o))), (ty_XO x w sp sv bu bl le)] ++ ws) := ty_permD hD (ty_ordp (E := [(ty_XO x w sp sv bu bl le), (ov, .inl (ct 1, 1, .inr (.inl o)))]) (E2 := [(ov, .inl (ct 1, 1, .inr (.inl o))), (ty_XO x w sp sv bu bl le)]) (n := 2) [1, 0] rfl rfl (by decide))
  refine ty_xi (wr := [(ov, .inl (ct 1, 1, .inr (.inl o)))]) (wc := ([(ty_XO x w sp sv bu bl le)] ++ ws)) (vx_runV (As := [.int p1, .int p2]) (rest := [.int 0, .ref ov]) ⟨hx, hb, hml, hown, hts⟩ (t_X10_value l hfl D ct S ws ph xx x w sp sv bu ns bl le p1 p2 _ hT h_w h_sp h_sv hph hy1) (cm_V 2 hts kc_X10_value ki_RX10 kl_RL_70 kv_X10_value kx_X10_value kd_X10_value ⟨Nat.le_of_ble_eq_true rfl, Nat.le_of_ble_eq_true rfl⟩) (ty_preE (wr := [(ov, .inl (ct 1, 1, .inr (.inl o)))]) (wc := ([(ty_XO x w sp sv bu bl le)] ++ ws)) (ci := 10) (q0 := 1) hP hK hD hS hA hX rfl rfl) rfl rfl hl.1 rfl (lv_room (Nat.le_of_ble_eq_true rfl)) dL_value_5 ⟨Nat.le_of_ble_eq_true rfl, Nat.le_of_ble_eq_true rfl⟩) hP hD hS hA (fun E ce q9 u H locs hu hE hP hD hS hce hcv hcl => ?_) (fun r_1 u H locs hw_2 hP hD hS => ?_)
  · obtain ⟨ws_3, rfl⟩ : ∃ z, z = u := ⟨_, rfl⟩
    have hT := hu
    have hP : va_P D vwCl ([(ov, .inl (ct 1, 1, .inr (.inl o))), (ty_XO x w sp sv bu bl le)] ++ ws_3) H := hP
    have hD : va_D A ([(ov, .inl (ct 1, 1, .inr (.inl o))), (ty_XO x w sp sv bu bl le)] ++ ws_3) := hD
    rcases List.mem_cons.mp hE with rfl | hE
    · refine vx_catch (name := "java/lang/IllegalArgumentException") hown [_] _ _ htab (fun z hz => by obtain rfl := List.mem_singleton.mp hz; exact Or.inr ⟨by decide, _, hts _ kl_RL_32, hNc⟩) (by decide) (by decide) (hts _ kl_RL_13) (hts _ kcast_IAE) hce hcv hcl ?_
      refine W.eq (g2 := F0 m 17 ls [.ref q9]) rfl ?_
      refine lv_astore (lv' := [(4, .ref q9), (0, .ref x), (1, .int p1), (2, .int p2), (3, .ref ov)]) hx hb dL_value_17 hl (by decide) rfl (fun ls hl => ?_)
      refine lv_iconst (v := 2) hx hb dL_value_19 (by decide) ?_
      have hP : va_P D vwCl ([(ty_XO x w sp sv bu bl le), (ov, .inl (ct 1, 1, .inr (.inl o)))] ++ ws_3) H := ty_permP hP (ty_ordp (E := [(ov, .inl (ct 1, 1, .inr (.inl o))), (ty_XO x w sp sv bu bl le)]) (E2 := [(ty_XO x w sp sv bu bl le), (ov, .inl (ct 1, 1, .inr (.inl o)))]) (n := 2) [1, 0] rfl rfl (by decide))
      have hD : va_D A ([(ty_XO x w sp sv bu bl le), (ov, .inl (ct 1, 1, .inr (.inl o)))] ++ ws_3) := ty_permD hD (ty_ordp (E := [(ov, .inl (ct 1, 1, .inr (.inl o))), (ty_XO x w sp sv bu bl le)]) (E2 := [(ty_XO x w sp sv bu bl le), (ov, .inl (ct 1, 1, .inr (.inl o)))]) (n := 2) [1, 0] rfl rfl (by decide))
      exact W.iret (v := 2) hx hb hr (fun t ht hW => ⟨⟨2, (ws_3, o), rfl, hT, by rw [ht]; exact hP, by rw [hAe]; exact hD⟩, hS.F ht⟩) hS.2.2 dL_value_20
    · obtain rfl := List.mem_singleton.mp hE
      refine vx_catch (name := "java/lang/IndexOutOfBoundsException") hown [] _ _ htab (fun z hz => absurd hz List.not_mem_nil) (by decide) (by decide) (hts _ kl_RL_32) (hts _ kcast_IOE) hce hcv hcl ?_
      refine W.eq (g2 := F0 m 13 ls [.ref q9]) rfl ?_
      refine lv_astore (lv' := [(4, .ref q9), (0, .ref x), (1, .int p1), (2, .int p2), (3, .ref ov)]) hx hb dL_value_13 hl (by decide) rfl (fun ls hl => ?_)
      refine lv_iconst (v := 1) hx hb dL_value_15 (by decide) ?_
      have hP : va_P D vwCl ([(ty_XO x w sp sv bu bl le), (ov, .inl (ct 1, 1, .inr (.inl o)))] ++ ws_3) H := ty_permP hP (ty_ordp (E := [(ov, .inl (ct 1, 1, .inr (.inl o))), (ty_XO x w sp sv bu bl le)]) (E2 := [(ty_XO x w sp sv bu bl le), (ov, .inl (ct 1, 1, .inr (.inl o)))]) (n := 2) [1, 0] rfl rfl (by decide))
      have hD : va_D A ([(ty_XO x w sp sv bu bl le), (ov, .inl (ct 1, 1, .inr (.inl o)))] ++ ws_3) := ty_permD hD (ty_ordp (E := [(ov, .inl (ct 1, 1, .inr (.inl o))), (ty_XO x w sp sv bu bl le)]) (E2 := [(ty_XO x w sp sv bu bl le), (ov, .inl (ct 1, 1, .inr (.inl o)))]) (n := 2) [1, 0] rfl rfl (by decide))
      exact W.iret (v := 1) hx hb hr (fun t ht hW => ⟨⟨1, (ws_3, o), rfl, hT, by rw [ht]; exact hP, by rw [hAe]; exact hD⟩, hS.F ht⟩) hS.2.2 dL_value_16
  · obtain ⟨ws_4, rfl⟩ : ∃ z, z = u := ⟨_, rfl⟩
    have hT := hw_2
    have hP : va_P D vwCl ([(ov, .inl (ct 1, 1, .inr (.inl o))), (ty_XO x w sp sv bu bl le)] ++ ws_4) H := hP
    have hD : va_D A ([(ov, .inl (ct 1, 1, .inr (.inl o))), (ty_XO x w sp sv bu bl le)] ++ ws_4) := hD
    refine W.widen (k := 2) (n := 12) (Nat.le_of_ble_eq_true rfl) (Nat.le_of_ble_eq_true rfl) ?_
    refine lv_i2l hx hb dL_value_8 rfl ?_
    refine lv_topl (fun x_5 _ => ?_)
    refine va_last hx hb hK hP hD hS 0 1 rfl rfl (cm_vin (by decide)) dL_value_9 (fun H locs hP hD hS => ?_)
    have hP : va_P D vwCl ([(ov, .inl (ct 1, 1, .inr (.inl (vp_updL o (0 : Int32).toNatClampNeg x_5)))), (ty_XO x w sp sv bu bl le)] ++ ws_4) H := hP
    have hD : va_D A ([(ov, .inl (ct 1, 1, .inr (.inl (vp_updL o (0 : Int32).toNatClampNeg x_5)))), (ty_XO x w sp sv bu bl le)] ++ ws_4) := hD
    refine lv_goto (tgt := 21) hx hb dL_value_10 (by decide) ?_
    refine lv_iconst (v := 0) hx hb dL_value_21 (by decide) ?_
    have hP : va_P D vwCl ([(ty_XO x w sp sv bu bl le), (ov, .inl (ct 1, 1, .inr (.inl (vp_updL o (0 : Int32).toNatClampNeg x_5))))] ++ ws_4) H := ty_permP hP (ty_ordp (E := [(ov, .inl (ct 1, 1, .inr (.inl (vp_updL o (0 : Int32).toNatClampNeg x_5)))), (ty_XO x w sp sv bu bl le)]) (E2 := [(ty_XO x w sp sv bu bl le), (ov, .inl (ct 1, 1, .inr (.inl (vp_updL o (0 : Int32).toNatClampNeg x_5))))]) (n := 2) [1, 0] rfl rfl (by decide))
    have hD : va_D A ([(ty_XO x w sp sv bu bl le), (ov, .inl (ct 1, 1, .inr (.inl (vp_updL o (0 : Int32).toNatClampNeg x_5))))] ++ ws_4) := ty_permD hD (ty_ordp (E := [(ov, .inl (ct 1, 1, .inr (.inl (vp_updL o (0 : Int32).toNatClampNeg x_5)))), (ty_XO x w sp sv bu bl le)]) (E2 := [(ty_XO x w sp sv bu bl le), (ov, .inl (ct 1, 1, .inr (.inl (vp_updL o (0 : Int32).toNatClampNeg x_5))))]) (n := 2) [1, 0] rfl rfl (by decide))
    exact W.iret (v := 0) hx hb hr (fun t ht hW => ⟨⟨0, (ws_4, (vp_updL o (0 : Int32).toNatClampNeg x_5)), rfl, hT, by rw [ht]; exact hP, by rw [hAe]; exact hD⟩, hS.F ht⟩) hS.2.2 dL_value_22
theorem dL_restVoltage_0 : decode cL_restVoltage 0 = .ok (.aload_n 3, 1) := by decide +kernel
theorem dL_restVoltage_1 : decode cL_restVoltage 1 = .ok (.iconst 0, 1) := by decide +kernel
theorem dL_restVoltage_2 : decode cL_restVoltage 2 = .ok (.aload_n 0, 1) := by decide +kernel
theorem dL_restVoltage_3 : decode cL_restVoltage 3 = .ok (.iload_n 1, 1) := by decide +kernel
theorem dL_restVoltage_4 : decode cL_restVoltage 4 = .ok (.iload_n 2, 1) := by decide +kernel
theorem dL_restVoltage_5 : decode cL_restVoltage 5 = .ok (.invokevirtual 73, 3) := by decide +kernel
theorem dL_restVoltage_8 : decode cL_restVoltage 8 = .ok (.i2l, 1) := by decide +kernel
theorem dL_restVoltage_9 : decode cL_restVoltage 9 = .ok (.lastore, 1) := by decide +kernel
theorem dL_restVoltage_10 : decode cL_restVoltage 10 = .ok (.goto 11, 3) := by decide +kernel
theorem dL_restVoltage_13 : decode cL_restVoltage 13 = .ok (.astore 4, 2) := by decide +kernel
theorem dL_restVoltage_15 : decode cL_restVoltage 15 = .ok (.iconst 1, 1) := by decide +kernel
theorem dL_restVoltage_16 : decode cL_restVoltage 16 = .ok (.ireturn, 1) := by decide +kernel
theorem dL_restVoltage_17 : decode cL_restVoltage 17 = .ok (.astore 4, 2) := by decide +kernel
theorem dL_restVoltage_19 : decode cL_restVoltage 19 = .ok (.iconst 2, 1) := by decide +kernel
theorem dL_restVoltage_20 : decode cL_restVoltage 20 = .ok (.ireturn, 1) := by decide +kernel
theorem dL_restVoltage_21 : decode cL_restVoltage 21 = .ok (.iconst 0, 1) := by decide +kernel
theorem dL_restVoltage_22 : decode cL_restVoltage 22 = .ok (.ireturn, 1) := by decide +kernel
set_option maxRecDepth 100000 in
set_option maxHeartbeats 4000000 in
theorem tl_restVoltage (l : Launch) (hfl : l.stackTraces = false) (D : va_G) (ct : Nat → ClassId) (S : ty_S) (ws : va_W) (ph : va_W → Prop) (xx : Nat → Nat → Nat → Prop) (x : Nat) (w : Nat) (sp : Nat) (sv : Nat) (bu : Nat) (ns : Nat) (bl : Int32) (le : Int32) (p1 : Int32) (p2 : Int32) (ov : Nat) (o : Nat → Int64) (sz : Nat) (hT : ty_V ct S ph ws) (h_w : S w = some (.inl 9)) (h_sp : S sp = some (.inl 9)) (h_sv : S sv = some (.inr (4, ns))) (hph : ty_C ph xx) (hy1 : ty_y1 xx) (hy11 : ty_y0 xx 11) : Met l yL_restVoltage (wsw_ yL_restVoltage cL_restVoltage 5 (some .int) [(0, 10, 13, 32), (0, 10, 17, 13)]) ({ frames := 8, cells := 2, slots := 12, locals := 135 } : Room) (va_Pc [.ref x, .int p1, .int p2, .ref ov] (cmPn D ct sz ([(ty_XO x w sp sv bu bl le), (ov, .inl (ct 1, 1, .inr (.inl o)))] ++ ws))) (va_Qi (fun (r : Int32) (u : va_W × (Nat → Int64)) => match u with | (u9, o1) => ty_V ct S ph u9) (cmB D ([(ty_XO x w sp sv bu bl le), (ov, .inl (ct 1, 1, .inr (.inl o)))] ++ ws) sz (fun (u : va_W × (Nat → Int64)) => match u with | (u9, o1) => ([(ty_XO x w sp sv bu bl le), (ov, .inl (ct 1, 1, .inr (.inl o1)))] ++ u9))) (va_A ([(ty_XO x w sp sv bu bl le), (ov, .inl (ct 1, 1, .inr (.inl o)))] ++ ws) sz)) 2 12 (va_A ([(ty_XO x w sp sv bu bl le), (ov, .inl (ct 1, 1, .inr (.inl o)))] ++ ws) sz) := by
  refine va_MetW (cc := cL_restVoltage) (maxL := 5) (ret := (some .int)) (hh := [(0, 10, 13, 32), (0, 10, 17, 13)]) (by decide) rfl ?_
  intro p e s m args below meth c s₁ B hml hv
  have hts0 := atoms_spec (ws := wsw_ yL_restVoltage cL_restVoltage 5 (some .int) [(0, 10, 13, 32), (0, 10, 17, 13)]) B.pre
  have hts : ∀ w ∈ cm_all, w.before args s = true := fun w h => hts0 w (List.mem_cons_of_mem _ h)
  obtain ⟨rfl, ⟨hsz, hP, hK, hD0, hX⟩, hNc⟩ := hv
  have hx := B.exec
  have hb := B.bytes
  have hr := B.returns
  have htab := vx_table (x := yL_restVoltage) B (hts0 _ List.mem_cons_self)
  have hown : s.vm.findClass RL = some m.cls := findClass_of_methodNamed B.named
  have hlocks := B.notSynchronized
  subst hsz
  have hD := hD0.self (sz := s.heap.size)
  generalize hAe : va_A ([(ty_XO x w sp sv bu bl le), (ov, .inl (ct 1, 1, .inr (.inl o)))] ++ ws) s.heap.size = A at hD hX ⊢
  have hA : ∀ q : Nat, s.heap.size ≤ q → A q := fun q h => by rw [← hAe]; exact Or.inr h
  have hS : va_S A s.heap s.heap [] := va_S.rf
  have hl := lv_entry ([.ref x, .int p1, .int p2, .ref ov]) (n := 5) (Nat.le_of_ble_eq_true rfl)
  rw [lg_entry_eq]
  generalize (lg_sl ([.ref x, .int p1, .int p2, .ref ov]) ++ List.replicate (5 - (lg_sl ([.ref x, .int p1, .int p2, .ref ov])).length) Slot.unset).toArray = ls at hl ⊢
  have hl : lv_has ls 5 [(0, .ref x), (1, .int p1), (2, .int p2), (3, .ref ov)] := hl
  refine lv_aload_n hx hb dL_restVoltage_0 rfl (lv_at hl 3 rfl) ?_
  refine lv_iconst (v := 0) hx hb dL_restVoltage_1 (by decide) ?_
  refine lv_aload_n hx hb dL_restVoltage_2 rfl (lv_at hl 0 rfl) ?_
  refine lv_iload_n hx hb dL_restVoltage_3 rfl (lv_at hl 1 rfl) ?_
  refine lv_iload_n hx hb dL_restVoltage_4 rfl (lv_at hl 2 rfl) ?_
  have hP : va_P D vwCl ([(ov, .inl (ct 1, 1, .inr (.inl o))), (ty_XO x w sp sv bu bl le)] ++ ws) s.heap := ty_permP hP (ty_ordp (E := [(ty_XO x w sp sv bu bl le), (ov, .inl (ct 1, 1, .inr (.inl o)))]) (E2 := [(ov, .inl (ct 1, 1, .inr (.inl o))), (ty_XO x w sp sv bu bl le)]) (n := 2) [1, 0] rfl rfl (by decide))
  have hD : va_D A ([(ov, .inl (ct 1, 1, .inr (.inl o))), (ty_XO x w sp sv bu bl le)] ++ ws) := ty_permD hD (ty_ordp (E := [(ty_XO x w sp sv bu bl le), (ov, .inl (ct 1, 1, .inr (.inl o)))]) (E2 := [(ov, .inl (ct 1, 1, .inr (.inl o))), (ty_XO x w sp sv bu bl le)]) (n := 2) [1, 0] rfl rfl (by decide))
  refine ty_xi (wr := [(ov, .inl (ct 1, 1, .inr (.inl o)))]) (wc := ([(ty_XO x w sp sv bu bl le)] ++ ws)) (vx_runV (As := [.int p1, .int p2]) (rest := [.int 0, .ref ov]) ⟨hx, hb, hml, hown, hts⟩ (t_X10_restVoltage l hfl D ct S ws ph xx x w sp sv bu ns bl le p1 p2 _ hT h_w h_sp h_sv hph hy1) (cm_V 2 hts kc_X10_restVoltage ki_RX10 kl_RL_73 kv_X10_restVoltage kx_X10_restVoltage kd_X10_restVoltage ⟨Nat.le_of_ble_eq_true rfl, Nat.le_of_ble_eq_true rfl⟩) (ty_preE (wr := [(ov, .inl (ct 1, 1, .inr (.inl o)))]) (wc := ([(ty_XO x w sp sv bu bl le)] ++ ws)) (ci := 10) (q0 := 1) hP hK hD hS hA hX rfl rfl) rfl rfl hl.1 rfl (lv_room (Nat.le_of_ble_eq_true rfl)) dL_restVoltage_5 ⟨Nat.le_of_ble_eq_true rfl, Nat.le_of_ble_eq_true rfl⟩) hP hD hS hA (fun E ce q9 u H locs hu hE hP hD hS hce hcv hcl => ?_) (fun r_1 u H locs hw_2 hP hD hS => ?_)
  · obtain ⟨ws_3, rfl⟩ : ∃ z, z = u := ⟨_, rfl⟩
    have hT := hu
    have hP : va_P D vwCl ([(ov, .inl (ct 1, 1, .inr (.inl o))), (ty_XO x w sp sv bu bl le)] ++ ws_3) H := hP
    have hD : va_D A ([(ov, .inl (ct 1, 1, .inr (.inl o))), (ty_XO x w sp sv bu bl le)] ++ ws_3) := hD
    rcases List.mem_cons.mp hE with rfl | hE
    · refine vx_catch (name := "java/lang/IllegalArgumentException") hown [_] _ _ htab (fun z hz => by obtain rfl := List.mem_singleton.mp hz; exact Or.inr ⟨by decide, _, hts _ kl_RL_32, hNc⟩) (by decide) (by decide) (hts _ kl_RL_13) (hts _ kcast_IAE) hce hcv hcl ?_
      refine W.eq (g2 := F0 m 17 ls [.ref q9]) rfl ?_
      refine lv_astore (lv' := [(4, .ref q9), (0, .ref x), (1, .int p1), (2, .int p2), (3, .ref ov)]) hx hb dL_restVoltage_17 hl (by decide) rfl (fun ls hl => ?_)
      refine lv_iconst (v := 2) hx hb dL_restVoltage_19 (by decide) ?_
      have hP : va_P D vwCl ([(ty_XO x w sp sv bu bl le), (ov, .inl (ct 1, 1, .inr (.inl o)))] ++ ws_3) H := ty_permP hP (ty_ordp (E := [(ov, .inl (ct 1, 1, .inr (.inl o))), (ty_XO x w sp sv bu bl le)]) (E2 := [(ty_XO x w sp sv bu bl le), (ov, .inl (ct 1, 1, .inr (.inl o)))]) (n := 2) [1, 0] rfl rfl (by decide))
      have hD : va_D A ([(ty_XO x w sp sv bu bl le), (ov, .inl (ct 1, 1, .inr (.inl o)))] ++ ws_3) := ty_permD hD (ty_ordp (E := [(ov, .inl (ct 1, 1, .inr (.inl o))), (ty_XO x w sp sv bu bl le)]) (E2 := [(ty_XO x w sp sv bu bl le), (ov, .inl (ct 1, 1, .inr (.inl o)))]) (n := 2) [1, 0] rfl rfl (by decide))
      exact W.iret (v := 2) hx hb hr (fun t ht hW => ⟨⟨2, (ws_3, o), rfl, hT, by rw [ht]; exact hP, by rw [hAe]; exact hD⟩, hS.F ht⟩) hS.2.2 dL_restVoltage_20
    · obtain rfl := List.mem_singleton.mp hE
      refine vx_catch (name := "java/lang/IndexOutOfBoundsException") hown [] _ _ htab (fun z hz => absurd hz List.not_mem_nil) (by decide) (by decide) (hts _ kl_RL_32) (hts _ kcast_IOE) hce hcv hcl ?_
      refine W.eq (g2 := F0 m 13 ls [.ref q9]) rfl ?_
      refine lv_astore (lv' := [(4, .ref q9), (0, .ref x), (1, .int p1), (2, .int p2), (3, .ref ov)]) hx hb dL_restVoltage_13 hl (by decide) rfl (fun ls hl => ?_)
      refine lv_iconst (v := 1) hx hb dL_restVoltage_15 (by decide) ?_
      have hP : va_P D vwCl ([(ty_XO x w sp sv bu bl le), (ov, .inl (ct 1, 1, .inr (.inl o)))] ++ ws_3) H := ty_permP hP (ty_ordp (E := [(ov, .inl (ct 1, 1, .inr (.inl o))), (ty_XO x w sp sv bu bl le)]) (E2 := [(ty_XO x w sp sv bu bl le), (ov, .inl (ct 1, 1, .inr (.inl o)))]) (n := 2) [1, 0] rfl rfl (by decide))
      have hD : va_D A ([(ty_XO x w sp sv bu bl le), (ov, .inl (ct 1, 1, .inr (.inl o)))] ++ ws_3) := ty_permD hD (ty_ordp (E := [(ov, .inl (ct 1, 1, .inr (.inl o))), (ty_XO x w sp sv bu bl le)]) (E2 := [(ty_XO x w sp sv bu bl le), (ov, .inl (ct 1, 1, .inr (.inl o)))]) (n := 2) [1, 0] rfl rfl (by decide))
      exact W.iret (v := 1) hx hb hr (fun t ht hW => ⟨⟨1, (ws_3, o), rfl, hT, by rw [ht]; exact hP, by rw [hAe]; exact hD⟩, hS.F ht⟩) hS.2.2 dL_restVoltage_16
  · obtain ⟨ws_4, rfl⟩ : ∃ z, z = u := ⟨_, rfl⟩
    have hT := hw_2
    have hP : va_P D vwCl ([(ov, .inl (ct 1, 1, .inr (.inl o))), (ty_XO x w sp sv bu bl le)] ++ ws_4) H := hP
    have hD : va_D A ([(ov, .inl (ct 1, 1, .inr (.inl o))), (ty_XO x w sp sv bu bl le)] ++ ws_4) := hD
    refine W.widen (k := 2) (n := 12) (Nat.le_of_ble_eq_true rfl) (Nat.le_of_ble_eq_true rfl) ?_
    refine lv_i2l hx hb dL_restVoltage_8 rfl ?_
    refine lv_topl (fun x_5 _ => ?_)
    refine va_last hx hb hK hP hD hS 0 1 rfl rfl (cm_vin (by decide)) dL_restVoltage_9 (fun H locs hP hD hS => ?_)
    have hP : va_P D vwCl ([(ov, .inl (ct 1, 1, .inr (.inl (vp_updL o (0 : Int32).toNatClampNeg x_5)))), (ty_XO x w sp sv bu bl le)] ++ ws_4) H := hP
    have hD : va_D A ([(ov, .inl (ct 1, 1, .inr (.inl (vp_updL o (0 : Int32).toNatClampNeg x_5)))), (ty_XO x w sp sv bu bl le)] ++ ws_4) := hD
    refine lv_goto (tgt := 21) hx hb dL_restVoltage_10 (by decide) ?_
    refine lv_iconst (v := 0) hx hb dL_restVoltage_21 (by decide) ?_
    have hP : va_P D vwCl ([(ty_XO x w sp sv bu bl le), (ov, .inl (ct 1, 1, .inr (.inl (vp_updL o (0 : Int32).toNatClampNeg x_5))))] ++ ws_4) H := ty_permP hP (ty_ordp (E := [(ov, .inl (ct 1, 1, .inr (.inl (vp_updL o (0 : Int32).toNatClampNeg x_5)))), (ty_XO x w sp sv bu bl le)]) (E2 := [(ty_XO x w sp sv bu bl le), (ov, .inl (ct 1, 1, .inr (.inl (vp_updL o (0 : Int32).toNatClampNeg x_5))))]) (n := 2) [1, 0] rfl rfl (by decide))
    have hD : va_D A ([(ty_XO x w sp sv bu bl le), (ov, .inl (ct 1, 1, .inr (.inl (vp_updL o (0 : Int32).toNatClampNeg x_5))))] ++ ws_4) := ty_permD hD (ty_ordp (E := [(ov, .inl (ct 1, 1, .inr (.inl (vp_updL o (0 : Int32).toNatClampNeg x_5)))), (ty_XO x w sp sv bu bl le)]) (E2 := [(ty_XO x w sp sv bu bl le), (ov, .inl (ct 1, 1, .inr (.inl (vp_updL o (0 : Int32).toNatClampNeg x_5))))]) (n := 2) [1, 0] rfl rfl (by decide))
    exact W.iret (v := 0) hx hb hr (fun t ht hW => ⟨⟨0, (ws_4, (vp_updL o (0 : Int32).toNatClampNeg x_5)), rfl, hT, by rw [ht]; exact hP, by rw [hAe]; exact hD⟩, hS.F ht⟩) hS.2.2 dL_restVoltage_22
theorem dL_chargeFor_0 : decode cL_chargeFor 0 = .ok (.aload_n 3, 1) := by decide +kernel
theorem dL_chargeFor_1 : decode cL_chargeFor 1 = .ok (.iconst 0, 1) := by decide +kernel
theorem dL_chargeFor_2 : decode cL_chargeFor 2 = .ok (.aload_n 0, 1) := by decide +kernel
theorem dL_chargeFor_3 : decode cL_chargeFor 3 = .ok (.iload_n 1, 1) := by decide +kernel
theorem dL_chargeFor_4 : decode cL_chargeFor 4 = .ok (.iload_n 2, 1) := by decide +kernel
theorem dL_chargeFor_5 : decode cL_chargeFor 5 = .ok (.invokevirtual 76, 3) := by decide +kernel
theorem dL_chargeFor_8 : decode cL_chargeFor 8 = .ok (.i2l, 1) := by decide +kernel
theorem dL_chargeFor_9 : decode cL_chargeFor 9 = .ok (.lastore, 1) := by decide +kernel
theorem dL_chargeFor_10 : decode cL_chargeFor 10 = .ok (.goto 11, 3) := by decide +kernel
theorem dL_chargeFor_13 : decode cL_chargeFor 13 = .ok (.astore 4, 2) := by decide +kernel
theorem dL_chargeFor_15 : decode cL_chargeFor 15 = .ok (.iconst 1, 1) := by decide +kernel
theorem dL_chargeFor_16 : decode cL_chargeFor 16 = .ok (.ireturn, 1) := by decide +kernel
theorem dL_chargeFor_17 : decode cL_chargeFor 17 = .ok (.astore 4, 2) := by decide +kernel
theorem dL_chargeFor_19 : decode cL_chargeFor 19 = .ok (.iconst 2, 1) := by decide +kernel
theorem dL_chargeFor_20 : decode cL_chargeFor 20 = .ok (.ireturn, 1) := by decide +kernel
theorem dL_chargeFor_21 : decode cL_chargeFor 21 = .ok (.iconst 0, 1) := by decide +kernel
theorem dL_chargeFor_22 : decode cL_chargeFor 22 = .ok (.ireturn, 1) := by decide +kernel
set_option maxRecDepth 100000 in
set_option maxHeartbeats 4000000 in
theorem tl_chargeFor (l : Launch) (hfl : l.stackTraces = false) (D : va_G) (ct : Nat → ClassId) (S : ty_S) (ws : va_W) (ph : va_W → Prop) (xx : Nat → Nat → Nat → Prop) (x : Nat) (w : Nat) (sp : Nat) (sv : Nat) (bu : Nat) (ns : Nat) (bl : Int32) (le : Int32) (p1 : Int32) (p2 : Int32) (ov : Nat) (o : Nat → Int64) (sz : Nat) (hT : ty_V ct S ph ws) (h_w : S w = some (.inl 9)) (h_sp : S sp = some (.inl 9)) (h_sv : S sv = some (.inr (4, ns))) (hph : ty_C ph xx) (hy1 : ty_y1 xx) (hy11 : ty_y0 xx 11) : Met l yL_chargeFor (wsw_ yL_chargeFor cL_chargeFor 5 (some .int) [(0, 10, 13, 32), (0, 10, 17, 13)]) ({ frames := 8, cells := 2, slots := 12, locals := 135 } : Room) (va_Pc [.ref x, .int p1, .int p2, .ref ov] (cmPn D ct sz ([(ty_XO x w sp sv bu bl le), (ov, .inl (ct 1, 1, .inr (.inl o)))] ++ ws))) (va_Qi (fun (r : Int32) (u : va_W × (Nat → Int64)) => match u with | (u9, o1) => ty_V ct S ph u9) (cmB D ([(ty_XO x w sp sv bu bl le), (ov, .inl (ct 1, 1, .inr (.inl o)))] ++ ws) sz (fun (u : va_W × (Nat → Int64)) => match u with | (u9, o1) => ([(ty_XO x w sp sv bu bl le), (ov, .inl (ct 1, 1, .inr (.inl o1)))] ++ u9))) (va_A ([(ty_XO x w sp sv bu bl le), (ov, .inl (ct 1, 1, .inr (.inl o)))] ++ ws) sz)) 2 12 (va_A ([(ty_XO x w sp sv bu bl le), (ov, .inl (ct 1, 1, .inr (.inl o)))] ++ ws) sz) := by
  refine va_MetW (cc := cL_chargeFor) (maxL := 5) (ret := (some .int)) (hh := [(0, 10, 13, 32), (0, 10, 17, 13)]) (by decide) rfl ?_
  intro p e s m args below meth c s₁ B hml hv
  have hts0 := atoms_spec (ws := wsw_ yL_chargeFor cL_chargeFor 5 (some .int) [(0, 10, 13, 32), (0, 10, 17, 13)]) B.pre
  have hts : ∀ w ∈ cm_all, w.before args s = true := fun w h => hts0 w (List.mem_cons_of_mem _ h)
  obtain ⟨rfl, ⟨hsz, hP, hK, hD0, hX⟩, hNc⟩ := hv
  have hx := B.exec
  have hb := B.bytes
  have hr := B.returns
  have htab := vx_table (x := yL_chargeFor) B (hts0 _ List.mem_cons_self)
  have hown : s.vm.findClass RL = some m.cls := findClass_of_methodNamed B.named
  have hlocks := B.notSynchronized
  subst hsz
  have hD := hD0.self (sz := s.heap.size)
  generalize hAe : va_A ([(ty_XO x w sp sv bu bl le), (ov, .inl (ct 1, 1, .inr (.inl o)))] ++ ws) s.heap.size = A at hD hX ⊢
  have hA : ∀ q : Nat, s.heap.size ≤ q → A q := fun q h => by rw [← hAe]; exact Or.inr h
  have hS : va_S A s.heap s.heap [] := va_S.rf
  have hl := lv_entry ([.ref x, .int p1, .int p2, .ref ov]) (n := 5) (Nat.le_of_ble_eq_true rfl)
  rw [lg_entry_eq]
  generalize (lg_sl ([.ref x, .int p1, .int p2, .ref ov]) ++ List.replicate (5 - (lg_sl ([.ref x, .int p1, .int p2, .ref ov])).length) Slot.unset).toArray = ls at hl ⊢
  have hl : lv_has ls 5 [(0, .ref x), (1, .int p1), (2, .int p2), (3, .ref ov)] := hl
  refine lv_aload_n hx hb dL_chargeFor_0 rfl (lv_at hl 3 rfl) ?_
  refine lv_iconst (v := 0) hx hb dL_chargeFor_1 (by decide) ?_
  refine lv_aload_n hx hb dL_chargeFor_2 rfl (lv_at hl 0 rfl) ?_
  refine lv_iload_n hx hb dL_chargeFor_3 rfl (lv_at hl 1 rfl) ?_
  refine lv_iload_n hx hb dL_chargeFor_4 rfl (lv_at hl 2 rfl) ?_
  have hP : va_P D vwCl ([(ov, .inl (ct 1, 1, .inr (.inl o))), (ty_XO x w sp sv bu bl le)] ++ ws) s.heap := ty_permP hP (ty_ordp (E := [(ty_XO x w sp sv bu bl le), (ov, .inl (ct 1, 1, .inr (.inl o)))]) (E2 := [(ov, .inl (ct 1, 1, .inr (.inl o))), (ty_XO x w sp sv bu bl le)]) (n := 2) [1, 0] rfl rfl (by decide))
  have hD : va_D A ([(ov, .inl (ct 1, 1, .inr (.inl o))), (ty_XO x w sp sv bu bl le)] ++ ws) := ty_permD hD (ty_ordp (E := [(ty_XO x w sp sv bu bl le), (ov, .inl (ct 1, 1, .inr (.inl o)))]) (E2 := [(ov, .inl (ct 1, 1, .inr (.inl o))), (ty_XO x w sp sv bu bl le)]) (n := 2) [1, 0] rfl rfl (by decide))
  refine ty_xi (wr := [(ov, .inl (ct 1, 1, .inr (.inl o)))]) (wc := ([(ty_XO x w sp sv bu bl le)] ++ ws)) (vx_runV (As := [.int p1, .int p2]) (rest := [.int 0, .ref ov]) ⟨hx, hb, hml, hown, hts⟩ (t_X10_chargeFor l hfl D ct S ws ph xx x w sp sv bu ns bl le p1 p2 _ hT h_w h_sp h_sv hph hy1) (cm_V 2 hts kc_X10_chargeFor ki_RX10 kl_RL_76 kv_X10_chargeFor kx_X10_chargeFor kd_X10_chargeFor ⟨Nat.le_of_ble_eq_true rfl, Nat.le_of_ble_eq_true rfl⟩) (ty_preE (wr := [(ov, .inl (ct 1, 1, .inr (.inl o)))]) (wc := ([(ty_XO x w sp sv bu bl le)] ++ ws)) (ci := 10) (q0 := 1) hP hK hD hS hA hX rfl rfl) rfl rfl hl.1 rfl (lv_room (Nat.le_of_ble_eq_true rfl)) dL_chargeFor_5 ⟨Nat.le_of_ble_eq_true rfl, Nat.le_of_ble_eq_true rfl⟩) hP hD hS hA (fun E ce q9 u H locs hu hE hP hD hS hce hcv hcl => ?_) (fun r_1 u H locs hw_2 hP hD hS => ?_)
  · obtain ⟨ws_3, rfl⟩ : ∃ z, z = u := ⟨_, rfl⟩
    have hT := hu
    have hP : va_P D vwCl ([(ov, .inl (ct 1, 1, .inr (.inl o))), (ty_XO x w sp sv bu bl le)] ++ ws_3) H := hP
    have hD : va_D A ([(ov, .inl (ct 1, 1, .inr (.inl o))), (ty_XO x w sp sv bu bl le)] ++ ws_3) := hD
    rcases List.mem_cons.mp hE with rfl | hE
    · refine vx_catch (name := "java/lang/IllegalArgumentException") hown [_] _ _ htab (fun z hz => by obtain rfl := List.mem_singleton.mp hz; exact Or.inr ⟨by decide, _, hts _ kl_RL_32, hNc⟩) (by decide) (by decide) (hts _ kl_RL_13) (hts _ kcast_IAE) hce hcv hcl ?_
      refine W.eq (g2 := F0 m 17 ls [.ref q9]) rfl ?_
      refine lv_astore (lv' := [(4, .ref q9), (0, .ref x), (1, .int p1), (2, .int p2), (3, .ref ov)]) hx hb dL_chargeFor_17 hl (by decide) rfl (fun ls hl => ?_)
      refine lv_iconst (v := 2) hx hb dL_chargeFor_19 (by decide) ?_
      have hP : va_P D vwCl ([(ty_XO x w sp sv bu bl le), (ov, .inl (ct 1, 1, .inr (.inl o)))] ++ ws_3) H := ty_permP hP (ty_ordp (E := [(ov, .inl (ct 1, 1, .inr (.inl o))), (ty_XO x w sp sv bu bl le)]) (E2 := [(ty_XO x w sp sv bu bl le), (ov, .inl (ct 1, 1, .inr (.inl o)))]) (n := 2) [1, 0] rfl rfl (by decide))
      have hD : va_D A ([(ty_XO x w sp sv bu bl le), (ov, .inl (ct 1, 1, .inr (.inl o)))] ++ ws_3) := ty_permD hD (ty_ordp (E := [(ov, .inl (ct 1, 1, .inr (.inl o))), (ty_XO x w sp sv bu bl le)]) (E2 := [(ty_XO x w sp sv bu bl le), (ov, .inl (ct 1, 1, .inr (.inl o)))]) (n := 2) [1, 0] rfl rfl (by decide))
      exact W.iret (v := 2) hx hb hr (fun t ht hW => ⟨⟨2, (ws_3, o), rfl, hT, by rw [ht]; exact hP, by rw [hAe]; exact hD⟩, hS.F ht⟩) hS.2.2 dL_chargeFor_20
    · obtain rfl := List.mem_singleton.mp hE
      refine vx_catch (name := "java/lang/IndexOutOfBoundsException") hown [] _ _ htab (fun z hz => absurd hz List.not_mem_nil) (by decide) (by decide) (hts _ kl_RL_32) (hts _ kcast_IOE) hce hcv hcl ?_
      refine W.eq (g2 := F0 m 13 ls [.ref q9]) rfl ?_
      refine lv_astore (lv' := [(4, .ref q9), (0, .ref x), (1, .int p1), (2, .int p2), (3, .ref ov)]) hx hb dL_chargeFor_13 hl (by decide) rfl (fun ls hl => ?_)
      refine lv_iconst (v := 1) hx hb dL_chargeFor_15 (by decide) ?_
      have hP : va_P D vwCl ([(ty_XO x w sp sv bu bl le), (ov, .inl (ct 1, 1, .inr (.inl o)))] ++ ws_3) H := ty_permP hP (ty_ordp (E := [(ov, .inl (ct 1, 1, .inr (.inl o))), (ty_XO x w sp sv bu bl le)]) (E2 := [(ty_XO x w sp sv bu bl le), (ov, .inl (ct 1, 1, .inr (.inl o)))]) (n := 2) [1, 0] rfl rfl (by decide))
      have hD : va_D A ([(ty_XO x w sp sv bu bl le), (ov, .inl (ct 1, 1, .inr (.inl o)))] ++ ws_3) := ty_permD hD (ty_ordp (E := [(ov, .inl (ct 1, 1, .inr (.inl o))), (ty_XO x w sp sv bu bl le)]) (E2 := [(ty_XO x w sp sv bu bl le), (ov, .inl (ct 1, 1, .inr (.inl o)))]) (n := 2) [1, 0] rfl rfl (by decide))
      exact W.iret (v := 1) hx hb hr (fun t ht hW => ⟨⟨1, (ws_3, o), rfl, hT, by rw [ht]; exact hP, by rw [hAe]; exact hD⟩, hS.F ht⟩) hS.2.2 dL_chargeFor_16
  · obtain ⟨ws_4, rfl⟩ : ∃ z, z = u := ⟨_, rfl⟩
    have hT := hw_2
    have hP : va_P D vwCl ([(ov, .inl (ct 1, 1, .inr (.inl o))), (ty_XO x w sp sv bu bl le)] ++ ws_4) H := hP
    have hD : va_D A ([(ov, .inl (ct 1, 1, .inr (.inl o))), (ty_XO x w sp sv bu bl le)] ++ ws_4) := hD
    refine W.widen (k := 2) (n := 12) (Nat.le_of_ble_eq_true rfl) (Nat.le_of_ble_eq_true rfl) ?_
    refine lv_i2l hx hb dL_chargeFor_8 rfl ?_
    refine lv_topl (fun x_5 _ => ?_)
    refine va_last hx hb hK hP hD hS 0 1 rfl rfl (cm_vin (by decide)) dL_chargeFor_9 (fun H locs hP hD hS => ?_)
    have hP : va_P D vwCl ([(ov, .inl (ct 1, 1, .inr (.inl (vp_updL o (0 : Int32).toNatClampNeg x_5)))), (ty_XO x w sp sv bu bl le)] ++ ws_4) H := hP
    have hD : va_D A ([(ov, .inl (ct 1, 1, .inr (.inl (vp_updL o (0 : Int32).toNatClampNeg x_5)))), (ty_XO x w sp sv bu bl le)] ++ ws_4) := hD
    refine lv_goto (tgt := 21) hx hb dL_chargeFor_10 (by decide) ?_
    refine lv_iconst (v := 0) hx hb dL_chargeFor_21 (by decide) ?_
    have hP : va_P D vwCl ([(ty_XO x w sp sv bu bl le), (ov, .inl (ct 1, 1, .inr (.inl (vp_updL o (0 : Int32).toNatClampNeg x_5))))] ++ ws_4) H := ty_permP hP (ty_ordp (E := [(ov, .inl (ct 1, 1, .inr (.inl (vp_updL o (0 : Int32).toNatClampNeg x_5)))), (ty_XO x w sp sv bu bl le)]) (E2 := [(ty_XO x w sp sv bu bl le), (ov, .inl (ct 1, 1, .inr (.inl (vp_updL o (0 : Int32).toNatClampNeg x_5))))]) (n := 2) [1, 0] rfl rfl (by decide))
    have hD : va_D A ([(ty_XO x w sp sv bu bl le), (ov, .inl (ct 1, 1, .inr (.inl (vp_updL o (0 : Int32).toNatClampNeg x_5))))] ++ ws_4) := ty_permD hD (ty_ordp (E := [(ov, .inl (ct 1, 1, .inr (.inl (vp_updL o (0 : Int32).toNatClampNeg x_5)))), (ty_XO x w sp sv bu bl le)]) (E2 := [(ty_XO x w sp sv bu bl le), (ov, .inl (ct 1, 1, .inr (.inl (vp_updL o (0 : Int32).toNatClampNeg x_5))))]) (n := 2) [1, 0] rfl rfl (by decide))
    exact W.iret (v := 0) hx hb hr (fun t ht hW => ⟨⟨0, (ws_4, (vp_updL o (0 : Int32).toNatClampNeg x_5)), rfl, hT, by rw [ht]; exact hP, by rw [hAe]; exact hD⟩, hS.F ht⟩) hS.2.2 dL_chargeFor_22
