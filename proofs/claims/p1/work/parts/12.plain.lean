theorem dX10_loadError_0 : decode cX10_loadError 0 = .ok (.aload_n 0, 1) := by decide +kernel
theorem dX10_loadError_1 : decode cX10_loadError 1 = .ok (.getfield 31, 3) := by decide +kernel
theorem dX10_loadError_4 : decode cX10_loadError 4 = .ok (.ireturn, 1) := by decide +kernel
set_option maxRecDepth 100000 in
set_option maxHeartbeats 4000000 in
theorem c_loadError_0 (l : Launch) (D : va_G) (ct : Nat → ClassId) (x : Nat) (w : Nat) (sp : Nat) (sv : Nat) (bu : Nat) (sz : Nat) : Met l yX10_loadError (ws_ yX10_loadError cX10_loadError 1 (some .int)) ({ frames := 0, cells := 0, slots := 0, locals := 0 } : Room) (va_Pc [.ref x] (cmP D ct sz [(x, .inr (10, [.ref w, .ref sp, .ref sv, .ref bu, .int 0, .int 0]))])) (va_Qi (fun (r : Int32) (_ : Unit) => r = 0) (cmB D [(x, .inr (10, [.ref w, .ref sp, .ref sv, .ref bu, .int 0, .int 0]))] sz (fun _ : Unit => [(x, .inr (10, [.ref w, .ref sp, .ref sv, .ref bu, .int 0, .int 0]))])) (va_A [(x, .inr (10, [.ref w, .ref sp, .ref sv, .ref bu, .int 0, .int 0]))] sz)) 0 0 (va_A [(x, .inr (10, [.ref w, .ref sp, .ref sv, .ref bu, .int 0, .int 0]))] sz) := by
  refine Met.ofW (cc := cX10_loadError) (maxL := 1) (ret := (some .int)) (by decide) rfl ?_
  intro p e s m args below meth c s₁ B hml hv
  obtain ⟨rfl, hsz, hP, hK, hD0, hX⟩ := hv
  have hx := B.exec
  have hb := B.bytes
  have hr := B.returns
  have hts := ws_all (atoms_spec (ws := ws_ yX10_loadError cX10_loadError 1 (some .int)) B.pre)
  have hown : s.vm.findClass RX10 = some m.cls := findClass_of_methodNamed B.named
  have hlocks := B.notSynchronized
  subst hsz
  have hD := hD0.self (sz := s.heap.size)
  generalize hAe : va_A [(x, .inr (10, [.ref w, .ref sp, .ref sv, .ref bu, .int 0, .int 0]))] s.heap.size = A at hD hX ⊢
  have hA : ∀ q : Nat, s.heap.size ≤ q → A q := fun q h => by rw [← hAe]; exact Or.inr h
  have hS : va_S A s.heap s.heap [] := va_S.rf
  have hl := lv_entry ([.ref x]) (n := 1) (Nat.le_of_ble_eq_true rfl)
  rw [lg_entry_eq]
  generalize (lg_sl ([.ref x]) ++ List.replicate (1 - (lg_sl ([.ref x])).length) Slot.unset).toArray = ls at hl ⊢
  have hl : lv_has ls 1 [(0, .ref x)] := hl
  refine lv_aload_n hx hb dX10_loadError_0 rfl (lv_at hl 0 rfl) ?_
  refine va_get (v := .int 0) (D := D) (ci := 10) (C := RX10) (T := TX10) (N := 6) hx hb hts in_X10 hown hK hP 0 rfl rfl 5 (by decide) (hts _ kl_RX10_31) (fun _ h9 => h9) rfl dX10_loadError_1 ?_
  have hP9 := hP.sub (ws' := [(x, .inr (10, [.ref w, .ref sp, .ref sv, .ref bu, .int 0, .int 0]))]) [0] rfl
  have hD9 := hD.sub (ws' := [(x, .inr (10, [.ref w, .ref sp, .ref sv, .ref bu, .int 0, .int 0]))]) [0] (by decide) rfl
  exact W.iret (v := 0) hx hb hr (fun t ht hW => ⟨⟨0, (), rfl, rfl, by rw [ht]; exact hP9, by rw [hAe]; exact hD9⟩, hS.F ht⟩) hS.2.2 dX10_loadError_4
theorem dX10_now_0 : decode cX10_now 0 = .ok (.aload_n 0, 1) := by decide +kernel
theorem dX10_now_1 : decode cX10_now 1 = .ok (.getfield 10, 3) := by decide +kernel
theorem dX10_now_4 : decode cX10_now 4 = .ok (.getfield 164, 3) := by decide +kernel
theorem dX10_now_7 : decode cX10_now 7 = .ok (.ireturn, 1) := by decide +kernel
set_option maxRecDepth 100000 in
set_option maxHeartbeats 4000000 in
theorem c_now_0 (l : Launch) (D : va_G) (ct : Nat → ClassId) (x : Nat) (w : Nat) (sp : Nat) (sv : Nat) (bu : Nat) (w_se : Nat) (w_cu : Nat) (w_pr : Nat) (w_ch : Nat) (w_re : Nat) (w_lo : Nat) (sz : Nat) : Met l yX10_now (ws_ yX10_now cX10_now 1 (some .int)) ({ frames := 0, cells := 0, slots := 0, locals := 0 } : Room) (va_Pc [.ref x] (cmP D ct sz [(x, .inr (10, [.ref w, .ref sp, .ref sv, .ref bu, .int 0, .int 0])), (w, .inr (9, [.int 0, .ref w_se, .ref w_cu, .ref w_pr, .int 0, .ref w_ch, .ref w_re, .ref w_lo]))])) (va_Qi (fun (r : Int32) (_ : Unit) => r = 0) (cmB D [(x, .inr (10, [.ref w, .ref sp, .ref sv, .ref bu, .int 0, .int 0])), (w, .inr (9, [.int 0, .ref w_se, .ref w_cu, .ref w_pr, .int 0, .ref w_ch, .ref w_re, .ref w_lo]))] sz (fun _ : Unit => [(x, .inr (10, [.ref w, .ref sp, .ref sv, .ref bu, .int 0, .int 0])), (w, .inr (9, [.int 0, .ref w_se, .ref w_cu, .ref w_pr, .int 0, .ref w_ch, .ref w_re, .ref w_lo]))])) (va_A [(x, .inr (10, [.ref w, .ref sp, .ref sv, .ref bu, .int 0, .int 0])), (w, .inr (9, [.int 0, .ref w_se, .ref w_cu, .ref w_pr, .int 0, .ref w_ch, .ref w_re, .ref w_lo]))] sz)) 0 0 (va_A [(x, .inr (10, [.ref w, .ref sp, .ref sv, .ref bu, .int 0, .int 0])), (w, .inr (9, [.int 0, .ref w_se, .ref w_cu, .ref w_pr, .int 0, .ref w_ch, .ref w_re, .ref w_lo]))] sz) := by
  refine Met.ofW (cc := cX10_now) (maxL := 1) (ret := (some .int)) (by decide) rfl ?_
  intro p e s m args below meth c s₁ B hml hv
  obtain ⟨rfl, hsz, hP, hK, hD0, hX⟩ := hv
  have hx := B.exec
  have hb := B.bytes
  have hr := B.returns
  have hts := ws_all (atoms_spec (ws := ws_ yX10_now cX10_now 1 (some .int)) B.pre)
  have hown : s.vm.findClass RX10 = some m.cls := findClass_of_methodNamed B.named
  have hlocks := B.notSynchronized
  subst hsz
  have hD := hD0.self (sz := s.heap.size)
  generalize hAe : va_A [(x, .inr (10, [.ref w, .ref sp, .ref sv, .ref bu, .int 0, .int 0])), (w, .inr (9, [.int 0, .ref w_se, .ref w_cu, .ref w_pr, .int 0, .ref w_ch, .ref w_re, .ref w_lo]))] s.heap.size = A at hD hX ⊢
  have hA : ∀ q : Nat, s.heap.size ≤ q → A q := fun q h => by rw [← hAe]; exact Or.inr h
  have hS : va_S A s.heap s.heap [] := va_S.rf
  have hl := lv_entry ([.ref x]) (n := 1) (Nat.le_of_ble_eq_true rfl)
  rw [lg_entry_eq]
  generalize (lg_sl ([.ref x]) ++ List.replicate (1 - (lg_sl ([.ref x])).length) Slot.unset).toArray = ls at hl ⊢
  have hl : lv_has ls 1 [(0, .ref x)] := hl
  refine lv_aload_n hx hb dX10_now_0 rfl (lv_at hl 0 rfl) ?_
  refine va_get (v := .ref w) (D := D) (ci := 10) (C := RX10) (T := TX10) (N := 6) hx hb hts in_X10 hown hK hP 0 rfl rfl 0 (by decide) (hts _ kl_RX10_10) (fun _ h9 => h9) rfl dX10_now_1 ?_
  refine va_getN (v := .int 0) (D := D) (ci := 9) (C := RX9) (T := TX9) (N := 8) hx hb hts in_X9 hown hK hP 1 rfl rfl 0 (by decide) (hts _ kl_RX10_164) (fun _ h9 => h9) rfl dX10_now_4 ?_
  have hP9 := hP.sub (ws' := [(x, .inr (10, [.ref w, .ref sp, .ref sv, .ref bu, .int 0, .int 0])), (w, .inr (9, [.int 0, .ref w_se, .ref w_cu, .ref w_pr, .int 0, .ref w_ch, .ref w_re, .ref w_lo]))]) [0, 1] rfl
  have hD9 := hD.sub (ws' := [(x, .inr (10, [.ref w, .ref sp, .ref sv, .ref bu, .int 0, .int 0])), (w, .inr (9, [.int 0, .ref w_se, .ref w_cu, .ref w_pr, .int 0, .ref w_ch, .ref w_re, .ref w_lo]))]) [0, 1] (by decide) rfl
  exact W.iret (v := 0) hx hb hr (fun t ht hW => ⟨⟨0, (), rfl, rfl, by rw [ht]; exact hP9, by rw [hAe]; exact hD9⟩, hS.F ht⟩) hS.2.2 dX10_now_7
theorem dX10_curveNamed_0 : decode cX10_curveNamed 0 = .ok (.aload_n 0, 1) := by decide +kernel
theorem dX10_curveNamed_1 : decode cX10_curveNamed 1 = .ok (.getfield 27, 3) := by decide +kernel
theorem dX10_curveNamed_4 : decode cX10_curveNamed 4 = .ok (.istore_n 1, 1) := by decide +kernel
theorem dX10_curveNamed_5 : decode cX10_curveNamed 5 = .ok (.aload_n 0, 1) := by decide +kernel
theorem dX10_curveNamed_6 : decode cX10_curveNamed 6 = .ok (.iconst 0, 1) := by decide +kernel
theorem dX10_curveNamed_7 : decode cX10_curveNamed 7 = .ok (.putfield 27, 3) := by decide +kernel
theorem dX10_curveNamed_10 : decode cX10_curveNamed 10 = .ok (.iload_n 1, 1) := by decide +kernel
theorem dX10_curveNamed_11 : decode cX10_curveNamed 11 = .ok (.iconst 1, 1) := by decide +kernel
theorem dX10_curveNamed_12 : decode cX10_curveNamed 12 = .ok (.if_icmp .lt 9, 3) := by decide +kernel
theorem dX10_curveNamed_21 : decode cX10_curveNamed 21 = .ok (.iconst (-1), 1) := by decide +kernel
theorem dX10_curveNamed_22 : decode cX10_curveNamed 22 = .ok (.ireturn, 1) := by decide +kernel
set_option maxRecDepth 100000 in
set_option maxHeartbeats 4000000 in
theorem c_curveNamed_0 (l : Launch) (D : va_G) (ct : Nat → ClassId) (x : Nat) (w : Nat) (sp : Nat) (sv : Nat) (bu : Nat) (sz : Nat) : Met l yX10_curveNamed (ws_ yX10_curveNamed cX10_curveNamed 2 (some .int)) ({ frames := 0, cells := 0, slots := 0, locals := 0 } : Room) (va_Pc [.ref x] (cmP D ct sz [(x, .inr (10, [.ref w, .ref sp, .ref sv, .ref bu, .int 0, .int 0]))])) (va_Qi (fun (r : Int32) (_ : Unit) => r = (-1)) (cmB D [(x, .inr (10, [.ref w, .ref sp, .ref sv, .ref bu, .int 0, .int 0]))] sz (fun _ : Unit => [(x, .inr (10, [.ref w, .ref sp, .ref sv, .ref bu, .int 0, .int 0]))])) (va_A [(x, .inr (10, [.ref w, .ref sp, .ref sv, .ref bu, .int 0, .int 0]))] sz)) 0 0 (va_A [(x, .inr (10, [.ref w, .ref sp, .ref sv, .ref bu, .int 0, .int 0]))] sz) := by
  refine Met.ofW (cc := cX10_curveNamed) (maxL := 2) (ret := (some .int)) (by decide) rfl ?_
  intro p e s m args below meth c s₁ B hml hv
  obtain ⟨rfl, hsz, hP, hK, hD0, hX⟩ := hv
  have hx := B.exec
  have hb := B.bytes
  have hr := B.returns
  have hts := ws_all (atoms_spec (ws := ws_ yX10_curveNamed cX10_curveNamed 2 (some .int)) B.pre)
  have hown : s.vm.findClass RX10 = some m.cls := findClass_of_methodNamed B.named
  have hlocks := B.notSynchronized
  subst hsz
  have hD := hD0.self (sz := s.heap.size)
  generalize hAe : va_A [(x, .inr (10, [.ref w, .ref sp, .ref sv, .ref bu, .int 0, .int 0]))] s.heap.size = A at hD hX ⊢
  have hA : ∀ q : Nat, s.heap.size ≤ q → A q := fun q h => by rw [← hAe]; exact Or.inr h
  have hS : va_S A s.heap s.heap [] := va_S.rf
  have hl := lv_entry ([.ref x]) (n := 2) (Nat.le_of_ble_eq_true rfl)
  rw [lg_entry_eq]
  generalize (lg_sl ([.ref x]) ++ List.replicate (2 - (lg_sl ([.ref x])).length) Slot.unset).toArray = ls at hl ⊢
  have hl : lv_has ls 2 [(0, .ref x)] := hl
  refine lv_aload_n hx hb dX10_curveNamed_0 rfl (lv_at hl 0 rfl) ?_
  refine va_get (v := .int 0) (D := D) (ci := 10) (C := RX10) (T := TX10) (N := 6) hx hb hts in_X10 hown hK hP 0 rfl rfl 4 (by decide) (hts _ kl_RX10_27) (fun _ h9 => h9) rfl dX10_curveNamed_1 ?_
  refine lv_istore_n (lv' := [(1, .int 0), (0, .ref x)]) hx hb dX10_curveNamed_4 rfl hl (by decide) rfl (fun ls hl => ?_)
  refine lv_aload_n hx hb dX10_curveNamed_5 rfl (lv_at hl 1 rfl) ?_
  refine lv_iconst (v := 0) hx hb dX10_curveNamed_6 (by decide) ?_
  refine va_put (v := .int 0) (ty := .int) (D := D) (ci := 10) (C := RX10) (T := TX10) (N := 6) hx hb hts in_X10 tyX10 tyX10_ok nmX10 hown hK hP hD hS 0 rfl rfl 4 (by decide) (hts _ kl_RX10_27) (fun _ h9 => h9) rfl (by decide +kernel) rfl rfl (Nat.le_of_ble_eq_true rfl) dX10_curveNamed_7 (fun H locs hP hD hS => ?_)
  have hP : va_P D vwCl [(x, .inr (10, [.ref w, .ref sp, .ref sv, .ref bu, .int 0, .int 0]))] H := hP
  have hD : va_D A [(x, .inr (10, [.ref w, .ref sp, .ref sv, .ref bu, .int 0, .int 0]))] := hD
  refine lv_iload_n hx hb dX10_curveNamed_10 rfl (lv_at hl 0 rfl) ?_
  refine lv_iconst (v := 1) hx hb dX10_curveNamed_11 (by decide) ?_
  refine lv_icmp_lt (tgt := 21) hx hb dX10_curveNamed_12 (by decide) (fun _ => ?_) (fun hc => absurd (by decide) hc)
  refine lv_iconst (v := (-1)) hx hb dX10_curveNamed_21 (by decide) ?_
  have hP9 := hP.sub (ws' := [(x, .inr (10, [.ref w, .ref sp, .ref sv, .ref bu, .int 0, .int 0]))]) [0] rfl
  have hD9 := hD.sub (ws' := [(x, .inr (10, [.ref w, .ref sp, .ref sv, .ref bu, .int 0, .int 0]))]) [0] (by decide) rfl
  exact W.iret (v := (-1)) hx hb hr (fun t ht hW => ⟨⟨(-1), (), rfl, rfl, by rw [ht]; exact hP9, by rw [hAe]; exact hD9⟩, hS.F ht⟩) hS.2.2 dX10_curveNamed_22
theorem dX10_recordCount_0 : decode cX10_recordCount 0 = .ok (.aload_n 0, 1) := by decide +kernel
theorem dX10_recordCount_1 : decode cX10_recordCount 1 = .ok (.getfield 10, 3) := by decide +kernel
theorem dX10_recordCount_4 : decode cX10_recordCount 4 = .ok (.getfield 302, 3) := by decide +kernel
theorem dX10_recordCount_7 : decode cX10_recordCount 7 = .ok (.getfield 306, 3) := by decide +kernel
theorem dX10_recordCount_10 : decode cX10_recordCount 10 = .ok (.ireturn, 1) := by decide +kernel
set_option maxRecDepth 100000 in
set_option maxHeartbeats 4000000 in
theorem c_recordCount_0 (l : Launch) (D : va_G) (ct : Nat → ClassId) (x : Nat) (w : Nat) (sp : Nat) (sv : Nat) (bu : Nat) (w_se : Nat) (w_cu : Nat) (w_pr : Nat) (w_ch : Nat) (w_re : Nat) (w_lo : Nat) (w_ra : Nat) (sz : Nat) : Met l yX10_recordCount (ws_ yX10_recordCount cX10_recordCount 1 (some .int)) ({ frames := 0, cells := 0, slots := 0, locals := 0 } : Room) (va_Pc [.ref x] (cmP D ct sz [(x, .inr (10, [.ref w, .ref sp, .ref sv, .ref bu, .int 0, .int 0])), (w, .inr (9, [.int 0, .ref w_se, .ref w_cu, .ref w_pr, .int 0, .ref w_ch, .ref w_re, .ref w_lo])), (w_re, .inr (8, [.int 30, .int 5, .ref w_ra, .int 0, .int 0]))])) (va_Qi (fun (r : Int32) (_ : Unit) => r = 0) (cmB D [(x, .inr (10, [.ref w, .ref sp, .ref sv, .ref bu, .int 0, .int 0])), (w, .inr (9, [.int 0, .ref w_se, .ref w_cu, .ref w_pr, .int 0, .ref w_ch, .ref w_re, .ref w_lo])), (w_re, .inr (8, [.int 30, .int 5, .ref w_ra, .int 0, .int 0]))] sz (fun _ : Unit => [(x, .inr (10, [.ref w, .ref sp, .ref sv, .ref bu, .int 0, .int 0])), (w, .inr (9, [.int 0, .ref w_se, .ref w_cu, .ref w_pr, .int 0, .ref w_ch, .ref w_re, .ref w_lo])), (w_re, .inr (8, [.int 30, .int 5, .ref w_ra, .int 0, .int 0]))])) (va_A [(x, .inr (10, [.ref w, .ref sp, .ref sv, .ref bu, .int 0, .int 0])), (w, .inr (9, [.int 0, .ref w_se, .ref w_cu, .ref w_pr, .int 0, .ref w_ch, .ref w_re, .ref w_lo])), (w_re, .inr (8, [.int 30, .int 5, .ref w_ra, .int 0, .int 0]))] sz)) 0 0 (va_A [(x, .inr (10, [.ref w, .ref sp, .ref sv, .ref bu, .int 0, .int 0])), (w, .inr (9, [.int 0, .ref w_se, .ref w_cu, .ref w_pr, .int 0, .ref w_ch, .ref w_re, .ref w_lo])), (w_re, .inr (8, [.int 30, .int 5, .ref w_ra, .int 0, .int 0]))] sz) := by
  refine Met.ofW (cc := cX10_recordCount) (maxL := 1) (ret := (some .int)) (by decide) rfl ?_
  intro p e s m args below meth c s₁ B hml hv
  obtain ⟨rfl, hsz, hP, hK, hD0, hX⟩ := hv
  have hx := B.exec
  have hb := B.bytes
  have hr := B.returns
  have hts := ws_all (atoms_spec (ws := ws_ yX10_recordCount cX10_recordCount 1 (some .int)) B.pre)
  have hown : s.vm.findClass RX10 = some m.cls := findClass_of_methodNamed B.named
  have hlocks := B.notSynchronized
  subst hsz
  have hD := hD0.self (sz := s.heap.size)
  generalize hAe : va_A [(x, .inr (10, [.ref w, .ref sp, .ref sv, .ref bu, .int 0, .int 0])), (w, .inr (9, [.int 0, .ref w_se, .ref w_cu, .ref w_pr, .int 0, .ref w_ch, .ref w_re, .ref w_lo])), (w_re, .inr (8, [.int 30, .int 5, .ref w_ra, .int 0, .int 0]))] s.heap.size = A at hD hX ⊢
  have hA : ∀ q : Nat, s.heap.size ≤ q → A q := fun q h => by rw [← hAe]; exact Or.inr h
  have hS : va_S A s.heap s.heap [] := va_S.rf
  have hl := lv_entry ([.ref x]) (n := 1) (Nat.le_of_ble_eq_true rfl)
  rw [lg_entry_eq]
  generalize (lg_sl ([.ref x]) ++ List.replicate (1 - (lg_sl ([.ref x])).length) Slot.unset).toArray = ls at hl ⊢
  have hl : lv_has ls 1 [(0, .ref x)] := hl
  refine lv_aload_n hx hb dX10_recordCount_0 rfl (lv_at hl 0 rfl) ?_
  refine va_get (v := .ref w) (D := D) (ci := 10) (C := RX10) (T := TX10) (N := 6) hx hb hts in_X10 hown hK hP 0 rfl rfl 0 (by decide) (hts _ kl_RX10_10) (fun _ h9 => h9) rfl dX10_recordCount_1 ?_
  refine va_getN (v := .ref w_re) (D := D) (ci := 9) (C := RX9) (T := TX9) (N := 8) hx hb hts in_X9 hown hK hP 1 rfl rfl 6 (by decide) (hts _ kl_RX10_302) (fun _ h9 => h9) rfl dX10_recordCount_4 ?_
  refine va_getN (v := .int 0) (D := D) (ci := 8) (C := RX8) (T := TX8) (N := 5) hx hb hts in_X8 hown hK hP 2 rfl rfl 4 (by decide) (hts _ kl_RX10_306) (fun _ h9 => h9) rfl dX10_recordCount_7 ?_
  have hP9 := hP.sub (ws' := [(x, .inr (10, [.ref w, .ref sp, .ref sv, .ref bu, .int 0, .int 0])), (w, .inr (9, [.int 0, .ref w_se, .ref w_cu, .ref w_pr, .int 0, .ref w_ch, .ref w_re, .ref w_lo])), (w_re, .inr (8, [.int 30, .int 5, .ref w_ra, .int 0, .int 0]))]) [0, 1, 2] rfl
  have hD9 := hD.sub (ws' := [(x, .inr (10, [.ref w, .ref sp, .ref sv, .ref bu, .int 0, .int 0])), (w, .inr (9, [.int 0, .ref w_se, .ref w_cu, .ref w_pr, .int 0, .ref w_ch, .ref w_re, .ref w_lo])), (w_re, .inr (8, [.int 30, .int 5, .ref w_ra, .int 0, .int 0]))]) [0, 1, 2] (by decide) rfl
  exact W.iret (v := 0) hx hb hr (fun t ht hW => ⟨⟨0, (), rfl, rfl, by rw [ht]; exact hP9, by rw [hAe]; exact hD9⟩, hS.F ht⟩) hS.2.2 dX10_recordCount_10
theorem dX10_logSize_0 : decode cX10_logSize 0 = .ok (.aload_n 0, 1) := by decide +kernel
theorem dX10_logSize_1 : decode cX10_logSize 1 = .ok (.getfield 10, 3) := by decide +kernel
theorem dX10_logSize_4 : decode cX10_logSize 4 = .ok (.getfield 318, 3) := by decide +kernel
theorem dX10_logSize_7 : decode cX10_logSize 7 = .ok (.getfield 306, 3) := by decide +kernel
theorem dX10_logSize_10 : decode cX10_logSize 10 = .ok (.ireturn, 1) := by decide +kernel
set_option maxRecDepth 100000 in
set_option maxHeartbeats 4000000 in
theorem c_logSize_0 (l : Launch) (D : va_G) (ct : Nat → ClassId) (x : Nat) (w : Nat) (sp : Nat) (sv : Nat) (bu : Nat) (w_se : Nat) (w_cu : Nat) (w_pr : Nat) (w_ch : Nat) (w_re : Nat) (w_lo : Nat) (w_la : Nat) (sz : Nat) : Met l yX10_logSize (ws_ yX10_logSize cX10_logSize 1 (some .int)) ({ frames := 0, cells := 0, slots := 0, locals := 0 } : Room) (va_Pc [.ref x] (cmP D ct sz [(x, .inr (10, [.ref w, .ref sp, .ref sv, .ref bu, .int 0, .int 0])), (w, .inr (9, [.int 0, .ref w_se, .ref w_cu, .ref w_pr, .int 0, .ref w_ch, .ref w_re, .ref w_lo])), (w_lo, .inr (8, [.int 60, .int 4, .ref w_la, .int 0, .int 0]))])) (va_Qi (fun (r : Int32) (_ : Unit) => r = 0) (cmB D [(x, .inr (10, [.ref w, .ref sp, .ref sv, .ref bu, .int 0, .int 0])), (w, .inr (9, [.int 0, .ref w_se, .ref w_cu, .ref w_pr, .int 0, .ref w_ch, .ref w_re, .ref w_lo])), (w_lo, .inr (8, [.int 60, .int 4, .ref w_la, .int 0, .int 0]))] sz (fun _ : Unit => [(x, .inr (10, [.ref w, .ref sp, .ref sv, .ref bu, .int 0, .int 0])), (w, .inr (9, [.int 0, .ref w_se, .ref w_cu, .ref w_pr, .int 0, .ref w_ch, .ref w_re, .ref w_lo])), (w_lo, .inr (8, [.int 60, .int 4, .ref w_la, .int 0, .int 0]))])) (va_A [(x, .inr (10, [.ref w, .ref sp, .ref sv, .ref bu, .int 0, .int 0])), (w, .inr (9, [.int 0, .ref w_se, .ref w_cu, .ref w_pr, .int 0, .ref w_ch, .ref w_re, .ref w_lo])), (w_lo, .inr (8, [.int 60, .int 4, .ref w_la, .int 0, .int 0]))] sz)) 0 0 (va_A [(x, .inr (10, [.ref w, .ref sp, .ref sv, .ref bu, .int 0, .int 0])), (w, .inr (9, [.int 0, .ref w_se, .ref w_cu, .ref w_pr, .int 0, .ref w_ch, .ref w_re, .ref w_lo])), (w_lo, .inr (8, [.int 60, .int 4, .ref w_la, .int 0, .int 0]))] sz) := by
  refine Met.ofW (cc := cX10_logSize) (maxL := 1) (ret := (some .int)) (by decide) rfl ?_
  intro p e s m args below meth c s₁ B hml hv
  obtain ⟨rfl, hsz, hP, hK, hD0, hX⟩ := hv
  have hx := B.exec
  have hb := B.bytes
  have hr := B.returns
  have hts := ws_all (atoms_spec (ws := ws_ yX10_logSize cX10_logSize 1 (some .int)) B.pre)
  have hown : s.vm.findClass RX10 = some m.cls := findClass_of_methodNamed B.named
  have hlocks := B.notSynchronized
  subst hsz
  have hD := hD0.self (sz := s.heap.size)
  generalize hAe : va_A [(x, .inr (10, [.ref w, .ref sp, .ref sv, .ref bu, .int 0, .int 0])), (w, .inr (9, [.int 0, .ref w_se, .ref w_cu, .ref w_pr, .int 0, .ref w_ch, .ref w_re, .ref w_lo])), (w_lo, .inr (8, [.int 60, .int 4, .ref w_la, .int 0, .int 0]))] s.heap.size = A at hD hX ⊢
  have hA : ∀ q : Nat, s.heap.size ≤ q → A q := fun q h => by rw [← hAe]; exact Or.inr h
  have hS : va_S A s.heap s.heap [] := va_S.rf
  have hl := lv_entry ([.ref x]) (n := 1) (Nat.le_of_ble_eq_true rfl)
  rw [lg_entry_eq]
  generalize (lg_sl ([.ref x]) ++ List.replicate (1 - (lg_sl ([.ref x])).length) Slot.unset).toArray = ls at hl ⊢
  have hl : lv_has ls 1 [(0, .ref x)] := hl
  refine lv_aload_n hx hb dX10_logSize_0 rfl (lv_at hl 0 rfl) ?_
  refine va_get (v := .ref w) (D := D) (ci := 10) (C := RX10) (T := TX10) (N := 6) hx hb hts in_X10 hown hK hP 0 rfl rfl 0 (by decide) (hts _ kl_RX10_10) (fun _ h9 => h9) rfl dX10_logSize_1 ?_
  refine va_getN (v := .ref w_lo) (D := D) (ci := 9) (C := RX9) (T := TX9) (N := 8) hx hb hts in_X9 hown hK hP 1 rfl rfl 7 (by decide) (hts _ kl_RX10_318) (fun _ h9 => h9) rfl dX10_logSize_4 ?_
  refine va_getN (v := .int 0) (D := D) (ci := 8) (C := RX8) (T := TX8) (N := 5) hx hb hts in_X8 hown hK hP 2 rfl rfl 4 (by decide) (hts _ kl_RX10_306) (fun _ h9 => h9) rfl dX10_logSize_7 ?_
  have hP9 := hP.sub (ws' := [(x, .inr (10, [.ref w, .ref sp, .ref sv, .ref bu, .int 0, .int 0])), (w, .inr (9, [.int 0, .ref w_se, .ref w_cu, .ref w_pr, .int 0, .ref w_ch, .ref w_re, .ref w_lo])), (w_lo, .inr (8, [.int 60, .int 4, .ref w_la, .int 0, .int 0]))]) [0, 1, 2] rfl
  have hD9 := hD.sub (ws' := [(x, .inr (10, [.ref w, .ref sp, .ref sv, .ref bu, .int 0, .int 0])), (w, .inr (9, [.int 0, .ref w_se, .ref w_cu, .ref w_pr, .int 0, .ref w_ch, .ref w_re, .ref w_lo])), (w_lo, .inr (8, [.int 60, .int 4, .ref w_la, .int 0, .int 0]))]) [0, 1, 2] (by decide) rfl
  exact W.iret (v := 0) hx hb hr (fun t ht hW => ⟨⟨0, (), rfl, rfl, by rw [ht]; exact hP9, by rw [hAe]; exact hD9⟩, hS.F ht⟩) hS.2.2 dX10_logSize_10
theorem dX10_weakest_0 : decode cX10_weakest 0 = .ok (.iconst (-1), 1) := by decide +kernel
theorem dX10_weakest_1 : decode cX10_weakest 1 = .ok (.istore_n 1, 1) := by decide +kernel
theorem dX10_weakest_2 : decode cX10_weakest 2 = .ok (.lconst 0, 1) := by decide +kernel
theorem dX10_weakest_3 : decode cX10_weakest 3 = .ok (.lstore_n 2, 1) := by decide +kernel
theorem dX10_weakest_4 : decode cX10_weakest 4 = .ok (.iconst 0, 1) := by decide +kernel
theorem dX10_weakest_5 : decode cX10_weakest 5 = .ok (.istore 4, 2) := by decide +kernel
theorem dX10_weakest_7 : decode cX10_weakest 7 = .ok (.iload 4, 2) := by decide +kernel
theorem dX10_weakest_9 : decode cX10_weakest 9 = .ok (.aload_n 0, 1) := by decide +kernel
theorem dX10_weakest_10 : decode cX10_weakest 10 = .ok (.getfield 10, 3) := by decide +kernel
theorem dX10_weakest_13 : decode cX10_weakest 13 = .ok (.getfield 64, 3) := by decide +kernel
theorem dX10_weakest_16 : decode cX10_weakest 16 = .ok (.if_icmp .ge 73, 3) := by decide +kernel
theorem dX10_weakest_89 : decode cX10_weakest 89 = .ok (.iload_n 1, 1) := by decide +kernel
theorem dX10_weakest_90 : decode cX10_weakest 90 = .ok (.ireturn, 1) := by decide +kernel
set_option maxRecDepth 100000 in
set_option maxHeartbeats 4000000 in
theorem c_weakest_0 (l : Launch) (D : va_G) (ct : Nat → ClassId) (x : Nat) (w : Nat) (sp : Nat) (sv : Nat) (bu : Nat) (w_se : Nat) (w_cu : Nat) (w_pr : Nat) (w_ch : Nat) (w_re : Nat) (w_lo : Nat) (sz : Nat) : Met l yX10_weakest (ws_ yX10_weakest cX10_weakest 8 (some .int)) ({ frames := 0, cells := 0, slots := 0, locals := 0 } : Room) (va_Pc [.ref x] (cmP D ct sz [(x, .inr (10, [.ref w, .ref sp, .ref sv, .ref bu, .int 0, .int 0])), (w, .inr (9, [.int 0, .ref w_se, .ref w_cu, .ref w_pr, .int 0, .ref w_ch, .ref w_re, .ref w_lo]))])) (va_Qi (fun (r : Int32) (_ : Unit) => r = (-1)) (cmB D [(x, .inr (10, [.ref w, .ref sp, .ref sv, .ref bu, .int 0, .int 0])), (w, .inr (9, [.int 0, .ref w_se, .ref w_cu, .ref w_pr, .int 0, .ref w_ch, .ref w_re, .ref w_lo]))] sz (fun _ : Unit => [(x, .inr (10, [.ref w, .ref sp, .ref sv, .ref bu, .int 0, .int 0])), (w, .inr (9, [.int 0, .ref w_se, .ref w_cu, .ref w_pr, .int 0, .ref w_ch, .ref w_re, .ref w_lo]))])) (va_A [(x, .inr (10, [.ref w, .ref sp, .ref sv, .ref bu, .int 0, .int 0])), (w, .inr (9, [.int 0, .ref w_se, .ref w_cu, .ref w_pr, .int 0, .ref w_ch, .ref w_re, .ref w_lo]))] sz)) 0 0 (va_A [(x, .inr (10, [.ref w, .ref sp, .ref sv, .ref bu, .int 0, .int 0])), (w, .inr (9, [.int 0, .ref w_se, .ref w_cu, .ref w_pr, .int 0, .ref w_ch, .ref w_re, .ref w_lo]))] sz) := by
  refine Met.ofW (cc := cX10_weakest) (maxL := 8) (ret := (some .int)) (by decide) rfl ?_
  intro p e s m args below meth c s₁ B hml hv
  obtain ⟨rfl, hsz, hP, hK, hD0, hX⟩ := hv
  have hx := B.exec
  have hb := B.bytes
  have hr := B.returns
  have hts := ws_all (atoms_spec (ws := ws_ yX10_weakest cX10_weakest 8 (some .int)) B.pre)
  have hown : s.vm.findClass RX10 = some m.cls := findClass_of_methodNamed B.named
  have hlocks := B.notSynchronized
  subst hsz
  have hD := hD0.self (sz := s.heap.size)
  generalize hAe : va_A [(x, .inr (10, [.ref w, .ref sp, .ref sv, .ref bu, .int 0, .int 0])), (w, .inr (9, [.int 0, .ref w_se, .ref w_cu, .ref w_pr, .int 0, .ref w_ch, .ref w_re, .ref w_lo]))] s.heap.size = A at hD hX ⊢
  have hA : ∀ q : Nat, s.heap.size ≤ q → A q := fun q h => by rw [← hAe]; exact Or.inr h
  have hS : va_S A s.heap s.heap [] := va_S.rf
  have hl := lv_entry ([.ref x]) (n := 8) (Nat.le_of_ble_eq_true rfl)
  rw [lg_entry_eq]
  generalize (lg_sl ([.ref x]) ++ List.replicate (8 - (lg_sl ([.ref x])).length) Slot.unset).toArray = ls at hl ⊢
  have hl : lv_has ls 8 [(0, .ref x)] := hl
  refine lv_iconst (v := (-1)) hx hb dX10_weakest_0 (by decide) ?_
  refine lv_istore_n (lv' := [(1, .int (-1)), (0, .ref x)]) hx hb dX10_weakest_1 rfl hl (by decide) rfl (fun ls hl => ?_)
  refine lv_lconst (v := 0) hx hb dX10_weakest_2 (by decide) ?_
  refine lv_lstore_n (lv' := [(2, .long 0), (1, .int (-1)), (0, .ref x)]) hx hb dX10_weakest_3 rfl hl (by decide) rfl (fun ls hl => ?_)
  refine lv_iconst (v := 0) hx hb dX10_weakest_4 (by decide) ?_
  refine lv_istore (lv' := [(4, .int 0), (2, .long 0), (1, .int (-1)), (0, .ref x)]) hx hb dX10_weakest_5 hl (by decide) rfl (fun ls hl => ?_)
  refine lv_iload hx hb dX10_weakest_7 (lv_at hl 0 rfl) ?_
  refine lv_aload_n hx hb dX10_weakest_9 rfl (lv_at hl 3 rfl) ?_
  refine va_get (v := .ref w) (D := D) (ci := 10) (C := RX10) (T := TX10) (N := 6) hx hb hts in_X10 hown hK hP 0 rfl rfl 0 (by decide) (hts _ kl_RX10_10) (fun _ h9 => h9) rfl dX10_weakest_10 ?_
  refine va_getN (v := .int 0) (D := D) (ci := 9) (C := RX9) (T := TX9) (N := 8) hx hb hts in_X9 hown hK hP 1 rfl rfl 4 (by decide) (hts _ kl_RX10_64) (fun _ h9 => h9) rfl dX10_weakest_13 ?_
  refine lv_icmp_ge (tgt := 89) hx hb dX10_weakest_16 (by decide) (fun _ => ?_) (fun hc => absurd (by decide) hc)
  refine lv_iload_n hx hb dX10_weakest_89 rfl (lv_at hl 2 rfl) ?_
  have hP9 := hP.sub (ws' := [(x, .inr (10, [.ref w, .ref sp, .ref sv, .ref bu, .int 0, .int 0])), (w, .inr (9, [.int 0, .ref w_se, .ref w_cu, .ref w_pr, .int 0, .ref w_ch, .ref w_re, .ref w_lo]))]) [0, 1] rfl
  have hD9 := hD.sub (ws' := [(x, .inr (10, [.ref w, .ref sp, .ref sv, .ref bu, .int 0, .int 0])), (w, .inr (9, [.int 0, .ref w_se, .ref w_cu, .ref w_pr, .int 0, .ref w_ch, .ref w_re, .ref w_lo]))]) [0, 1] (by decide) rfl
  exact W.iret (v := (-1)) hx hb hr (fun t ht hW => ⟨⟨(-1), (), rfl, rfl, by rw [ht]; exact hP9, by rw [hAe]; exact hD9⟩, hS.F ht⟩) hS.2.2 dX10_weakest_90
theorem dX10_hottest_0 : decode cX10_hottest 0 = .ok (.iconst (-1), 1) := by decide +kernel
theorem dX10_hottest_1 : decode cX10_hottest 1 = .ok (.istore_n 1, 1) := by decide +kernel
theorem dX10_hottest_2 : decode cX10_hottest 2 = .ok (.iconst 0, 1) := by decide +kernel
theorem dX10_hottest_3 : decode cX10_hottest 3 = .ok (.istore_n 2, 1) := by decide +kernel
theorem dX10_hottest_4 : decode cX10_hottest 4 = .ok (.iconst 0, 1) := by decide +kernel
theorem dX10_hottest_5 : decode cX10_hottest 5 = .ok (.istore_n 3, 1) := by decide +kernel
theorem dX10_hottest_6 : decode cX10_hottest 6 = .ok (.iload_n 3, 1) := by decide +kernel
theorem dX10_hottest_7 : decode cX10_hottest 7 = .ok (.aload_n 0, 1) := by decide +kernel
theorem dX10_hottest_8 : decode cX10_hottest 8 = .ok (.getfield 10, 3) := by decide +kernel
theorem dX10_hottest_11 : decode cX10_hottest 11 = .ok (.getfield 64, 3) := by decide +kernel
theorem dX10_hottest_14 : decode cX10_hottest 14 = .ok (.if_icmp .ge 52, 3) := by decide +kernel
theorem dX10_hottest_66 : decode cX10_hottest 66 = .ok (.iload_n 1, 1) := by decide +kernel
theorem dX10_hottest_67 : decode cX10_hottest 67 = .ok (.ireturn, 1) := by decide +kernel
set_option maxRecDepth 100000 in
set_option maxHeartbeats 4000000 in
theorem c_hottest_0 (l : Launch) (D : va_G) (ct : Nat → ClassId) (x : Nat) (w : Nat) (sp : Nat) (sv : Nat) (bu : Nat) (w_se : Nat) (w_cu : Nat) (w_pr : Nat) (w_ch : Nat) (w_re : Nat) (w_lo : Nat) (sz : Nat) : Met l yX10_hottest (ws_ yX10_hottest cX10_hottest 5 (some .int)) ({ frames := 0, cells := 0, slots := 0, locals := 0 } : Room) (va_Pc [.ref x] (cmP D ct sz [(x, .inr (10, [.ref w, .ref sp, .ref sv, .ref bu, .int 0, .int 0])), (w, .inr (9, [.int 0, .ref w_se, .ref w_cu, .ref w_pr, .int 0, .ref w_ch, .ref w_re, .ref w_lo]))])) (va_Qi (fun (r : Int32) (_ : Unit) => r = (-1)) (cmB D [(x, .inr (10, [.ref w, .ref sp, .ref sv, .ref bu, .int 0, .int 0])), (w, .inr (9, [.int 0, .ref w_se, .ref w_cu, .ref w_pr, .int 0, .ref w_ch, .ref w_re, .ref w_lo]))] sz (fun _ : Unit => [(x, .inr (10, [.ref w, .ref sp, .ref sv, .ref bu, .int 0, .int 0])), (w, .inr (9, [.int 0, .ref w_se, .ref w_cu, .ref w_pr, .int 0, .ref w_ch, .ref w_re, .ref w_lo]))])) (va_A [(x, .inr (10, [.ref w, .ref sp, .ref sv, .ref bu, .int 0, .int 0])), (w, .inr (9, [.int 0, .ref w_se, .ref w_cu, .ref w_pr, .int 0, .ref w_ch, .ref w_re, .ref w_lo]))] sz)) 0 0 (va_A [(x, .inr (10, [.ref w, .ref sp, .ref sv, .ref bu, .int 0, .int 0])), (w, .inr (9, [.int 0, .ref w_se, .ref w_cu, .ref w_pr, .int 0, .ref w_ch, .ref w_re, .ref w_lo]))] sz) := by
  refine Met.ofW (cc := cX10_hottest) (maxL := 5) (ret := (some .int)) (by decide) rfl ?_
  intro p e s m args below meth c s₁ B hml hv
  obtain ⟨rfl, hsz, hP, hK, hD0, hX⟩ := hv
  have hx := B.exec
  have hb := B.bytes
  have hr := B.returns
  have hts := ws_all (atoms_spec (ws := ws_ yX10_hottest cX10_hottest 5 (some .int)) B.pre)
  have hown : s.vm.findClass RX10 = some m.cls := findClass_of_methodNamed B.named
  have hlocks := B.notSynchronized
  subst hsz
  have hD := hD0.self (sz := s.heap.size)
  generalize hAe : va_A [(x, .inr (10, [.ref w, .ref sp, .ref sv, .ref bu, .int 0, .int 0])), (w, .inr (9, [.int 0, .ref w_se, .ref w_cu, .ref w_pr, .int 0, .ref w_ch, .ref w_re, .ref w_lo]))] s.heap.size = A at hD hX ⊢
  have hA : ∀ q : Nat, s.heap.size ≤ q → A q := fun q h => by rw [← hAe]; exact Or.inr h
  have hS : va_S A s.heap s.heap [] := va_S.rf
  have hl := lv_entry ([.ref x]) (n := 5) (Nat.le_of_ble_eq_true rfl)
  rw [lg_entry_eq]
  generalize (lg_sl ([.ref x]) ++ List.replicate (5 - (lg_sl ([.ref x])).length) Slot.unset).toArray = ls at hl ⊢
  have hl : lv_has ls 5 [(0, .ref x)] := hl
  refine lv_iconst (v := (-1)) hx hb dX10_hottest_0 (by decide) ?_
  refine lv_istore_n (lv' := [(1, .int (-1)), (0, .ref x)]) hx hb dX10_hottest_1 rfl hl (by decide) rfl (fun ls hl => ?_)
  refine lv_iconst (v := 0) hx hb dX10_hottest_2 (by decide) ?_
  refine lv_istore_n (lv' := [(2, .int 0), (1, .int (-1)), (0, .ref x)]) hx hb dX10_hottest_3 rfl hl (by decide) rfl (fun ls hl => ?_)
  refine lv_iconst (v := 0) hx hb dX10_hottest_4 (by decide) ?_
  refine lv_istore_n (lv' := [(3, .int 0), (2, .int 0), (1, .int (-1)), (0, .ref x)]) hx hb dX10_hottest_5 rfl hl (by decide) rfl (fun ls hl => ?_)
  refine lv_iload_n hx hb dX10_hottest_6 rfl (lv_at hl 0 rfl) ?_
  refine lv_aload_n hx hb dX10_hottest_7 rfl (lv_at hl 3 rfl) ?_
  refine va_get (v := .ref w) (D := D) (ci := 10) (C := RX10) (T := TX10) (N := 6) hx hb hts in_X10 hown hK hP 0 rfl rfl 0 (by decide) (hts _ kl_RX10_10) (fun _ h9 => h9) rfl dX10_hottest_8 ?_
  refine va_getN (v := .int 0) (D := D) (ci := 9) (C := RX9) (T := TX9) (N := 8) hx hb hts in_X9 hown hK hP 1 rfl rfl 4 (by decide) (hts _ kl_RX10_64) (fun _ h9 => h9) rfl dX10_hottest_11 ?_
  refine lv_icmp_ge (tgt := 66) hx hb dX10_hottest_14 (by decide) (fun _ => ?_) (fun hc => absurd (by decide) hc)
  refine lv_iload_n hx hb dX10_hottest_66 rfl (lv_at hl 2 rfl) ?_
  have hP9 := hP.sub (ws' := [(x, .inr (10, [.ref w, .ref sp, .ref sv, .ref bu, .int 0, .int 0])), (w, .inr (9, [.int 0, .ref w_se, .ref w_cu, .ref w_pr, .int 0, .ref w_ch, .ref w_re, .ref w_lo]))]) [0, 1] rfl
  have hD9 := hD.sub (ws' := [(x, .inr (10, [.ref w, .ref sp, .ref sv, .ref bu, .int 0, .int 0])), (w, .inr (9, [.int 0, .ref w_se, .ref w_cu, .ref w_pr, .int 0, .ref w_ch, .ref w_re, .ref w_lo]))]) [0, 1] (by decide) rfl
  exact W.iret (v := (-1)) hx hb hr (fun t ht hW => ⟨⟨(-1), (), rfl, rfl, by rw [ht]; exact hP9, by rw [hAe]; exact hD9⟩, hS.F ht⟩) hS.2.2 dX10_hottest_67
theorem dX9_channelsIn_0 : decode cX9_channelsIn 0 = .ok (.iconst 0, 1) := by decide +kernel
theorem dX9_channelsIn_1 : decode cX9_channelsIn 1 = .ok (.istore_n 2, 1) := by decide +kernel
theorem dX9_channelsIn_2 : decode cX9_channelsIn 2 = .ok (.iconst 0, 1) := by decide +kernel
theorem dX9_channelsIn_3 : decode cX9_channelsIn 3 = .ok (.istore_n 3, 1) := by decide +kernel
theorem dX9_channelsIn_4 : decode cX9_channelsIn 4 = .ok (.iload_n 3, 1) := by decide +kernel
theorem dX9_channelsIn_5 : decode cX9_channelsIn 5 = .ok (.aload_n 0, 1) := by decide +kernel
theorem dX9_channelsIn_6 : decode cX9_channelsIn 6 = .ok (.getfield 64, 3) := by decide +kernel
theorem dX9_channelsIn_9 : decode cX9_channelsIn 9 = .ok (.if_icmp .ge 36, 3) := by decide +kernel
theorem dX9_channelsIn_45 : decode cX9_channelsIn 45 = .ok (.iload_n 2, 1) := by decide +kernel
theorem dX9_channelsIn_46 : decode cX9_channelsIn 46 = .ok (.ireturn, 1) := by decide +kernel
set_option maxRecDepth 100000 in
set_option maxHeartbeats 4000000 in
theorem c_channelsIn_0 (l : Launch) (D : va_G) (ct : Nat → ClassId) (w : Nat) (w_se : Nat) (w_cu : Nat) (w_pr : Nat) (w_ch : Nat) (w_re : Nat) (w_lo : Nat) (k : Int32) (sz : Nat) : Met l yX9_channelsIn (ws_ yX9_channelsIn cX9_channelsIn 5 (some .int)) ({ frames := 0, cells := 0, slots := 0, locals := 0 } : Room) (va_Pc [.ref w, .int k] (cmP D ct sz [(w, .inr (9, [.int 0, .ref w_se, .ref w_cu, .ref w_pr, .int 0, .ref w_ch, .ref w_re, .ref w_lo]))])) (va_Qi (fun (r : Int32) (_ : Unit) => r = 0) (cmB D [(w, .inr (9, [.int 0, .ref w_se, .ref w_cu, .ref w_pr, .int 0, .ref w_ch, .ref w_re, .ref w_lo]))] sz (fun _ : Unit => [(w, .inr (9, [.int 0, .ref w_se, .ref w_cu, .ref w_pr, .int 0, .ref w_ch, .ref w_re, .ref w_lo]))])) (va_A [(w, .inr (9, [.int 0, .ref w_se, .ref w_cu, .ref w_pr, .int 0, .ref w_ch, .ref w_re, .ref w_lo]))] sz)) 0 0 (va_A [(w, .inr (9, [.int 0, .ref w_se, .ref w_cu, .ref w_pr, .int 0, .ref w_ch, .ref w_re, .ref w_lo]))] sz) := by
  refine Met.ofW (cc := cX9_channelsIn) (maxL := 5) (ret := (some .int)) (by decide) rfl ?_
  intro p e s m args below meth c s₁ B hml hv
  obtain ⟨rfl, hsz, hP, hK, hD0, hX⟩ := hv
  have hx := B.exec
  have hb := B.bytes
  have hr := B.returns
  have hts := ws_all (atoms_spec (ws := ws_ yX9_channelsIn cX9_channelsIn 5 (some .int)) B.pre)
  have hown : s.vm.findClass RX9 = some m.cls := findClass_of_methodNamed B.named
  have hlocks := B.notSynchronized
  subst hsz
  have hD := hD0.self (sz := s.heap.size)
  generalize hAe : va_A [(w, .inr (9, [.int 0, .ref w_se, .ref w_cu, .ref w_pr, .int 0, .ref w_ch, .ref w_re, .ref w_lo]))] s.heap.size = A at hD hX ⊢
  have hA : ∀ q : Nat, s.heap.size ≤ q → A q := fun q h => by rw [← hAe]; exact Or.inr h
  have hS : va_S A s.heap s.heap [] := va_S.rf
  have hl := lv_entry ([.ref w, .int k]) (n := 5) (Nat.le_of_ble_eq_true rfl)
  rw [lg_entry_eq]
  generalize (lg_sl ([.ref w, .int k]) ++ List.replicate (5 - (lg_sl ([.ref w, .int k])).length) Slot.unset).toArray = ls at hl ⊢
  have hl : lv_has ls 5 [(0, .ref w), (1, .int k)] := hl
  refine lv_iconst (v := 0) hx hb dX9_channelsIn_0 (by decide) ?_
  refine lv_istore_n (lv' := [(2, .int 0), (0, .ref w), (1, .int k)]) hx hb dX9_channelsIn_1 rfl hl (by decide) rfl (fun ls hl => ?_)
  refine lv_iconst (v := 0) hx hb dX9_channelsIn_2 (by decide) ?_
  refine lv_istore_n (lv' := [(3, .int 0), (2, .int 0), (0, .ref w), (1, .int k)]) hx hb dX9_channelsIn_3 rfl hl (by decide) rfl (fun ls hl => ?_)
  refine lv_iload_n hx hb dX9_channelsIn_4 rfl (lv_at hl 0 rfl) ?_
  refine lv_aload_n hx hb dX9_channelsIn_5 rfl (lv_at hl 2 rfl) ?_
  refine va_get (v := .int 0) (D := D) (ci := 9) (C := RX9) (T := TX9) (N := 8) hx hb hts in_X9 hown hK hP 0 rfl rfl 4 (by decide) (hts _ kl_RX9_64) (fun _ h9 => h9) rfl dX9_channelsIn_6 ?_
  refine lv_icmp_ge (tgt := 45) hx hb dX9_channelsIn_9 (by decide) (fun _ => ?_) (fun hc => absurd (by decide) hc)
  refine lv_iload_n hx hb dX9_channelsIn_45 rfl (lv_at hl 1 rfl) ?_
  have hP9 := hP.sub (ws' := [(w, .inr (9, [.int 0, .ref w_se, .ref w_cu, .ref w_pr, .int 0, .ref w_ch, .ref w_re, .ref w_lo]))]) [0] rfl
  have hD9 := hD.sub (ws' := [(w, .inr (9, [.int 0, .ref w_se, .ref w_cu, .ref w_pr, .int 0, .ref w_ch, .ref w_re, .ref w_lo]))]) [0] (by decide) rfl
  exact W.iret (v := 0) hx hb hr (fun t ht hW => ⟨⟨0, (), rfl, rfl, by rw [ht]; exact hP9, by rw [hAe]; exact hD9⟩, hS.F ht⟩) hS.2.2 dX9_channelsIn_46
def cm_set0 (p : Int32) : Int32 := if p = 0 then 990 else if p = 1 then 100000 else if p = 2 then 100 else if p = 3 then 5 else if p = 4 then 0 else if p = 5 then 5000 else if p = 6 then 600 else 250
theorem dX10_count_0 : decode cX10_count 0 = .ok (.iload_n 1, 1) := by decide +kernel
theorem dX10_count_1 : decode cX10_count 1 = .ok (.iconst 0, 1) := by decide +kernel
theorem dX10_count_2 : decode cX10_count 2 = .ok (.iconst 2, 1) := by decide +kernel
theorem dX10_count_3 : decode cX10_count 3 = .ok (.invokestatic 81, 3) := by decide +kernel
theorem dX10_count_6 : decode cX10_count 6 = .ok (.iload_n 1, 1) := by decide +kernel
theorem dX10_count_7 : decode cX10_count 7 = .ok (.lookupswitch 44 #[(0, 25), (1, 33)], 25) := by decide +kernel
theorem dX10_count_32 : decode cX10_count 32 = .ok (.aload_n 0, 1) := by decide +kernel
theorem dX10_count_33 : decode cX10_count 33 = .ok (.getfield 10, 3) := by decide +kernel
theorem dX10_count_36 : decode cX10_count 36 = .ok (.getfield 64, 3) := by decide +kernel
theorem dX10_count_39 : decode cX10_count 39 = .ok (.ireturn, 1) := by decide +kernel
theorem dX10_count_40 : decode cX10_count 40 = .ok (.aload_n 0, 1) := by decide +kernel
theorem dX10_count_41 : decode cX10_count 41 = .ok (.getfield 10, 3) := by decide +kernel
theorem dX10_count_44 : decode cX10_count 44 = .ok (.getfield 85, 3) := by decide +kernel
theorem dX10_count_47 : decode cX10_count 47 = .ok (.getfield 89, 3) := by decide +kernel
theorem dX10_count_50 : decode cX10_count 50 = .ok (.ireturn, 1) := by decide +kernel
theorem dX10_count_51 : decode cX10_count 51 = .ok (.aload_n 0, 1) := by decide +kernel
theorem dX10_count_52 : decode cX10_count 52 = .ok (.getfield 10, 3) := by decide +kernel
theorem dX10_count_55 : decode cX10_count 55 = .ok (.getfield 67, 3) := by decide +kernel
theorem dX10_count_58 : decode cX10_count 58 = .ok (.getfield 94, 3) := by decide +kernel
theorem dX10_count_61 : decode cX10_count 61 = .ok (.ireturn, 1) := by decide +kernel
set_option maxRecDepth 100000 in
set_option maxHeartbeats 4000000 in
theorem c_count_0 (l : Launch) (hfl : l.stackTraces = false) (D : va_G) (ct : Nat → ClassId) (x : Nat) (w : Nat) (sp : Nat) (sv : Nat) (bu : Nat) (w_se : Nat) (w_cu : Nat) (w_pr : Nat) (w_ch : Nat) (w_re : Nat) (w_lo : Nat) (w_c1 : Nat) (w_c2 : Nat) (w_c3 : Nat) (w_p1 : Nat) (w_p2 : Nat) (w_p3 : Nat) (w_p4 : Nat) (p1 : Int32) (sz : Nat) : vx_Met l yX10_count (ws_ yX10_count cX10_count 2 (some .int)) ({ frames := 7, cells := 1, slots := 6, locals := 112 } : Room) (va_Pc [.ref x, .int p1] (cmP D ct sz [(x, .inr (10, [.ref w, .ref sp, .ref sv, .ref bu, .int 0, .int 0])), (w, .inr (9, [.int 0, .ref w_se, .ref w_cu, .ref w_pr, .int 0, .ref w_ch, .ref w_re, .ref w_lo])), (w_cu, .inr (2, [.int 0, .ref w_c1, .ref w_c2, .ref w_c3])), (w_pr, .inr (5, [.int 0, .ref w_p1, .ref w_p2, .ref w_p3, .ref w_p4]))])) (va_Qi (fun (r : Int32) (_ : Unit) => r = 0 ∧ 0 ≤ p1 ∧ p1 ≤ 2) (cmB D [(x, .inr (10, [.ref w, .ref sp, .ref sv, .ref bu, .int 0, .int 0])), (w, .inr (9, [.int 0, .ref w_se, .ref w_cu, .ref w_pr, .int 0, .ref w_ch, .ref w_re, .ref w_lo])), (w_cu, .inr (2, [.int 0, .ref w_c1, .ref w_c2, .ref w_c3])), (w_pr, .inr (5, [.int 0, .ref w_p1, .ref w_p2, .ref w_p3, .ref w_p4]))] sz (fun _ : Unit => [(x, .inr (10, [.ref w, .ref sp, .ref sv, .ref bu, .int 0, .int 0])), (w, .inr (9, [.int 0, .ref w_se, .ref w_cu, .ref w_pr, .int 0, .ref w_ch, .ref w_re, .ref w_lo])), (w_cu, .inr (2, [.int 0, .ref w_c1, .ref w_c2, .ref w_c3])), (w_pr, .inr (5, [.int 0, .ref w_p1, .ref w_p2, .ref w_p3, .ref w_p4]))])) (va_A [(x, .inr (10, [.ref w, .ref sp, .ref sv, .ref bu, .int 0, .int 0])), (w, .inr (9, [.int 0, .ref w_se, .ref w_cu, .ref w_pr, .int 0, .ref w_ch, .ref w_re, .ref w_lo])), (w_cu, .inr (2, [.int 0, .ref w_c1, .ref w_c2, .ref w_c3])), (w_pr, .inr (5, [.int 0, .ref w_p1, .ref w_p2, .ref w_p3, .ref w_p4]))] sz)) (vx_X (fun _ : Unit => p1 < 0 ∨ 2 < p1) (cmBX D [(x, .inr (10, [.ref w, .ref sp, .ref sv, .ref bu, .int 0, .int 0])), (w, .inr (9, [.int 0, .ref w_se, .ref w_cu, .ref w_pr, .int 0, .ref w_ch, .ref w_re, .ref w_lo])), (w_cu, .inr (2, [.int 0, .ref w_c1, .ref w_c2, .ref w_c3])), (w_pr, .inr (5, [.int 0, .ref w_p1, .ref w_p2, .ref w_p3, .ref w_p4]))] sz "java/lang/IllegalArgumentException" (fun _ : Unit => [(x, .inr (10, [.ref w, .ref sp, .ref sv, .ref bu, .int 0, .int 0])), (w, .inr (9, [.int 0, .ref w_se, .ref w_cu, .ref w_pr, .int 0, .ref w_ch, .ref w_re, .ref w_lo])), (w_cu, .inr (2, [.int 0, .ref w_c1, .ref w_c2, .ref w_c3])), (w_pr, .inr (5, [.int 0, .ref w_p1, .ref w_p2, .ref w_p3, .ref w_p4]))])) (va_A [(x, .inr (10, [.ref w, .ref sp, .ref sv, .ref bu, .int 0, .int 0])), (w, .inr (9, [.int 0, .ref w_se, .ref w_cu, .ref w_pr, .int 0, .ref w_ch, .ref w_re, .ref w_lo])), (w_cu, .inr (2, [.int 0, .ref w_c1, .ref w_c2, .ref w_c3])), (w_pr, .inr (5, [.int 0, .ref w_p1, .ref w_p2, .ref w_p3, .ref w_p4]))] sz)) 1 6 (va_A [(x, .inr (10, [.ref w, .ref sp, .ref sv, .ref bu, .int 0, .int 0])), (w, .inr (9, [.int 0, .ref w_se, .ref w_cu, .ref w_pr, .int 0, .ref w_ch, .ref w_re, .ref w_lo])), (w_cu, .inr (2, [.int 0, .ref w_c1, .ref w_c2, .ref w_c3])), (w_pr, .inr (5, [.int 0, .ref w_p1, .ref w_p2, .ref w_p3, .ref w_p4]))] sz) := by
  refine vx_ofW (cc := cX10_count) (maxL := 2) (ret := (some .int)) (by decide) rfl ?_
  intro p e s m args below meth c s₁ B hml hex hv
  obtain ⟨rfl, hsz, hP, hK, hD0, hX⟩ := hv
  have hx := B.exec
  have hb := B.bytes
  have hr := B.returns
  have hts := ws_all (atoms_spec (ws := ws_ yX10_count cX10_count 2 (some .int)) B.pre)
  have hown : s.vm.findClass RX10 = some m.cls := findClass_of_methodNamed B.named
  have hlocks := B.notSynchronized
  subst hsz
  have hD := hD0.self (sz := s.heap.size)
  generalize hAe : va_A [(x, .inr (10, [.ref w, .ref sp, .ref sv, .ref bu, .int 0, .int 0])), (w, .inr (9, [.int 0, .ref w_se, .ref w_cu, .ref w_pr, .int 0, .ref w_ch, .ref w_re, .ref w_lo])), (w_cu, .inr (2, [.int 0, .ref w_c1, .ref w_c2, .ref w_c3])), (w_pr, .inr (5, [.int 0, .ref w_p1, .ref w_p2, .ref w_p3, .ref w_p4]))] s.heap.size = A at hD hX ⊢
  have hA : ∀ q : Nat, s.heap.size ≤ q → A q := fun q h => by rw [← hAe]; exact Or.inr h
  have hS : va_S A s.heap s.heap [] := va_S.rf
  have hl := lv_entry ([.ref x, .int p1]) (n := 2) (Nat.le_of_ble_eq_true rfl)
  rw [lg_entry_eq]
  generalize (lg_sl ([.ref x, .int p1]) ++ List.replicate (2 - (lg_sl ([.ref x, .int p1])).length) Slot.unset).toArray = ls at hl ⊢
  have hl : lv_has ls 2 [(0, .ref x), (1, .int p1)] := hl
  refine lv_iload_n hx hb dX10_count_0 rfl (lv_at hl 1 rfl) ?_
  refine lv_iconst (v := 0) hx hb dX10_count_1 (by decide) ?_
  refine lv_iconst (v := 2) hx hb dX10_count_2 (by decide) ?_
  refine cm_xv (wr := [(x, .inr (10, [.ref w, .ref sp, .ref sv, .ref bu, .int 0, .int 0])), (w, .inr (9, [.int 0, .ref w_se, .ref w_cu, .ref w_pr, .int 0, .ref w_ch, .ref w_re, .ref w_lo])), (w_cu, .inr (2, [.int 0, .ref w_c1, .ref w_c2, .ref w_c3])), (w_pr, .inr (5, [.int 0, .ref w_p1, .ref w_p2, .ref w_p3, .ref w_p4]))]) (vx_runS (As := [.int p1, .int 0, .int 2]) (rest := []) ⟨hx, hb, hml, hown, hts⟩ (c_needRange l hfl D ct p1 0 2 _) (cm_S 3 hts kc_X10_needRange ki_RX10 kl_RX10_81 ks_X10_needRange kd_X10_needRange ⟨Nat.le_of_ble_eq_true rfl, Nat.le_of_ble_eq_true rfl⟩) (cm_preS hP hK hD hS hA hX [] rfl rfl rfl) rfl rfl hl.1 rfl (lv_room (Nat.le_of_ble_eq_true rfl)) dX10_count_3 ⟨Nat.le_of_ble_eq_true rfl, Nat.le_of_ble_eq_true rfl⟩) hP hD hS hA [] [0, 1, 2, 3] rfl rfl rfl (by decide) (fun E ce q9 u H locs hu hE hP hD hS hce hcv hcl => ?_) (fun u H locs hw_2 hP hD hS => ?_)
  · subst hE
    have hu : p1 < 0 ∨ 2 < p1 := hu
    have hP : va_P D vwCl [(x, .inr (10, [.ref w, .ref sp, .ref sv, .ref bu, .int 0, .int 0])), (w, .inr (9, [.int 0, .ref w_se, .ref w_cu, .ref w_pr, .int 0, .ref w_ch, .ref w_re, .ref w_lo])), (w_cu, .inr (2, [.int 0, .ref w_c1, .ref w_c2, .ref w_c3])), (w_pr, .inr (5, [.int 0, .ref w_p1, .ref w_p2, .ref w_p3, .ref w_p4]))] H := hP
    have hD : va_D A [(x, .inr (10, [.ref w, .ref sp, .ref sv, .ref bu, .int 0, .int 0])), (w, .inr (9, [.int 0, .ref w_se, .ref w_cu, .ref w_pr, .int 0, .ref w_ch, .ref w_re, .ref w_lo])), (w_cu, .inr (2, [.int 0, .ref w_c1, .ref w_c2, .ref w_c3])), (w_pr, .inr (5, [.int 0, .ref w_p1, .ref w_p2, .ref w_p3, .ref w_p4]))] := hD
    have hP9 := hP.sub (ws' := [(x, .inr (10, [.ref w, .ref sp, .ref sv, .ref bu, .int 0, .int 0])), (w, .inr (9, [.int 0, .ref w_se, .ref w_cu, .ref w_pr, .int 0, .ref w_ch, .ref w_re, .ref w_lo])), (w_cu, .inr (2, [.int 0, .ref w_c1, .ref w_c2, .ref w_c3])), (w_pr, .inr (5, [.int 0, .ref w_p1, .ref w_p2, .ref w_p3, .ref w_p4]))]) [0, 1, 2, 3] rfl
    have hD9 := hD.sub (ws' := [(x, .inr (10, [.ref w, .ref sp, .ref sv, .ref bu, .int 0, .int 0])), (w, .inr (9, [.int 0, .ref w_se, .ref w_cu, .ref w_pr, .int 0, .ref w_ch, .ref w_re, .ref w_lo])), (w_cu, .inr (2, [.int 0, .ref w_c1, .ref w_c2, .ref w_c3])), (w_pr, .inr (5, [.int 0, .ref w_p1, .ref w_p2, .ref w_p3, .ref w_p4]))]) [0, 1, 2, 3] (by decide) rfl
    exact vx_out (fun x hx => (hex x hx).elim) hlocks hce hcv hcl (fun t ht hW => ⟨(), hu, ⟨rfl, by rw [ht]; exact hP9, by rw [hAe]; exact hD9⟩, hS.F ht⟩) hS.2.2 (Nat.le_of_ble_eq_true rfl) (Nat.le_of_ble_eq_true rfl)
  · have hw_2 : 0 ≤ p1 ∧ p1 ≤ 2 := hw_2
    have hP : va_P D vwCl [(x, .inr (10, [.ref w, .ref sp, .ref sv, .ref bu, .int 0, .int 0])), (w, .inr (9, [.int 0, .ref w_se, .ref w_cu, .ref w_pr, .int 0, .ref w_ch, .ref w_re, .ref w_lo])), (w_cu, .inr (2, [.int 0, .ref w_c1, .ref w_c2, .ref w_c3])), (w_pr, .inr (5, [.int 0, .ref w_p1, .ref w_p2, .ref w_p3, .ref w_p4]))] H := hP
    have hD : va_D A [(x, .inr (10, [.ref w, .ref sp, .ref sv, .ref bu, .int 0, .int 0])), (w, .inr (9, [.int 0, .ref w_se, .ref w_cu, .ref w_pr, .int 0, .ref w_ch, .ref w_re, .ref w_lo])), (w_cu, .inr (2, [.int 0, .ref w_c1, .ref w_c2, .ref w_c3])), (w_pr, .inr (5, [.int 0, .ref w_p1, .ref w_p2, .ref w_p3, .ref w_p4]))] := hD
    refine W.widen (k := 1) (n := 6) (Nat.le_of_ble_eq_true rfl) (Nat.le_of_ble_eq_true rfl) ?_
    refine lv_iload_n hx hb dX10_count_6 rfl (lv_at hl 1 rfl) ?_
    rcases cm_upto2 hw_2 with rfl | rfl | rfl
    · refine lv_lookup (off := 25) (tgt := 32) hx hb dX10_count_7 (by decide) (by decide) (by decide) ?_
      refine lv_aload_n hx hb dX10_count_32 rfl (lv_at hl 0 rfl) ?_
      refine va_get (v := .ref w) (D := D) (ci := 10) (C := RX10) (T := TX10) (N := 6) hx hb hts in_X10 hown hK hP 0 rfl rfl 0 (by decide) (hts _ kl_RX10_10) (fun _ h9 => h9) rfl dX10_count_33 ?_
      refine va_getN (v := .int 0) (D := D) (ci := 9) (C := RX9) (T := TX9) (N := 8) hx hb hts in_X9 hown hK hP 1 rfl rfl 4 (by decide) (hts _ kl_RX10_64) (fun _ h9 => h9) rfl dX10_count_36 ?_
      have hP9 := hP.sub (ws' := [(x, .inr (10, [.ref w, .ref sp, .ref sv, .ref bu, .int 0, .int 0])), (w, .inr (9, [.int 0, .ref w_se, .ref w_cu, .ref w_pr, .int 0, .ref w_ch, .ref w_re, .ref w_lo])), (w_cu, .inr (2, [.int 0, .ref w_c1, .ref w_c2, .ref w_c3])), (w_pr, .inr (5, [.int 0, .ref w_p1, .ref w_p2, .ref w_p3, .ref w_p4]))]) [0, 1, 2, 3] rfl
      have hD9 := hD.sub (ws' := [(x, .inr (10, [.ref w, .ref sp, .ref sv, .ref bu, .int 0, .int 0])), (w, .inr (9, [.int 0, .ref w_se, .ref w_cu, .ref w_pr, .int 0, .ref w_ch, .ref w_re, .ref w_lo])), (w_cu, .inr (2, [.int 0, .ref w_c1, .ref w_c2, .ref w_c3])), (w_pr, .inr (5, [.int 0, .ref w_p1, .ref w_p2, .ref w_p3, .ref w_p4]))]) [0, 1, 2, 3] (by decide) rfl
      refine vx_ret ?_
      exact W.iret (v := 0) hx hb hr (fun t ht hW => ⟨⟨0, (), rfl, ⟨rfl, hw_2⟩, by rw [ht]; exact hP9, by rw [hAe]; exact hD9⟩, hS.F ht⟩) hS.2.2 dX10_count_39
    · refine lv_lookup (off := 33) (tgt := 40) hx hb dX10_count_7 (by decide) (by decide) (by decide) ?_
      refine lv_aload_n hx hb dX10_count_40 rfl (lv_at hl 0 rfl) ?_
      refine va_get (v := .ref w) (D := D) (ci := 10) (C := RX10) (T := TX10) (N := 6) hx hb hts in_X10 hown hK hP 0 rfl rfl 0 (by decide) (hts _ kl_RX10_10) (fun _ h9 => h9) rfl dX10_count_41 ?_
      refine va_getN (v := .ref w_pr) (D := D) (ci := 9) (C := RX9) (T := TX9) (N := 8) hx hb hts in_X9 hown hK hP 1 rfl rfl 3 (by decide) (hts _ kl_RX10_85) (fun _ h9 => h9) rfl dX10_count_44 ?_
      refine va_getN (v := .int 0) (D := D) (ci := 5) (C := RX5) (T := TX5) (N := 5) hx hb hts in_X5 hown hK hP 3 rfl rfl 0 (by decide) (hts _ kl_RX10_89) (fun _ h9 => h9) rfl dX10_count_47 ?_
      have hP9 := hP.sub (ws' := [(x, .inr (10, [.ref w, .ref sp, .ref sv, .ref bu, .int 0, .int 0])), (w, .inr (9, [.int 0, .ref w_se, .ref w_cu, .ref w_pr, .int 0, .ref w_ch, .ref w_re, .ref w_lo])), (w_cu, .inr (2, [.int 0, .ref w_c1, .ref w_c2, .ref w_c3])), (w_pr, .inr (5, [.int 0, .ref w_p1, .ref w_p2, .ref w_p3, .ref w_p4]))]) [0, 1, 2, 3] rfl
      have hD9 := hD.sub (ws' := [(x, .inr (10, [.ref w, .ref sp, .ref sv, .ref bu, .int 0, .int 0])), (w, .inr (9, [.int 0, .ref w_se, .ref w_cu, .ref w_pr, .int 0, .ref w_ch, .ref w_re, .ref w_lo])), (w_cu, .inr (2, [.int 0, .ref w_c1, .ref w_c2, .ref w_c3])), (w_pr, .inr (5, [.int 0, .ref w_p1, .ref w_p2, .ref w_p3, .ref w_p4]))]) [0, 1, 2, 3] (by decide) rfl
      refine vx_ret ?_
      exact W.iret (v := 0) hx hb hr (fun t ht hW => ⟨⟨0, (), rfl, ⟨rfl, hw_2⟩, by rw [ht]; exact hP9, by rw [hAe]; exact hD9⟩, hS.F ht⟩) hS.2.2 dX10_count_50
    · refine lv_lookup (off := 44) (tgt := 51) hx hb dX10_count_7 (by decide) (by decide) (by decide) ?_
      refine lv_aload_n hx hb dX10_count_51 rfl (lv_at hl 0 rfl) ?_
      refine va_get (v := .ref w) (D := D) (ci := 10) (C := RX10) (T := TX10) (N := 6) hx hb hts in_X10 hown hK hP 0 rfl rfl 0 (by decide) (hts _ kl_RX10_10) (fun _ h9 => h9) rfl dX10_count_52 ?_
      refine va_getN (v := .ref w_cu) (D := D) (ci := 9) (C := RX9) (T := TX9) (N := 8) hx hb hts in_X9 hown hK hP 1 rfl rfl 2 (by decide) (hts _ kl_RX10_67) (fun _ h9 => h9) rfl dX10_count_55 ?_
      refine va_getN (v := .int 0) (D := D) (ci := 2) (C := RX2) (T := TX2) (N := 4) hx hb hts in_X2 hown hK hP 2 rfl rfl 0 (by decide) (hts _ kl_RX10_94) (fun _ h9 => h9) rfl dX10_count_58 ?_
      have hP9 := hP.sub (ws' := [(x, .inr (10, [.ref w, .ref sp, .ref sv, .ref bu, .int 0, .int 0])), (w, .inr (9, [.int 0, .ref w_se, .ref w_cu, .ref w_pr, .int 0, .ref w_ch, .ref w_re, .ref w_lo])), (w_cu, .inr (2, [.int 0, .ref w_c1, .ref w_c2, .ref w_c3])), (w_pr, .inr (5, [.int 0, .ref w_p1, .ref w_p2, .ref w_p3, .ref w_p4]))]) [0, 1, 2, 3] rfl
      have hD9 := hD.sub (ws' := [(x, .inr (10, [.ref w, .ref sp, .ref sv, .ref bu, .int 0, .int 0])), (w, .inr (9, [.int 0, .ref w_se, .ref w_cu, .ref w_pr, .int 0, .ref w_ch, .ref w_re, .ref w_lo])), (w_cu, .inr (2, [.int 0, .ref w_c1, .ref w_c2, .ref w_c3])), (w_pr, .inr (5, [.int 0, .ref w_p1, .ref w_p2, .ref w_p3, .ref w_p4]))]) [0, 1, 2, 3] (by decide) rfl
      refine vx_ret ?_
      exact W.iret (v := 0) hx hb hr (fun t ht hW => ⟨⟨0, (), rfl, ⟨rfl, hw_2⟩, by rw [ht]; exact hP9, by rw [hAe]; exact hD9⟩, hS.F ht⟩) hS.2.2 dX10_count_61
theorem dX10_setting_0 : decode cX10_setting 0 = .ok (.iload_n 1, 1) := by decide +kernel
theorem dX10_setting_1 : decode cX10_setting 1 = .ok (.iconst 0, 1) := by decide +kernel
theorem dX10_setting_2 : decode cX10_setting 2 = .ok (.bipush 7, 2) := by decide +kernel
theorem dX10_setting_4 : decode cX10_setting 4 = .ok (.invokestatic 81, 3) := by decide +kernel
theorem dX10_setting_7 : decode cX10_setting 7 = .ok (.aload_n 0, 1) := by decide +kernel
theorem dX10_setting_8 : decode cX10_setting 8 = .ok (.getfield 10, 3) := by decide +kernel
theorem dX10_setting_11 : decode cX10_setting 11 = .ok (.getfield 95, 3) := by decide +kernel
theorem dX10_setting_14 : decode cX10_setting 14 = .ok (.astore_n 2, 1) := by decide +kernel
theorem dX10_setting_15 : decode cX10_setting 15 = .ok (.iload_n 1, 1) := by decide +kernel
theorem dX10_setting_16 : decode cX10_setting 16 = .ok (.tableswitch 79 0 6 #[44, 49, 54, 59, 64, 69, 74], 44) := by decide +kernel
theorem dX10_setting_60 : decode cX10_setting 60 = .ok (.aload_n 2, 1) := by decide +kernel
theorem dX10_setting_61 : decode cX10_setting 61 = .ok (.getfield 99, 3) := by decide +kernel
theorem dX10_setting_64 : decode cX10_setting 64 = .ok (.ireturn, 1) := by decide +kernel
theorem dX10_setting_65 : decode cX10_setting 65 = .ok (.aload_n 2, 1) := by decide +kernel
theorem dX10_setting_66 : decode cX10_setting 66 = .ok (.getfield 104, 3) := by decide +kernel
theorem dX10_setting_69 : decode cX10_setting 69 = .ok (.ireturn, 1) := by decide +kernel
theorem dX10_setting_70 : decode cX10_setting 70 = .ok (.aload_n 2, 1) := by decide +kernel
theorem dX10_setting_71 : decode cX10_setting 71 = .ok (.getfield 107, 3) := by decide +kernel
theorem dX10_setting_74 : decode cX10_setting 74 = .ok (.ireturn, 1) := by decide +kernel
theorem dX10_setting_75 : decode cX10_setting 75 = .ok (.aload_n 2, 1) := by decide +kernel
theorem dX10_setting_76 : decode cX10_setting 76 = .ok (.getfield 110, 3) := by decide +kernel
theorem dX10_setting_79 : decode cX10_setting 79 = .ok (.ireturn, 1) := by decide +kernel
theorem dX10_setting_80 : decode cX10_setting 80 = .ok (.aload_n 2, 1) := by decide +kernel
theorem dX10_setting_81 : decode cX10_setting 81 = .ok (.getfield 113, 3) := by decide +kernel
theorem dX10_setting_84 : decode cX10_setting 84 = .ok (.ireturn, 1) := by decide +kernel
theorem dX10_setting_85 : decode cX10_setting 85 = .ok (.aload_n 2, 1) := by decide +kernel
theorem dX10_setting_86 : decode cX10_setting 86 = .ok (.getfield 116, 3) := by decide +kernel
theorem dX10_setting_89 : decode cX10_setting 89 = .ok (.ireturn, 1) := by decide +kernel
theorem dX10_setting_90 : decode cX10_setting 90 = .ok (.aload_n 2, 1) := by decide +kernel
theorem dX10_setting_91 : decode cX10_setting 91 = .ok (.getfield 119, 3) := by decide +kernel
theorem dX10_setting_94 : decode cX10_setting 94 = .ok (.ireturn, 1) := by decide +kernel
theorem dX10_setting_95 : decode cX10_setting 95 = .ok (.aload_n 2, 1) := by decide +kernel
theorem dX10_setting_96 : decode cX10_setting 96 = .ok (.getfield 122, 3) := by decide +kernel
theorem dX10_setting_99 : decode cX10_setting 99 = .ok (.ireturn, 1) := by decide +kernel
set_option maxRecDepth 100000 in
set_option maxHeartbeats 4000000 in
theorem c_setting_0 (l : Launch) (hfl : l.stackTraces = false) (D : va_G) (ct : Nat → ClassId) (x : Nat) (w : Nat) (sp : Nat) (sv : Nat) (bu : Nat) (w_se : Nat) (w_cu : Nat) (w_pr : Nat) (w_ch : Nat) (w_re : Nat) (w_lo : Nat) (p1 : Int32) (sz : Nat) : vx_Met l yX10_setting (ws_ yX10_setting cX10_setting 3 (some .int)) ({ frames := 7, cells := 1, slots := 6, locals := 112 } : Room) (va_Pc [.ref x, .int p1] (cmP D ct sz [(x, .inr (10, [.ref w, .ref sp, .ref sv, .ref bu, .int 0, .int 0])), (w, .inr (9, [.int 0, .ref w_se, .ref w_cu, .ref w_pr, .int 0, .ref w_ch, .ref w_re, .ref w_lo])), (w_se, .inr (7, [.int 990, .int 100000, .int 100, .int 5, .int 0, .int 5000, .int 600, .int 250, .int 0, .int 5000, .int 1000, .int 0]))])) (va_Qi (fun (r : Int32) (_ : Unit) => r = (cm_set0 p1) ∧ 0 ≤ p1 ∧ p1 ≤ 7) (cmB D [(x, .inr (10, [.ref w, .ref sp, .ref sv, .ref bu, .int 0, .int 0])), (w, .inr (9, [.int 0, .ref w_se, .ref w_cu, .ref w_pr, .int 0, .ref w_ch, .ref w_re, .ref w_lo])), (w_se, .inr (7, [.int 990, .int 100000, .int 100, .int 5, .int 0, .int 5000, .int 600, .int 250, .int 0, .int 5000, .int 1000, .int 0]))] sz (fun _ : Unit => [(x, .inr (10, [.ref w, .ref sp, .ref sv, .ref bu, .int 0, .int 0])), (w, .inr (9, [.int 0, .ref w_se, .ref w_cu, .ref w_pr, .int 0, .ref w_ch, .ref w_re, .ref w_lo])), (w_se, .inr (7, [.int 990, .int 100000, .int 100, .int 5, .int 0, .int 5000, .int 600, .int 250, .int 0, .int 5000, .int 1000, .int 0]))])) (va_A [(x, .inr (10, [.ref w, .ref sp, .ref sv, .ref bu, .int 0, .int 0])), (w, .inr (9, [.int 0, .ref w_se, .ref w_cu, .ref w_pr, .int 0, .ref w_ch, .ref w_re, .ref w_lo])), (w_se, .inr (7, [.int 990, .int 100000, .int 100, .int 5, .int 0, .int 5000, .int 600, .int 250, .int 0, .int 5000, .int 1000, .int 0]))] sz)) (vx_X (fun _ : Unit => p1 < 0 ∨ 7 < p1) (cmBX D [(x, .inr (10, [.ref w, .ref sp, .ref sv, .ref bu, .int 0, .int 0])), (w, .inr (9, [.int 0, .ref w_se, .ref w_cu, .ref w_pr, .int 0, .ref w_ch, .ref w_re, .ref w_lo])), (w_se, .inr (7, [.int 990, .int 100000, .int 100, .int 5, .int 0, .int 5000, .int 600, .int 250, .int 0, .int 5000, .int 1000, .int 0]))] sz "java/lang/IllegalArgumentException" (fun _ : Unit => [(x, .inr (10, [.ref w, .ref sp, .ref sv, .ref bu, .int 0, .int 0])), (w, .inr (9, [.int 0, .ref w_se, .ref w_cu, .ref w_pr, .int 0, .ref w_ch, .ref w_re, .ref w_lo])), (w_se, .inr (7, [.int 990, .int 100000, .int 100, .int 5, .int 0, .int 5000, .int 600, .int 250, .int 0, .int 5000, .int 1000, .int 0]))])) (va_A [(x, .inr (10, [.ref w, .ref sp, .ref sv, .ref bu, .int 0, .int 0])), (w, .inr (9, [.int 0, .ref w_se, .ref w_cu, .ref w_pr, .int 0, .ref w_ch, .ref w_re, .ref w_lo])), (w_se, .inr (7, [.int 990, .int 100000, .int 100, .int 5, .int 0, .int 5000, .int 600, .int 250, .int 0, .int 5000, .int 1000, .int 0]))] sz)) 1 6 (va_A [(x, .inr (10, [.ref w, .ref sp, .ref sv, .ref bu, .int 0, .int 0])), (w, .inr (9, [.int 0, .ref w_se, .ref w_cu, .ref w_pr, .int 0, .ref w_ch, .ref w_re, .ref w_lo])), (w_se, .inr (7, [.int 990, .int 100000, .int 100, .int 5, .int 0, .int 5000, .int 600, .int 250, .int 0, .int 5000, .int 1000, .int 0]))] sz) := by
  refine vx_ofW (cc := cX10_setting) (maxL := 3) (ret := (some .int)) (by decide) rfl ?_
  intro p e s m args below meth c s₁ B hml hex hv
  obtain ⟨rfl, hsz, hP, hK, hD0, hX⟩ := hv
  have hx := B.exec
  have hb := B.bytes
  have hr := B.returns
  have hts := ws_all (atoms_spec (ws := ws_ yX10_setting cX10_setting 3 (some .int)) B.pre)
  have hown : s.vm.findClass RX10 = some m.cls := findClass_of_methodNamed B.named
  have hlocks := B.notSynchronized
  subst hsz
  have hD := hD0.self (sz := s.heap.size)
  generalize hAe : va_A [(x, .inr (10, [.ref w, .ref sp, .ref sv, .ref bu, .int 0, .int 0])), (w, .inr (9, [.int 0, .ref w_se, .ref w_cu, .ref w_pr, .int 0, .ref w_ch, .ref w_re, .ref w_lo])), (w_se, .inr (7, [.int 990, .int 100000, .int 100, .int 5, .int 0, .int 5000, .int 600, .int 250, .int 0, .int 5000, .int 1000, .int 0]))] s.heap.size = A at hD hX ⊢
  have hA : ∀ q : Nat, s.heap.size ≤ q → A q := fun q h => by rw [← hAe]; exact Or.inr h
  have hS : va_S A s.heap s.heap [] := va_S.rf
  have hl := lv_entry ([.ref x, .int p1]) (n := 3) (Nat.le_of_ble_eq_true rfl)
  rw [lg_entry_eq]
  generalize (lg_sl ([.ref x, .int p1]) ++ List.replicate (3 - (lg_sl ([.ref x, .int p1])).length) Slot.unset).toArray = ls at hl ⊢
  have hl : lv_has ls 3 [(0, .ref x), (1, .int p1)] := hl
  refine lv_iload_n hx hb dX10_setting_0 rfl (lv_at hl 1 rfl) ?_
  refine lv_iconst (v := 0) hx hb dX10_setting_1 (by decide) ?_
  refine lv_bipush (v := 7) hx hb dX10_setting_2 (by decide) ?_
  refine cm_xv (wr := [(x, .inr (10, [.ref w, .ref sp, .ref sv, .ref bu, .int 0, .int 0])), (w, .inr (9, [.int 0, .ref w_se, .ref w_cu, .ref w_pr, .int 0, .ref w_ch, .ref w_re, .ref w_lo])), (w_se, .inr (7, [.int 990, .int 100000, .int 100, .int 5, .int 0, .int 5000, .int 600, .int 250, .int 0, .int 5000, .int 1000, .int 0]))]) (vx_runS (As := [.int p1, .int 0, .int 7]) (rest := []) ⟨hx, hb, hml, hown, hts⟩ (c_needRange l hfl D ct p1 0 7 _) (cm_S 3 hts kc_X10_needRange ki_RX10 kl_RX10_81 ks_X10_needRange kd_X10_needRange ⟨Nat.le_of_ble_eq_true rfl, Nat.le_of_ble_eq_true rfl⟩) (cm_preS hP hK hD hS hA hX [] rfl rfl rfl) rfl rfl hl.1 rfl (lv_room (Nat.le_of_ble_eq_true rfl)) dX10_setting_4 ⟨Nat.le_of_ble_eq_true rfl, Nat.le_of_ble_eq_true rfl⟩) hP hD hS hA [] [0, 1, 2] rfl rfl rfl (by decide) (fun E ce q9 u H locs hu hE hP hD hS hce hcv hcl => ?_) (fun u H locs hw_2 hP hD hS => ?_)
  · subst hE
    have hu : p1 < 0 ∨ 7 < p1 := hu
    have hP : va_P D vwCl [(x, .inr (10, [.ref w, .ref sp, .ref sv, .ref bu, .int 0, .int 0])), (w, .inr (9, [.int 0, .ref w_se, .ref w_cu, .ref w_pr, .int 0, .ref w_ch, .ref w_re, .ref w_lo])), (w_se, .inr (7, [.int 990, .int 100000, .int 100, .int 5, .int 0, .int 5000, .int 600, .int 250, .int 0, .int 5000, .int 1000, .int 0]))] H := hP
    have hD : va_D A [(x, .inr (10, [.ref w, .ref sp, .ref sv, .ref bu, .int 0, .int 0])), (w, .inr (9, [.int 0, .ref w_se, .ref w_cu, .ref w_pr, .int 0, .ref w_ch, .ref w_re, .ref w_lo])), (w_se, .inr (7, [.int 990, .int 100000, .int 100, .int 5, .int 0, .int 5000, .int 600, .int 250, .int 0, .int 5000, .int 1000, .int 0]))] := hD
    have hP9 := hP.sub (ws' := [(x, .inr (10, [.ref w, .ref sp, .ref sv, .ref bu, .int 0, .int 0])), (w, .inr (9, [.int 0, .ref w_se, .ref w_cu, .ref w_pr, .int 0, .ref w_ch, .ref w_re, .ref w_lo])), (w_se, .inr (7, [.int 990, .int 100000, .int 100, .int 5, .int 0, .int 5000, .int 600, .int 250, .int 0, .int 5000, .int 1000, .int 0]))]) [0, 1, 2] rfl
    have hD9 := hD.sub (ws' := [(x, .inr (10, [.ref w, .ref sp, .ref sv, .ref bu, .int 0, .int 0])), (w, .inr (9, [.int 0, .ref w_se, .ref w_cu, .ref w_pr, .int 0, .ref w_ch, .ref w_re, .ref w_lo])), (w_se, .inr (7, [.int 990, .int 100000, .int 100, .int 5, .int 0, .int 5000, .int 600, .int 250, .int 0, .int 5000, .int 1000, .int 0]))]) [0, 1, 2] (by decide) rfl
    exact vx_out (fun x hx => (hex x hx).elim) hlocks hce hcv hcl (fun t ht hW => ⟨(), hu, ⟨rfl, by rw [ht]; exact hP9, by rw [hAe]; exact hD9⟩, hS.F ht⟩) hS.2.2 (Nat.le_of_ble_eq_true rfl) (Nat.le_of_ble_eq_true rfl)
  · have hw_2 : 0 ≤ p1 ∧ p1 ≤ 7 := hw_2
    have hP : va_P D vwCl [(x, .inr (10, [.ref w, .ref sp, .ref sv, .ref bu, .int 0, .int 0])), (w, .inr (9, [.int 0, .ref w_se, .ref w_cu, .ref w_pr, .int 0, .ref w_ch, .ref w_re, .ref w_lo])), (w_se, .inr (7, [.int 990, .int 100000, .int 100, .int 5, .int 0, .int 5000, .int 600, .int 250, .int 0, .int 5000, .int 1000, .int 0]))] H := hP
    have hD : va_D A [(x, .inr (10, [.ref w, .ref sp, .ref sv, .ref bu, .int 0, .int 0])), (w, .inr (9, [.int 0, .ref w_se, .ref w_cu, .ref w_pr, .int 0, .ref w_ch, .ref w_re, .ref w_lo])), (w_se, .inr (7, [.int 990, .int 100000, .int 100, .int 5, .int 0, .int 5000, .int 600, .int 250, .int 0, .int 5000, .int 1000, .int 0]))] := hD
    refine W.widen (k := 1) (n := 6) (Nat.le_of_ble_eq_true rfl) (Nat.le_of_ble_eq_true rfl) ?_
    refine lv_aload_n hx hb dX10_setting_7 rfl (lv_at hl 0 rfl) ?_
    refine va_get (v := .ref w) (D := D) (ci := 10) (C := RX10) (T := TX10) (N := 6) hx hb hts in_X10 hown hK hP 0 rfl rfl 0 (by decide) (hts _ kl_RX10_10) (fun _ h9 => h9) rfl dX10_setting_8 ?_
    refine va_getN (v := .ref w_se) (D := D) (ci := 9) (C := RX9) (T := TX9) (N := 8) hx hb hts in_X9 hown hK hP 1 rfl rfl 1 (by decide) (hts _ kl_RX10_95) (fun _ h9 => h9) rfl dX10_setting_11 ?_
    refine lv_astore_n (lv' := [(2, .ref w_se), (0, .ref x), (1, .int p1)]) hx hb dX10_setting_14 rfl hl (by decide) rfl (fun ls hl => ?_)
    refine lv_iload_n hx hb dX10_setting_15 rfl (lv_at hl 2 rfl) ?_
    rcases cm_upto7 hw_2 with rfl | rfl | rfl | rfl | rfl | rfl | rfl | rfl
    · refine lv_tableIn (off := 44) (tgt := 60) hx hb dX10_setting_16 (by decide) (by decide) (by decide) (by decide) ?_
      refine lv_aload_n hx hb dX10_setting_60 rfl (lv_at hl 0 rfl) ?_
      refine va_getN (v := .int 990) (D := D) (ci := 7) (C := RX7) (T := TX7) (N := 12) hx hb hts in_X7 hown hK hP 2 rfl rfl 0 (by decide) (hts _ kl_RX10_99) (fun _ h9 => h9) rfl dX10_setting_61 ?_
      have hP9 := hP.sub (ws' := [(x, .inr (10, [.ref w, .ref sp, .ref sv, .ref bu, .int 0, .int 0])), (w, .inr (9, [.int 0, .ref w_se, .ref w_cu, .ref w_pr, .int 0, .ref w_ch, .ref w_re, .ref w_lo])), (w_se, .inr (7, [.int 990, .int 100000, .int 100, .int 5, .int 0, .int 5000, .int 600, .int 250, .int 0, .int 5000, .int 1000, .int 0]))]) [0, 1, 2] rfl
      have hD9 := hD.sub (ws' := [(x, .inr (10, [.ref w, .ref sp, .ref sv, .ref bu, .int 0, .int 0])), (w, .inr (9, [.int 0, .ref w_se, .ref w_cu, .ref w_pr, .int 0, .ref w_ch, .ref w_re, .ref w_lo])), (w_se, .inr (7, [.int 990, .int 100000, .int 100, .int 5, .int 0, .int 5000, .int 600, .int 250, .int 0, .int 5000, .int 1000, .int 0]))]) [0, 1, 2] (by decide) rfl
      refine vx_ret ?_
      exact W.iret (v := 990) hx hb hr (fun t ht hW => ⟨⟨990, (), rfl, ⟨rfl, hw_2⟩, by rw [ht]; exact hP9, by rw [hAe]; exact hD9⟩, hS.F ht⟩) hS.2.2 dX10_setting_64
    · refine lv_tableIn (off := 49) (tgt := 65) hx hb dX10_setting_16 (by decide) (by decide) (by decide) (by decide) ?_
      refine lv_aload_n hx hb dX10_setting_65 rfl (lv_at hl 0 rfl) ?_
      refine va_getN (v := .int 100000) (D := D) (ci := 7) (C := RX7) (T := TX7) (N := 12) hx hb hts in_X7 hown hK hP 2 rfl rfl 1 (by decide) (hts _ kl_RX10_104) (fun _ h9 => h9) rfl dX10_setting_66 ?_
      have hP9 := hP.sub (ws' := [(x, .inr (10, [.ref w, .ref sp, .ref sv, .ref bu, .int 0, .int 0])), (w, .inr (9, [.int 0, .ref w_se, .ref w_cu, .ref w_pr, .int 0, .ref w_ch, .ref w_re, .ref w_lo])), (w_se, .inr (7, [.int 990, .int 100000, .int 100, .int 5, .int 0, .int 5000, .int 600, .int 250, .int 0, .int 5000, .int 1000, .int 0]))]) [0, 1, 2] rfl
      have hD9 := hD.sub (ws' := [(x, .inr (10, [.ref w, .ref sp, .ref sv, .ref bu, .int 0, .int 0])), (w, .inr (9, [.int 0, .ref w_se, .ref w_cu, .ref w_pr, .int 0, .ref w_ch, .ref w_re, .ref w_lo])), (w_se, .inr (7, [.int 990, .int 100000, .int 100, .int 5, .int 0, .int 5000, .int 600, .int 250, .int 0, .int 5000, .int 1000, .int 0]))]) [0, 1, 2] (by decide) rfl
      refine vx_ret ?_
      exact W.iret (v := 100000) hx hb hr (fun t ht hW => ⟨⟨100000, (), rfl, ⟨rfl, hw_2⟩, by rw [ht]; exact hP9, by rw [hAe]; exact hD9⟩, hS.F ht⟩) hS.2.2 dX10_setting_69
    · refine lv_tableIn (off := 54) (tgt := 70) hx hb dX10_setting_16 (by decide) (by decide) (by decide) (by decide) ?_
      refine lv_aload_n hx hb dX10_setting_70 rfl (lv_at hl 0 rfl) ?_
      refine va_getN (v := .int 100) (D := D) (ci := 7) (C := RX7) (T := TX7) (N := 12) hx hb hts in_X7 hown hK hP 2 rfl rfl 2 (by decide) (hts _ kl_RX10_107) (fun _ h9 => h9) rfl dX10_setting_71 ?_
      have hP9 := hP.sub (ws' := [(x, .inr (10, [.ref w, .ref sp, .ref sv, .ref bu, .int 0, .int 0])), (w, .inr (9, [.int 0, .ref w_se, .ref w_cu, .ref w_pr, .int 0, .ref w_ch, .ref w_re, .ref w_lo])), (w_se, .inr (7, [.int 990, .int 100000, .int 100, .int 5, .int 0, .int 5000, .int 600, .int 250, .int 0, .int 5000, .int 1000, .int 0]))]) [0, 1, 2] rfl
      have hD9 := hD.sub (ws' := [(x, .inr (10, [.ref w, .ref sp, .ref sv, .ref bu, .int 0, .int 0])), (w, .inr (9, [.int 0, .ref w_se, .ref w_cu, .ref w_pr, .int 0, .ref w_ch, .ref w_re, .ref w_lo])), (w_se, .inr (7, [.int 990, .int 100000, .int 100, .int 5, .int 0, .int 5000, .int 600, .int 250, .int 0, .int 5000, .int 1000, .int 0]))]) [0, 1, 2] (by decide) rfl
      refine vx_ret ?_
      exact W.iret (v := 100) hx hb hr (fun t ht hW => ⟨⟨100, (), rfl, ⟨rfl, hw_2⟩, by rw [ht]; exact hP9, by rw [hAe]; exact hD9⟩, hS.F ht⟩) hS.2.2 dX10_setting_74
    · refine lv_tableIn (off := 59) (tgt := 75) hx hb dX10_setting_16 (by decide) (by decide) (by decide) (by decide) ?_
      refine lv_aload_n hx hb dX10_setting_75 rfl (lv_at hl 0 rfl) ?_
      refine va_getN (v := .int 5) (D := D) (ci := 7) (C := RX7) (T := TX7) (N := 12) hx hb hts in_X7 hown hK hP 2 rfl rfl 3 (by decide) (hts _ kl_RX10_110) (fun _ h9 => h9) rfl dX10_setting_76 ?_
      have hP9 := hP.sub (ws' := [(x, .inr (10, [.ref w, .ref sp, .ref sv, .ref bu, .int 0, .int 0])), (w, .inr (9, [.int 0, .ref w_se, .ref w_cu, .ref w_pr, .int 0, .ref w_ch, .ref w_re, .ref w_lo])), (w_se, .inr (7, [.int 990, .int 100000, .int 100, .int 5, .int 0, .int 5000, .int 600, .int 250, .int 0, .int 5000, .int 1000, .int 0]))]) [0, 1, 2] rfl
      have hD9 := hD.sub (ws' := [(x, .inr (10, [.ref w, .ref sp, .ref sv, .ref bu, .int 0, .int 0])), (w, .inr (9, [.int 0, .ref w_se, .ref w_cu, .ref w_pr, .int 0, .ref w_ch, .ref w_re, .ref w_lo])), (w_se, .inr (7, [.int 990, .int 100000, .int 100, .int 5, .int 0, .int 5000, .int 600, .int 250, .int 0, .int 5000, .int 1000, .int 0]))]) [0, 1, 2] (by decide) rfl
      refine vx_ret ?_
      exact W.iret (v := 5) hx hb hr (fun t ht hW => ⟨⟨5, (), rfl, ⟨rfl, hw_2⟩, by rw [ht]; exact hP9, by rw [hAe]; exact hD9⟩, hS.F ht⟩) hS.2.2 dX10_setting_79
    · refine lv_tableIn (off := 64) (tgt := 80) hx hb dX10_setting_16 (by decide) (by decide) (by decide) (by decide) ?_
      refine lv_aload_n hx hb dX10_setting_80 rfl (lv_at hl 0 rfl) ?_
      refine va_getN (v := .int 0) (D := D) (ci := 7) (C := RX7) (T := TX7) (N := 12) hx hb hts in_X7 hown hK hP 2 rfl rfl 4 (by decide) (hts _ kl_RX10_113) (fun _ h9 => h9) rfl dX10_setting_81 ?_
      have hP9 := hP.sub (ws' := [(x, .inr (10, [.ref w, .ref sp, .ref sv, .ref bu, .int 0, .int 0])), (w, .inr (9, [.int 0, .ref w_se, .ref w_cu, .ref w_pr, .int 0, .ref w_ch, .ref w_re, .ref w_lo])), (w_se, .inr (7, [.int 990, .int 100000, .int 100, .int 5, .int 0, .int 5000, .int 600, .int 250, .int 0, .int 5000, .int 1000, .int 0]))]) [0, 1, 2] rfl
      have hD9 := hD.sub (ws' := [(x, .inr (10, [.ref w, .ref sp, .ref sv, .ref bu, .int 0, .int 0])), (w, .inr (9, [.int 0, .ref w_se, .ref w_cu, .ref w_pr, .int 0, .ref w_ch, .ref w_re, .ref w_lo])), (w_se, .inr (7, [.int 990, .int 100000, .int 100, .int 5, .int 0, .int 5000, .int 600, .int 250, .int 0, .int 5000, .int 1000, .int 0]))]) [0, 1, 2] (by decide) rfl
      refine vx_ret ?_
      exact W.iret (v := 0) hx hb hr (fun t ht hW => ⟨⟨0, (), rfl, ⟨rfl, hw_2⟩, by rw [ht]; exact hP9, by rw [hAe]; exact hD9⟩, hS.F ht⟩) hS.2.2 dX10_setting_84
    · refine lv_tableIn (off := 69) (tgt := 85) hx hb dX10_setting_16 (by decide) (by decide) (by decide) (by decide) ?_
      refine lv_aload_n hx hb dX10_setting_85 rfl (lv_at hl 0 rfl) ?_
      refine va_getN (v := .int 5000) (D := D) (ci := 7) (C := RX7) (T := TX7) (N := 12) hx hb hts in_X7 hown hK hP 2 rfl rfl 5 (by decide) (hts _ kl_RX10_116) (fun _ h9 => h9) rfl dX10_setting_86 ?_
      have hP9 := hP.sub (ws' := [(x, .inr (10, [.ref w, .ref sp, .ref sv, .ref bu, .int 0, .int 0])), (w, .inr (9, [.int 0, .ref w_se, .ref w_cu, .ref w_pr, .int 0, .ref w_ch, .ref w_re, .ref w_lo])), (w_se, .inr (7, [.int 990, .int 100000, .int 100, .int 5, .int 0, .int 5000, .int 600, .int 250, .int 0, .int 5000, .int 1000, .int 0]))]) [0, 1, 2] rfl
      have hD9 := hD.sub (ws' := [(x, .inr (10, [.ref w, .ref sp, .ref sv, .ref bu, .int 0, .int 0])), (w, .inr (9, [.int 0, .ref w_se, .ref w_cu, .ref w_pr, .int 0, .ref w_ch, .ref w_re, .ref w_lo])), (w_se, .inr (7, [.int 990, .int 100000, .int 100, .int 5, .int 0, .int 5000, .int 600, .int 250, .int 0, .int 5000, .int 1000, .int 0]))]) [0, 1, 2] (by decide) rfl
      refine vx_ret ?_
      exact W.iret (v := 5000) hx hb hr (fun t ht hW => ⟨⟨5000, (), rfl, ⟨rfl, hw_2⟩, by rw [ht]; exact hP9, by rw [hAe]; exact hD9⟩, hS.F ht⟩) hS.2.2 dX10_setting_89
    · refine lv_tableIn (off := 74) (tgt := 90) hx hb dX10_setting_16 (by decide) (by decide) (by decide) (by decide) ?_
      refine lv_aload_n hx hb dX10_setting_90 rfl (lv_at hl 0 rfl) ?_
      refine va_getN (v := .int 600) (D := D) (ci := 7) (C := RX7) (T := TX7) (N := 12) hx hb hts in_X7 hown hK hP 2 rfl rfl 6 (by decide) (hts _ kl_RX10_119) (fun _ h9 => h9) rfl dX10_setting_91 ?_
      have hP9 := hP.sub (ws' := [(x, .inr (10, [.ref w, .ref sp, .ref sv, .ref bu, .int 0, .int 0])), (w, .inr (9, [.int 0, .ref w_se, .ref w_cu, .ref w_pr, .int 0, .ref w_ch, .ref w_re, .ref w_lo])), (w_se, .inr (7, [.int 990, .int 100000, .int 100, .int 5, .int 0, .int 5000, .int 600, .int 250, .int 0, .int 5000, .int 1000, .int 0]))]) [0, 1, 2] rfl
      have hD9 := hD.sub (ws' := [(x, .inr (10, [.ref w, .ref sp, .ref sv, .ref bu, .int 0, .int 0])), (w, .inr (9, [.int 0, .ref w_se, .ref w_cu, .ref w_pr, .int 0, .ref w_ch, .ref w_re, .ref w_lo])), (w_se, .inr (7, [.int 990, .int 100000, .int 100, .int 5, .int 0, .int 5000, .int 600, .int 250, .int 0, .int 5000, .int 1000, .int 0]))]) [0, 1, 2] (by decide) rfl
      refine vx_ret ?_
      exact W.iret (v := 600) hx hb hr (fun t ht hW => ⟨⟨600, (), rfl, ⟨rfl, hw_2⟩, by rw [ht]; exact hP9, by rw [hAe]; exact hD9⟩, hS.F ht⟩) hS.2.2 dX10_setting_94
    · refine lv_tableOut (tgt := 95) hx hb dX10_setting_16 (by decide) (by decide) ?_
      refine lv_aload_n hx hb dX10_setting_95 rfl (lv_at hl 0 rfl) ?_
      refine va_getN (v := .int 250) (D := D) (ci := 7) (C := RX7) (T := TX7) (N := 12) hx hb hts in_X7 hown hK hP 2 rfl rfl 7 (by decide) (hts _ kl_RX10_122) (fun _ h9 => h9) rfl dX10_setting_96 ?_
      have hP9 := hP.sub (ws' := [(x, .inr (10, [.ref w, .ref sp, .ref sv, .ref bu, .int 0, .int 0])), (w, .inr (9, [.int 0, .ref w_se, .ref w_cu, .ref w_pr, .int 0, .ref w_ch, .ref w_re, .ref w_lo])), (w_se, .inr (7, [.int 990, .int 100000, .int 100, .int 5, .int 0, .int 5000, .int 600, .int 250, .int 0, .int 5000, .int 1000, .int 0]))]) [0, 1, 2] rfl
      have hD9 := hD.sub (ws' := [(x, .inr (10, [.ref w, .ref sp, .ref sv, .ref bu, .int 0, .int 0])), (w, .inr (9, [.int 0, .ref w_se, .ref w_cu, .ref w_pr, .int 0, .ref w_ch, .ref w_re, .ref w_lo])), (w_se, .inr (7, [.int 990, .int 100000, .int 100, .int 5, .int 0, .int 5000, .int 600, .int 250, .int 0, .int 5000, .int 1000, .int 0]))]) [0, 1, 2] (by decide) rfl
      refine vx_ret ?_
      exact W.iret (v := 250) hx hb hr (fun t ht hW => ⟨⟨250, (), rfl, ⟨rfl, hw_2⟩, by rw [ht]; exact hP9, by rw [hAe]; exact hD9⟩, hS.F ht⟩) hS.2.2 dX10_setting_99
theorem dX10_setAmbient_0 : decode cX10_setAmbient 0 = .ok (.iload_n 1, 1) := by decide +kernel
theorem dX10_setAmbient_1 : decode cX10_setAmbient 1 = .ok (.iconst 0, 1) := by decide +kernel
theorem dX10_setAmbient_2 : decode cX10_setAmbient 2 = .ok (.sipush 500, 3) := by decide +kernel
theorem dX10_setAmbient_5 : decode cX10_setAmbient 5 = .ok (.invokestatic 81, 3) := by decide +kernel
theorem dX10_setAmbient_8 : decode cX10_setAmbient 8 = .ok (.aload_n 0, 1) := by decide +kernel
theorem dX10_setAmbient_9 : decode cX10_setAmbient 9 = .ok (.getfield 10, 3) := by decide +kernel
theorem dX10_setAmbient_12 : decode cX10_setAmbient 12 = .ok (.getfield 95, 3) := by decide +kernel
theorem dX10_setAmbient_15 : decode cX10_setAmbient 15 = .ok (.getfield 122, 3) := by decide +kernel
theorem dX10_setAmbient_18 : decode cX10_setAmbient 18 = .ok (.istore_n 2, 1) := by decide +kernel
theorem dX10_setAmbient_19 : decode cX10_setAmbient 19 = .ok (.aload_n 0, 1) := by decide +kernel
theorem dX10_setAmbient_20 : decode cX10_setAmbient 20 = .ok (.getfield 10, 3) := by decide +kernel
theorem dX10_setAmbient_23 : decode cX10_setAmbient 23 = .ok (.getfield 95, 3) := by decide +kernel
theorem dX10_setAmbient_26 : decode cX10_setAmbient 26 = .ok (.iload_n 1, 1) := by decide +kernel
theorem dX10_setAmbient_27 : decode cX10_setAmbient 27 = .ok (.putfield 122, 3) := by decide +kernel
theorem dX10_setAmbient_30 : decode cX10_setAmbient 30 = .ok (.iload_n 2, 1) := by decide +kernel
theorem dX10_setAmbient_31 : decode cX10_setAmbient 31 = .ok (.ireturn, 1) := by decide +kernel
set_option maxRecDepth 100000 in
set_option maxHeartbeats 4000000 in
theorem c_setAmbient_0 (l : Launch) (hfl : l.stackTraces = false) (D : va_G) (ct : Nat → ClassId) (x : Nat) (w : Nat) (sp : Nat) (sv : Nat) (bu : Nat) (w_se : Nat) (w_cu : Nat) (w_pr : Nat) (w_ch : Nat) (w_re : Nat) (w_lo : Nat) (p1 : Int32) (sz : Nat) : vx_Met l yX10_setAmbient (ws_ yX10_setAmbient cX10_setAmbient 3 (some .int)) ({ frames := 7, cells := 1, slots := 6, locals := 112 } : Room) (va_Pc [.ref x, .int p1] (cmP D ct sz [(x, .inr (10, [.ref w, .ref sp, .ref sv, .ref bu, .int 0, .int 0])), (w, .inr (9, [.int 0, .ref w_se, .ref w_cu, .ref w_pr, .int 0, .ref w_ch, .ref w_re, .ref w_lo])), (w_se, .inr (7, [.int 990, .int 100000, .int 100, .int 5, .int 0, .int 5000, .int 600, .int 250, .int 0, .int 5000, .int 1000, .int 0]))])) (va_Qi (fun (r : Int32) (_ : Unit) => r = 250 ∧ 0 ≤ p1 ∧ p1 ≤ 500) (cmB D [(x, .inr (10, [.ref w, .ref sp, .ref sv, .ref bu, .int 0, .int 0])), (w, .inr (9, [.int 0, .ref w_se, .ref w_cu, .ref w_pr, .int 0, .ref w_ch, .ref w_re, .ref w_lo])), (w_se, .inr (7, [.int 990, .int 100000, .int 100, .int 5, .int 0, .int 5000, .int 600, .int 250, .int 0, .int 5000, .int 1000, .int 0]))] sz (fun _ : Unit => [(x, .inr (10, [.ref w, .ref sp, .ref sv, .ref bu, .int 0, .int 0])), (w, .inr (9, [.int 0, .ref w_se, .ref w_cu, .ref w_pr, .int 0, .ref w_ch, .ref w_re, .ref w_lo])), (w_se, .inr (7, [.int 990, .int 100000, .int 100, .int 5, .int 0, .int 5000, .int 600, .int p1, .int 0, .int 5000, .int 1000, .int 0]))])) (va_A [(x, .inr (10, [.ref w, .ref sp, .ref sv, .ref bu, .int 0, .int 0])), (w, .inr (9, [.int 0, .ref w_se, .ref w_cu, .ref w_pr, .int 0, .ref w_ch, .ref w_re, .ref w_lo])), (w_se, .inr (7, [.int 990, .int 100000, .int 100, .int 5, .int 0, .int 5000, .int 600, .int 250, .int 0, .int 5000, .int 1000, .int 0]))] sz)) (vx_X (fun _ : Unit => p1 < 0 ∨ 500 < p1) (cmBX D [(x, .inr (10, [.ref w, .ref sp, .ref sv, .ref bu, .int 0, .int 0])), (w, .inr (9, [.int 0, .ref w_se, .ref w_cu, .ref w_pr, .int 0, .ref w_ch, .ref w_re, .ref w_lo])), (w_se, .inr (7, [.int 990, .int 100000, .int 100, .int 5, .int 0, .int 5000, .int 600, .int 250, .int 0, .int 5000, .int 1000, .int 0]))] sz "java/lang/IllegalArgumentException" (fun _ : Unit => [(x, .inr (10, [.ref w, .ref sp, .ref sv, .ref bu, .int 0, .int 0])), (w, .inr (9, [.int 0, .ref w_se, .ref w_cu, .ref w_pr, .int 0, .ref w_ch, .ref w_re, .ref w_lo])), (w_se, .inr (7, [.int 990, .int 100000, .int 100, .int 5, .int 0, .int 5000, .int 600, .int 250, .int 0, .int 5000, .int 1000, .int 0]))])) (va_A [(x, .inr (10, [.ref w, .ref sp, .ref sv, .ref bu, .int 0, .int 0])), (w, .inr (9, [.int 0, .ref w_se, .ref w_cu, .ref w_pr, .int 0, .ref w_ch, .ref w_re, .ref w_lo])), (w_se, .inr (7, [.int 990, .int 100000, .int 100, .int 5, .int 0, .int 5000, .int 600, .int 250, .int 0, .int 5000, .int 1000, .int 0]))] sz)) 1 6 (va_A [(x, .inr (10, [.ref w, .ref sp, .ref sv, .ref bu, .int 0, .int 0])), (w, .inr (9, [.int 0, .ref w_se, .ref w_cu, .ref w_pr, .int 0, .ref w_ch, .ref w_re, .ref w_lo])), (w_se, .inr (7, [.int 990, .int 100000, .int 100, .int 5, .int 0, .int 5000, .int 600, .int 250, .int 0, .int 5000, .int 1000, .int 0]))] sz) := by
  refine vx_ofW (cc := cX10_setAmbient) (maxL := 3) (ret := (some .int)) (by decide) rfl ?_
  intro p e s m args below meth c s₁ B hml hex hv
  obtain ⟨rfl, hsz, hP, hK, hD0, hX⟩ := hv
  have hx := B.exec
  have hb := B.bytes
  have hr := B.returns
  have hts := ws_all (atoms_spec (ws := ws_ yX10_setAmbient cX10_setAmbient 3 (some .int)) B.pre)
  have hown : s.vm.findClass RX10 = some m.cls := findClass_of_methodNamed B.named
  have hlocks := B.notSynchronized
  subst hsz
  have hD := hD0.self (sz := s.heap.size)
  generalize hAe : va_A [(x, .inr (10, [.ref w, .ref sp, .ref sv, .ref bu, .int 0, .int 0])), (w, .inr (9, [.int 0, .ref w_se, .ref w_cu, .ref w_pr, .int 0, .ref w_ch, .ref w_re, .ref w_lo])), (w_se, .inr (7, [.int 990, .int 100000, .int 100, .int 5, .int 0, .int 5000, .int 600, .int 250, .int 0, .int 5000, .int 1000, .int 0]))] s.heap.size = A at hD hX ⊢
  have hA : ∀ q : Nat, s.heap.size ≤ q → A q := fun q h => by rw [← hAe]; exact Or.inr h
  have hS : va_S A s.heap s.heap [] := va_S.rf
  have hl := lv_entry ([.ref x, .int p1]) (n := 3) (Nat.le_of_ble_eq_true rfl)
  rw [lg_entry_eq]
  generalize (lg_sl ([.ref x, .int p1]) ++ List.replicate (3 - (lg_sl ([.ref x, .int p1])).length) Slot.unset).toArray = ls at hl ⊢
  have hl : lv_has ls 3 [(0, .ref x), (1, .int p1)] := hl
  refine lv_iload_n hx hb dX10_setAmbient_0 rfl (lv_at hl 1 rfl) ?_
  refine lv_iconst (v := 0) hx hb dX10_setAmbient_1 (by decide) ?_
  refine lv_sipush (v := 500) hx hb dX10_setAmbient_2 (by decide) ?_
  refine cm_xv (wr := [(x, .inr (10, [.ref w, .ref sp, .ref sv, .ref bu, .int 0, .int 0])), (w, .inr (9, [.int 0, .ref w_se, .ref w_cu, .ref w_pr, .int 0, .ref w_ch, .ref w_re, .ref w_lo])), (w_se, .inr (7, [.int 990, .int 100000, .int 100, .int 5, .int 0, .int 5000, .int 600, .int 250, .int 0, .int 5000, .int 1000, .int 0]))]) (vx_runS (As := [.int p1, .int 0, .int 500]) (rest := []) ⟨hx, hb, hml, hown, hts⟩ (c_needRange l hfl D ct p1 0 500 _) (cm_S 3 hts kc_X10_needRange ki_RX10 kl_RX10_81 ks_X10_needRange kd_X10_needRange ⟨Nat.le_of_ble_eq_true rfl, Nat.le_of_ble_eq_true rfl⟩) (cm_preS hP hK hD hS hA hX [] rfl rfl rfl) rfl rfl hl.1 rfl (lv_room (Nat.le_of_ble_eq_true rfl)) dX10_setAmbient_5 ⟨Nat.le_of_ble_eq_true rfl, Nat.le_of_ble_eq_true rfl⟩) hP hD hS hA [] [0, 1, 2] rfl rfl rfl (by decide) (fun E ce q9 u H locs hu hE hP hD hS hce hcv hcl => ?_) (fun u H locs hw_2 hP hD hS => ?_)
  · subst hE
    have hu : p1 < 0 ∨ 500 < p1 := hu
    have hP : va_P D vwCl [(x, .inr (10, [.ref w, .ref sp, .ref sv, .ref bu, .int 0, .int 0])), (w, .inr (9, [.int 0, .ref w_se, .ref w_cu, .ref w_pr, .int 0, .ref w_ch, .ref w_re, .ref w_lo])), (w_se, .inr (7, [.int 990, .int 100000, .int 100, .int 5, .int 0, .int 5000, .int 600, .int 250, .int 0, .int 5000, .int 1000, .int 0]))] H := hP
    have hD : va_D A [(x, .inr (10, [.ref w, .ref sp, .ref sv, .ref bu, .int 0, .int 0])), (w, .inr (9, [.int 0, .ref w_se, .ref w_cu, .ref w_pr, .int 0, .ref w_ch, .ref w_re, .ref w_lo])), (w_se, .inr (7, [.int 990, .int 100000, .int 100, .int 5, .int 0, .int 5000, .int 600, .int 250, .int 0, .int 5000, .int 1000, .int 0]))] := hD
    have hP9 := hP.sub (ws' := [(x, .inr (10, [.ref w, .ref sp, .ref sv, .ref bu, .int 0, .int 0])), (w, .inr (9, [.int 0, .ref w_se, .ref w_cu, .ref w_pr, .int 0, .ref w_ch, .ref w_re, .ref w_lo])), (w_se, .inr (7, [.int 990, .int 100000, .int 100, .int 5, .int 0, .int 5000, .int 600, .int 250, .int 0, .int 5000, .int 1000, .int 0]))]) [0, 1, 2] rfl
    have hD9 := hD.sub (ws' := [(x, .inr (10, [.ref w, .ref sp, .ref sv, .ref bu, .int 0, .int 0])), (w, .inr (9, [.int 0, .ref w_se, .ref w_cu, .ref w_pr, .int 0, .ref w_ch, .ref w_re, .ref w_lo])), (w_se, .inr (7, [.int 990, .int 100000, .int 100, .int 5, .int 0, .int 5000, .int 600, .int 250, .int 0, .int 5000, .int 1000, .int 0]))]) [0, 1, 2] (by decide) rfl
    exact vx_out (fun x hx => (hex x hx).elim) hlocks hce hcv hcl (fun t ht hW => ⟨(), hu, ⟨rfl, by rw [ht]; exact hP9, by rw [hAe]; exact hD9⟩, hS.F ht⟩) hS.2.2 (Nat.le_of_ble_eq_true rfl) (Nat.le_of_ble_eq_true rfl)
  · have hw_2 : 0 ≤ p1 ∧ p1 ≤ 500 := hw_2
    have hP : va_P D vwCl [(x, .inr (10, [.ref w, .ref sp, .ref sv, .ref bu, .int 0, .int 0])), (w, .inr (9, [.int 0, .ref w_se, .ref w_cu, .ref w_pr, .int 0, .ref w_ch, .ref w_re, .ref w_lo])), (w_se, .inr (7, [.int 990, .int 100000, .int 100, .int 5, .int 0, .int 5000, .int 600, .int 250, .int 0, .int 5000, .int 1000, .int 0]))] H := hP
    have hD : va_D A [(x, .inr (10, [.ref w, .ref sp, .ref sv, .ref bu, .int 0, .int 0])), (w, .inr (9, [.int 0, .ref w_se, .ref w_cu, .ref w_pr, .int 0, .ref w_ch, .ref w_re, .ref w_lo])), (w_se, .inr (7, [.int 990, .int 100000, .int 100, .int 5, .int 0, .int 5000, .int 600, .int 250, .int 0, .int 5000, .int 1000, .int 0]))] := hD
    refine W.widen (k := 1) (n := 6) (Nat.le_of_ble_eq_true rfl) (Nat.le_of_ble_eq_true rfl) ?_
    refine lv_aload_n hx hb dX10_setAmbient_8 rfl (lv_at hl 0 rfl) ?_
    refine va_get (v := .ref w) (D := D) (ci := 10) (C := RX10) (T := TX10) (N := 6) hx hb hts in_X10 hown hK hP 0 rfl rfl 0 (by decide) (hts _ kl_RX10_10) (fun _ h9 => h9) rfl dX10_setAmbient_9 ?_
    refine va_getN (v := .ref w_se) (D := D) (ci := 9) (C := RX9) (T := TX9) (N := 8) hx hb hts in_X9 hown hK hP 1 rfl rfl 1 (by decide) (hts _ kl_RX10_95) (fun _ h9 => h9) rfl dX10_setAmbient_12 ?_
    refine va_getN (v := .int 250) (D := D) (ci := 7) (C := RX7) (T := TX7) (N := 12) hx hb hts in_X7 hown hK hP 2 rfl rfl 7 (by decide) (hts _ kl_RX10_122) (fun _ h9 => h9) rfl dX10_setAmbient_15 ?_
    refine lv_istore_n (lv' := [(2, .int 250), (0, .ref x), (1, .int p1)]) hx hb dX10_setAmbient_18 rfl hl (by decide) rfl (fun ls hl => ?_)
    refine lv_aload_n hx hb dX10_setAmbient_19 rfl (lv_at hl 1 rfl) ?_
    refine va_get (v := .ref w) (D := D) (ci := 10) (C := RX10) (T := TX10) (N := 6) hx hb hts in_X10 hown hK hP 0 rfl rfl 0 (by decide) (hts _ kl_RX10_10) (fun _ h9 => h9) rfl dX10_setAmbient_20 ?_
    refine va_getN (v := .ref w_se) (D := D) (ci := 9) (C := RX9) (T := TX9) (N := 8) hx hb hts in_X9 hown hK hP 1 rfl rfl 1 (by decide) (hts _ kl_RX10_95) (fun _ h9 => h9) rfl dX10_setAmbient_23 ?_
    refine lv_iload_n hx hb dX10_setAmbient_26 rfl (lv_at hl 2 rfl) ?_
    refine va_putN (v := .int p1) (ty := .int) (D := D) (ci := 7) (C := RX7) (T := TX7) (N := 12) hx hb hts in_X7 tyX7 tyX7_ok nmX7 hown hK hP hD hS 2 rfl rfl 7 (by decide) (hts _ kl_RX10_122) (fun _ h9 => h9) rfl (by decide +kernel) rfl rfl (Nat.le_of_ble_eq_true rfl) dX10_setAmbient_27 (fun H locs hP hD hS => ?_)
    have hP : va_P D vwCl [(x, .inr (10, [.ref w, .ref sp, .ref sv, .ref bu, .int 0, .int 0])), (w, .inr (9, [.int 0, .ref w_se, .ref w_cu, .ref w_pr, .int 0, .ref w_ch, .ref w_re, .ref w_lo])), (w_se, .inr (7, [.int 990, .int 100000, .int 100, .int 5, .int 0, .int 5000, .int 600, .int p1, .int 0, .int 5000, .int 1000, .int 0]))] H := hP
    have hD : va_D A [(x, .inr (10, [.ref w, .ref sp, .ref sv, .ref bu, .int 0, .int 0])), (w, .inr (9, [.int 0, .ref w_se, .ref w_cu, .ref w_pr, .int 0, .ref w_ch, .ref w_re, .ref w_lo])), (w_se, .inr (7, [.int 990, .int 100000, .int 100, .int 5, .int 0, .int 5000, .int 600, .int p1, .int 0, .int 5000, .int 1000, .int 0]))] := hD
    refine lv_iload_n hx hb dX10_setAmbient_30 rfl (lv_at hl 0 rfl) ?_
    have hP9 := hP.sub (ws' := [(x, .inr (10, [.ref w, .ref sp, .ref sv, .ref bu, .int 0, .int 0])), (w, .inr (9, [.int 0, .ref w_se, .ref w_cu, .ref w_pr, .int 0, .ref w_ch, .ref w_re, .ref w_lo])), (w_se, .inr (7, [.int 990, .int 100000, .int 100, .int 5, .int 0, .int 5000, .int 600, .int p1, .int 0, .int 5000, .int 1000, .int 0]))]) [0, 1, 2] rfl
    have hD9 := hD.sub (ws' := [(x, .inr (10, [.ref w, .ref sp, .ref sv, .ref bu, .int 0, .int 0])), (w, .inr (9, [.int 0, .ref w_se, .ref w_cu, .ref w_pr, .int 0, .ref w_ch, .ref w_re, .ref w_lo])), (w_se, .inr (7, [.int 990, .int 100000, .int 100, .int 5, .int 0, .int 5000, .int 600, .int p1, .int 0, .int 5000, .int 1000, .int 0]))]) [0, 1, 2] (by decide) rfl
    refine vx_ret ?_
    exact W.iret (v := 250) hx hb hr (fun t ht hW => ⟨⟨250, (), rfl, ⟨rfl, hw_2⟩, by rw [ht]; exact hP9, by rw [hAe]; exact hD9⟩, hS.F ht⟩) hS.2.2 dX10_setAmbient_31
theorem dX10_setDerate_0 : decode cX10_setDerate 0 = .ok (.iload_n 1, 1) := by decide +kernel
theorem dX10_setDerate_1 : decode cX10_setDerate 1 = .ok (.iconst 0, 1) := by decide +kernel
theorem dX10_setDerate_2 : decode cX10_setDerate 2 = .ok (.sipush 200, 3) := by decide +kernel
theorem dX10_setDerate_5 : decode cX10_setDerate 5 = .ok (.invokestatic 81, 3) := by decide +kernel
theorem dX10_setDerate_8 : decode cX10_setDerate 8 = .ok (.aload_n 0, 1) := by decide +kernel
theorem dX10_setDerate_9 : decode cX10_setDerate 9 = .ok (.getfield 10, 3) := by decide +kernel
theorem dX10_setDerate_12 : decode cX10_setDerate 12 = .ok (.getfield 95, 3) := by decide +kernel
theorem dX10_setDerate_15 : decode cX10_setDerate 15 = .ok (.getfield 143, 3) := by decide +kernel
theorem dX10_setDerate_18 : decode cX10_setDerate 18 = .ok (.istore_n 2, 1) := by decide +kernel
theorem dX10_setDerate_19 : decode cX10_setDerate 19 = .ok (.aload_n 0, 1) := by decide +kernel
theorem dX10_setDerate_20 : decode cX10_setDerate 20 = .ok (.getfield 10, 3) := by decide +kernel
theorem dX10_setDerate_23 : decode cX10_setDerate 23 = .ok (.getfield 95, 3) := by decide +kernel
theorem dX10_setDerate_26 : decode cX10_setDerate 26 = .ok (.iload_n 1, 1) := by decide +kernel
theorem dX10_setDerate_27 : decode cX10_setDerate 27 = .ok (.putfield 143, 3) := by decide +kernel
theorem dX10_setDerate_30 : decode cX10_setDerate 30 = .ok (.iload_n 2, 1) := by decide +kernel
theorem dX10_setDerate_31 : decode cX10_setDerate 31 = .ok (.ireturn, 1) := by decide +kernel
set_option maxRecDepth 100000 in
set_option maxHeartbeats 4000000 in
theorem c_setDerate_0 (l : Launch) (hfl : l.stackTraces = false) (D : va_G) (ct : Nat → ClassId) (x : Nat) (w : Nat) (sp : Nat) (sv : Nat) (bu : Nat) (w_se : Nat) (w_cu : Nat) (w_pr : Nat) (w_ch : Nat) (w_re : Nat) (w_lo : Nat) (p1 : Int32) (sz : Nat) : vx_Met l yX10_setDerate (ws_ yX10_setDerate cX10_setDerate 3 (some .int)) ({ frames := 7, cells := 1, slots := 6, locals := 112 } : Room) (va_Pc [.ref x, .int p1] (cmP D ct sz [(x, .inr (10, [.ref w, .ref sp, .ref sv, .ref bu, .int 0, .int 0])), (w, .inr (9, [.int 0, .ref w_se, .ref w_cu, .ref w_pr, .int 0, .ref w_ch, .ref w_re, .ref w_lo])), (w_se, .inr (7, [.int 990, .int 100000, .int 100, .int 5, .int 0, .int 5000, .int 600, .int 250, .int 0, .int 5000, .int 1000, .int 0]))])) (va_Qi (fun (r : Int32) (_ : Unit) => r = 0 ∧ 0 ≤ p1 ∧ p1 ≤ 200) (cmB D [(x, .inr (10, [.ref w, .ref sp, .ref sv, .ref bu, .int 0, .int 0])), (w, .inr (9, [.int 0, .ref w_se, .ref w_cu, .ref w_pr, .int 0, .ref w_ch, .ref w_re, .ref w_lo])), (w_se, .inr (7, [.int 990, .int 100000, .int 100, .int 5, .int 0, .int 5000, .int 600, .int 250, .int 0, .int 5000, .int 1000, .int 0]))] sz (fun _ : Unit => [(x, .inr (10, [.ref w, .ref sp, .ref sv, .ref bu, .int 0, .int 0])), (w, .inr (9, [.int 0, .ref w_se, .ref w_cu, .ref w_pr, .int 0, .ref w_ch, .ref w_re, .ref w_lo])), (w_se, .inr (7, [.int 990, .int 100000, .int 100, .int 5, .int 0, .int 5000, .int 600, .int 250, .int 0, .int 5000, .int 1000, .int p1]))])) (va_A [(x, .inr (10, [.ref w, .ref sp, .ref sv, .ref bu, .int 0, .int 0])), (w, .inr (9, [.int 0, .ref w_se, .ref w_cu, .ref w_pr, .int 0, .ref w_ch, .ref w_re, .ref w_lo])), (w_se, .inr (7, [.int 990, .int 100000, .int 100, .int 5, .int 0, .int 5000, .int 600, .int 250, .int 0, .int 5000, .int 1000, .int 0]))] sz)) (vx_X (fun _ : Unit => p1 < 0 ∨ 200 < p1) (cmBX D [(x, .inr (10, [.ref w, .ref sp, .ref sv, .ref bu, .int 0, .int 0])), (w, .inr (9, [.int 0, .ref w_se, .ref w_cu, .ref w_pr, .int 0, .ref w_ch, .ref w_re, .ref w_lo])), (w_se, .inr (7, [.int 990, .int 100000, .int 100, .int 5, .int 0, .int 5000, .int 600, .int 250, .int 0, .int 5000, .int 1000, .int 0]))] sz "java/lang/IllegalArgumentException" (fun _ : Unit => [(x, .inr (10, [.ref w, .ref sp, .ref sv, .ref bu, .int 0, .int 0])), (w, .inr (9, [.int 0, .ref w_se, .ref w_cu, .ref w_pr, .int 0, .ref w_ch, .ref w_re, .ref w_lo])), (w_se, .inr (7, [.int 990, .int 100000, .int 100, .int 5, .int 0, .int 5000, .int 600, .int 250, .int 0, .int 5000, .int 1000, .int 0]))])) (va_A [(x, .inr (10, [.ref w, .ref sp, .ref sv, .ref bu, .int 0, .int 0])), (w, .inr (9, [.int 0, .ref w_se, .ref w_cu, .ref w_pr, .int 0, .ref w_ch, .ref w_re, .ref w_lo])), (w_se, .inr (7, [.int 990, .int 100000, .int 100, .int 5, .int 0, .int 5000, .int 600, .int 250, .int 0, .int 5000, .int 1000, .int 0]))] sz)) 1 6 (va_A [(x, .inr (10, [.ref w, .ref sp, .ref sv, .ref bu, .int 0, .int 0])), (w, .inr (9, [.int 0, .ref w_se, .ref w_cu, .ref w_pr, .int 0, .ref w_ch, .ref w_re, .ref w_lo])), (w_se, .inr (7, [.int 990, .int 100000, .int 100, .int 5, .int 0, .int 5000, .int 600, .int 250, .int 0, .int 5000, .int 1000, .int 0]))] sz) := by
  refine vx_ofW (cc := cX10_setDerate) (maxL := 3) (ret := (some .int)) (by decide) rfl ?_
  intro p e s m args below meth c s₁ B hml hex hv
  obtain ⟨rfl, hsz, hP, hK, hD0, hX⟩ := hv
  have hx := B.exec
  have hb := B.bytes
  have hr := B.returns
  have hts := ws_all (atoms_spec (ws := ws_ yX10_setDerate cX10_setDerate 3 (some .int)) B.pre)
  have hown : s.vm.findClass RX10 = some m.cls := findClass_of_methodNamed B.named
  have hlocks := B.notSynchronized
  subst hsz
  have hD := hD0.self (sz := s.heap.size)
  generalize hAe : va_A [(x, .inr (10, [.ref w, .ref sp, .ref sv, .ref bu, .int 0, .int 0])), (w, .inr (9, [.int 0, .ref w_se, .ref w_cu, .ref w_pr, .int 0, .ref w_ch, .ref w_re, .ref w_lo])), (w_se, .inr (7, [.int 990, .int 100000, .int 100, .int 5, .int 0, .int 5000, .int 600, .int 250, .int 0, .int 5000, .int 1000, .int 0]))] s.heap.size = A at hD hX ⊢
  have hA : ∀ q : Nat, s.heap.size ≤ q → A q := fun q h => by rw [← hAe]; exact Or.inr h
  have hS : va_S A s.heap s.heap [] := va_S.rf
  have hl := lv_entry ([.ref x, .int p1]) (n := 3) (Nat.le_of_ble_eq_true rfl)
  rw [lg_entry_eq]
  generalize (lg_sl ([.ref x, .int p1]) ++ List.replicate (3 - (lg_sl ([.ref x, .int p1])).length) Slot.unset).toArray = ls at hl ⊢
  have hl : lv_has ls 3 [(0, .ref x), (1, .int p1)] := hl
  refine lv_iload_n hx hb dX10_setDerate_0 rfl (lv_at hl 1 rfl) ?_
  refine lv_iconst (v := 0) hx hb dX10_setDerate_1 (by decide) ?_
  refine lv_sipush (v := 200) hx hb dX10_setDerate_2 (by decide) ?_
  refine cm_xv (wr := [(x, .inr (10, [.ref w, .ref sp, .ref sv, .ref bu, .int 0, .int 0])), (w, .inr (9, [.int 0, .ref w_se, .ref w_cu, .ref w_pr, .int 0, .ref w_ch, .ref w_re, .ref w_lo])), (w_se, .inr (7, [.int 990, .int 100000, .int 100, .int 5, .int 0, .int 5000, .int 600, .int 250, .int 0, .int 5000, .int 1000, .int 0]))]) (vx_runS (As := [.int p1, .int 0, .int 200]) (rest := []) ⟨hx, hb, hml, hown, hts⟩ (c_needRange l hfl D ct p1 0 200 _) (cm_S 3 hts kc_X10_needRange ki_RX10 kl_RX10_81 ks_X10_needRange kd_X10_needRange ⟨Nat.le_of_ble_eq_true rfl, Nat.le_of_ble_eq_true rfl⟩) (cm_preS hP hK hD hS hA hX [] rfl rfl rfl) rfl rfl hl.1 rfl (lv_room (Nat.le_of_ble_eq_true rfl)) dX10_setDerate_5 ⟨Nat.le_of_ble_eq_true rfl, Nat.le_of_ble_eq_true rfl⟩) hP hD hS hA [] [0, 1, 2] rfl rfl rfl (by decide) (fun E ce q9 u H locs hu hE hP hD hS hce hcv hcl => ?_) (fun u H locs hw_2 hP hD hS => ?_)
  · subst hE
    have hu : p1 < 0 ∨ 200 < p1 := hu
    have hP : va_P D vwCl [(x, .inr (10, [.ref w, .ref sp, .ref sv, .ref bu, .int 0, .int 0])), (w, .inr (9, [.int 0, .ref w_se, .ref w_cu, .ref w_pr, .int 0, .ref w_ch, .ref w_re, .ref w_lo])), (w_se, .inr (7, [.int 990, .int 100000, .int 100, .int 5, .int 0, .int 5000, .int 600, .int 250, .int 0, .int 5000, .int 1000, .int 0]))] H := hP
    have hD : va_D A [(x, .inr (10, [.ref w, .ref sp, .ref sv, .ref bu, .int 0, .int 0])), (w, .inr (9, [.int 0, .ref w_se, .ref w_cu, .ref w_pr, .int 0, .ref w_ch, .ref w_re, .ref w_lo])), (w_se, .inr (7, [.int 990, .int 100000, .int 100, .int 5, .int 0, .int 5000, .int 600, .int 250, .int 0, .int 5000, .int 1000, .int 0]))] := hD
    have hP9 := hP.sub (ws' := [(x, .inr (10, [.ref w, .ref sp, .ref sv, .ref bu, .int 0, .int 0])), (w, .inr (9, [.int 0, .ref w_se, .ref w_cu, .ref w_pr, .int 0, .ref w_ch, .ref w_re, .ref w_lo])), (w_se, .inr (7, [.int 990, .int 100000, .int 100, .int 5, .int 0, .int 5000, .int 600, .int 250, .int 0, .int 5000, .int 1000, .int 0]))]) [0, 1, 2] rfl
    have hD9 := hD.sub (ws' := [(x, .inr (10, [.ref w, .ref sp, .ref sv, .ref bu, .int 0, .int 0])), (w, .inr (9, [.int 0, .ref w_se, .ref w_cu, .ref w_pr, .int 0, .ref w_ch, .ref w_re, .ref w_lo])), (w_se, .inr (7, [.int 990, .int 100000, .int 100, .int 5, .int 0, .int 5000, .int 600, .int 250, .int 0, .int 5000, .int 1000, .int 0]))]) [0, 1, 2] (by decide) rfl
    exact vx_out (fun x hx => (hex x hx).elim) hlocks hce hcv hcl (fun t ht hW => ⟨(), hu, ⟨rfl, by rw [ht]; exact hP9, by rw [hAe]; exact hD9⟩, hS.F ht⟩) hS.2.2 (Nat.le_of_ble_eq_true rfl) (Nat.le_of_ble_eq_true rfl)
  · have hw_2 : 0 ≤ p1 ∧ p1 ≤ 200 := hw_2
    have hP : va_P D vwCl [(x, .inr (10, [.ref w, .ref sp, .ref sv, .ref bu, .int 0, .int 0])), (w, .inr (9, [.int 0, .ref w_se, .ref w_cu, .ref w_pr, .int 0, .ref w_ch, .ref w_re, .ref w_lo])), (w_se, .inr (7, [.int 990, .int 100000, .int 100, .int 5, .int 0, .int 5000, .int 600, .int 250, .int 0, .int 5000, .int 1000, .int 0]))] H := hP
    have hD : va_D A [(x, .inr (10, [.ref w, .ref sp, .ref sv, .ref bu, .int 0, .int 0])), (w, .inr (9, [.int 0, .ref w_se, .ref w_cu, .ref w_pr, .int 0, .ref w_ch, .ref w_re, .ref w_lo])), (w_se, .inr (7, [.int 990, .int 100000, .int 100, .int 5, .int 0, .int 5000, .int 600, .int 250, .int 0, .int 5000, .int 1000, .int 0]))] := hD
    refine W.widen (k := 1) (n := 6) (Nat.le_of_ble_eq_true rfl) (Nat.le_of_ble_eq_true rfl) ?_
    refine lv_aload_n hx hb dX10_setDerate_8 rfl (lv_at hl 0 rfl) ?_
    refine va_get (v := .ref w) (D := D) (ci := 10) (C := RX10) (T := TX10) (N := 6) hx hb hts in_X10 hown hK hP 0 rfl rfl 0 (by decide) (hts _ kl_RX10_10) (fun _ h9 => h9) rfl dX10_setDerate_9 ?_
    refine va_getN (v := .ref w_se) (D := D) (ci := 9) (C := RX9) (T := TX9) (N := 8) hx hb hts in_X9 hown hK hP 1 rfl rfl 1 (by decide) (hts _ kl_RX10_95) (fun _ h9 => h9) rfl dX10_setDerate_12 ?_
    refine va_getN (v := .int 0) (D := D) (ci := 7) (C := RX7) (T := TX7) (N := 12) hx hb hts in_X7 hown hK hP 2 rfl rfl 11 (by decide) (hts _ kl_RX10_143) (fun _ h9 => h9) rfl dX10_setDerate_15 ?_
    refine lv_istore_n (lv' := [(2, .int 0), (0, .ref x), (1, .int p1)]) hx hb dX10_setDerate_18 rfl hl (by decide) rfl (fun ls hl => ?_)
    refine lv_aload_n hx hb dX10_setDerate_19 rfl (lv_at hl 1 rfl) ?_
    refine va_get (v := .ref w) (D := D) (ci := 10) (C := RX10) (T := TX10) (N := 6) hx hb hts in_X10 hown hK hP 0 rfl rfl 0 (by decide) (hts _ kl_RX10_10) (fun _ h9 => h9) rfl dX10_setDerate_20 ?_
    refine va_getN (v := .ref w_se) (D := D) (ci := 9) (C := RX9) (T := TX9) (N := 8) hx hb hts in_X9 hown hK hP 1 rfl rfl 1 (by decide) (hts _ kl_RX10_95) (fun _ h9 => h9) rfl dX10_setDerate_23 ?_
    refine lv_iload_n hx hb dX10_setDerate_26 rfl (lv_at hl 2 rfl) ?_
    refine va_putN (v := .int p1) (ty := .int) (D := D) (ci := 7) (C := RX7) (T := TX7) (N := 12) hx hb hts in_X7 tyX7 tyX7_ok nmX7 hown hK hP hD hS 2 rfl rfl 11 (by decide) (hts _ kl_RX10_143) (fun _ h9 => h9) rfl (by decide +kernel) rfl rfl (Nat.le_of_ble_eq_true rfl) dX10_setDerate_27 (fun H locs hP hD hS => ?_)
    have hP : va_P D vwCl [(x, .inr (10, [.ref w, .ref sp, .ref sv, .ref bu, .int 0, .int 0])), (w, .inr (9, [.int 0, .ref w_se, .ref w_cu, .ref w_pr, .int 0, .ref w_ch, .ref w_re, .ref w_lo])), (w_se, .inr (7, [.int 990, .int 100000, .int 100, .int 5, .int 0, .int 5000, .int 600, .int 250, .int 0, .int 5000, .int 1000, .int p1]))] H := hP
    have hD : va_D A [(x, .inr (10, [.ref w, .ref sp, .ref sv, .ref bu, .int 0, .int 0])), (w, .inr (9, [.int 0, .ref w_se, .ref w_cu, .ref w_pr, .int 0, .ref w_ch, .ref w_re, .ref w_lo])), (w_se, .inr (7, [.int 990, .int 100000, .int 100, .int 5, .int 0, .int 5000, .int 600, .int 250, .int 0, .int 5000, .int 1000, .int p1]))] := hD
    refine lv_iload_n hx hb dX10_setDerate_30 rfl (lv_at hl 0 rfl) ?_
    have hP9 := hP.sub (ws' := [(x, .inr (10, [.ref w, .ref sp, .ref sv, .ref bu, .int 0, .int 0])), (w, .inr (9, [.int 0, .ref w_se, .ref w_cu, .ref w_pr, .int 0, .ref w_ch, .ref w_re, .ref w_lo])), (w_se, .inr (7, [.int 990, .int 100000, .int 100, .int 5, .int 0, .int 5000, .int 600, .int 250, .int 0, .int 5000, .int 1000, .int p1]))]) [0, 1, 2] rfl
    have hD9 := hD.sub (ws' := [(x, .inr (10, [.ref w, .ref sp, .ref sv, .ref bu, .int 0, .int 0])), (w, .inr (9, [.int 0, .ref w_se, .ref w_cu, .ref w_pr, .int 0, .ref w_ch, .ref w_re, .ref w_lo])), (w_se, .inr (7, [.int 990, .int 100000, .int 100, .int 5, .int 0, .int 5000, .int 600, .int 250, .int 0, .int 5000, .int 1000, .int p1]))]) [0, 1, 2] (by decide) rfl
    refine vx_ret ?_
    exact W.iret (v := 0) hx hb hr (fun t ht hW => ⟨⟨0, (), rfl, ⟨rfl, hw_2⟩, by rw [ht]; exact hP9, by rw [hAe]; exact hD9⟩, hS.F ht⟩) hS.2.2 dX10_setDerate_31
theorem dX10_setLimits_0 : decode cX10_setLimits 0 = .ok (.iload_n 1, 1) := by decide +kernel
theorem dX10_setLimits_1 : decode cX10_setLimits 1 = .ok (.iconst 0, 1) := by decide +kernel
theorem dX10_setLimits_2 : decode cX10_setLimits 2 = .ok (.sipush 5000, 3) := by decide +kernel
theorem dX10_setLimits_5 : decode cX10_setLimits 5 = .ok (.invokestatic 81, 3) := by decide +kernel
theorem dX10_setLimits_8 : decode cX10_setLimits 8 = .ok (.iload_n 2, 1) := by decide +kernel
theorem dX10_setLimits_9 : decode cX10_setLimits 9 = .ok (.iload_n 1, 1) := by decide +kernel
theorem dX10_setLimits_10 : decode cX10_setLimits 10 = .ok (.sipush 5000, 3) := by decide +kernel
theorem dX10_setLimits_13 : decode cX10_setLimits 13 = .ok (.invokestatic 81, 3) := by decide +kernel
theorem dX10_setLimits_16 : decode cX10_setLimits 16 = .ok (.aload_n 0, 1) := by decide +kernel
theorem dX10_setLimits_17 : decode cX10_setLimits 17 = .ok (.getfield 10, 3) := by decide +kernel
theorem dX10_setLimits_20 : decode cX10_setLimits 20 = .ok (.getfield 95, 3) := by decide +kernel
theorem dX10_setLimits_23 : decode cX10_setLimits 23 = .ok (.iload_n 1, 1) := by decide +kernel
theorem dX10_setLimits_24 : decode cX10_setLimits 24 = .ok (.putfield 113, 3) := by decide +kernel
theorem dX10_setLimits_27 : decode cX10_setLimits 27 = .ok (.aload_n 0, 1) := by decide +kernel
theorem dX10_setLimits_28 : decode cX10_setLimits 28 = .ok (.getfield 10, 3) := by decide +kernel
theorem dX10_setLimits_31 : decode cX10_setLimits 31 = .ok (.getfield 95, 3) := by decide +kernel
theorem dX10_setLimits_34 : decode cX10_setLimits 34 = .ok (.iload_n 2, 1) := by decide +kernel
theorem dX10_setLimits_35 : decode cX10_setLimits 35 = .ok (.putfield 116, 3) := by decide +kernel
theorem dX10_setLimits_38 : decode cX10_setLimits 38 = .ok (.iconst 0, 1) := by decide +kernel
theorem dX10_setLimits_39 : decode cX10_setLimits 39 = .ok (.istore_n 3, 1) := by decide +kernel
theorem dX10_setLimits_40 : decode cX10_setLimits 40 = .ok (.iconst 0, 1) := by decide +kernel
theorem dX10_setLimits_41 : decode cX10_setLimits 41 = .ok (.istore 4, 2) := by decide +kernel
theorem dX10_setLimits_43 : decode cX10_setLimits 43 = .ok (.iload 4, 2) := by decide +kernel
theorem dX10_setLimits_45 : decode cX10_setLimits 45 = .ok (.aload_n 0, 1) := by decide +kernel
theorem dX10_setLimits_46 : decode cX10_setLimits 46 = .ok (.getfield 10, 3) := by decide +kernel
theorem dX10_setLimits_49 : decode cX10_setLimits 49 = .ok (.getfield 64, 3) := by decide +kernel
theorem dX10_setLimits_52 : decode cX10_setLimits 52 = .ok (.if_icmp .ge 61, 3) := by decide +kernel
theorem dX10_setLimits_113 : decode cX10_setLimits 113 = .ok (.iload_n 3, 1) := by decide +kernel
theorem dX10_setLimits_114 : decode cX10_setLimits 114 = .ok (.ireturn, 1) := by decide +kernel
set_option maxRecDepth 100000 in
set_option maxHeartbeats 4000000 in
theorem c_setLimits_0 (l : Launch) (hfl : l.stackTraces = false) (D : va_G) (ct : Nat → ClassId) (x : Nat) (w : Nat) (sp : Nat) (sv : Nat) (bu : Nat) (w_se : Nat) (w_cu : Nat) (w_pr : Nat) (w_ch : Nat) (w_re : Nat) (w_lo : Nat) (p1 : Int32) (p2 : Int32) (sz : Nat) : vx_Met l yX10_setLimits (ws_ yX10_setLimits cX10_setLimits 6 (some .int)) ({ frames := 7, cells := 2, slots := 12, locals := 112 } : Room) (va_Pc [.ref x, .int p1, .int p2] (cmP D ct sz [(x, .inr (10, [.ref w, .ref sp, .ref sv, .ref bu, .int 0, .int 0])), (w, .inr (9, [.int 0, .ref w_se, .ref w_cu, .ref w_pr, .int 0, .ref w_ch, .ref w_re, .ref w_lo])), (w_se, .inr (7, [.int 990, .int 100000, .int 100, .int 5, .int 0, .int 5000, .int 600, .int 250, .int 0, .int 5000, .int 1000, .int 0]))])) (va_Qi (fun (r : Int32) (_ : Unit) => r = 0 ∧ (0 ≤ p1 ∧ p1 ≤ 5000) ∧ (p1 ≤ p2 ∧ p2 ≤ 5000)) (cmB D [(x, .inr (10, [.ref w, .ref sp, .ref sv, .ref bu, .int 0, .int 0])), (w, .inr (9, [.int 0, .ref w_se, .ref w_cu, .ref w_pr, .int 0, .ref w_ch, .ref w_re, .ref w_lo])), (w_se, .inr (7, [.int 990, .int 100000, .int 100, .int 5, .int 0, .int 5000, .int 600, .int 250, .int 0, .int 5000, .int 1000, .int 0]))] sz (fun _ : Unit => [(x, .inr (10, [.ref w, .ref sp, .ref sv, .ref bu, .int 0, .int 0])), (w, .inr (9, [.int 0, .ref w_se, .ref w_cu, .ref w_pr, .int 0, .ref w_ch, .ref w_re, .ref w_lo])), (w_se, .inr (7, [.int 990, .int 100000, .int 100, .int 5, .int p1, .int p2, .int 600, .int 250, .int 0, .int 5000, .int 1000, .int 0]))])) (va_A [(x, .inr (10, [.ref w, .ref sp, .ref sv, .ref bu, .int 0, .int 0])), (w, .inr (9, [.int 0, .ref w_se, .ref w_cu, .ref w_pr, .int 0, .ref w_ch, .ref w_re, .ref w_lo])), (w_se, .inr (7, [.int 990, .int 100000, .int 100, .int 5, .int 0, .int 5000, .int 600, .int 250, .int 0, .int 5000, .int 1000, .int 0]))] sz)) (vx_X (fun _ : Unit => p1 < 0 ∨ 5000 < p1 ∨ p2 < p1 ∨ 5000 < p2) (cmBX D [(x, .inr (10, [.ref w, .ref sp, .ref sv, .ref bu, .int 0, .int 0])), (w, .inr (9, [.int 0, .ref w_se, .ref w_cu, .ref w_pr, .int 0, .ref w_ch, .ref w_re, .ref w_lo])), (w_se, .inr (7, [.int 990, .int 100000, .int 100, .int 5, .int 0, .int 5000, .int 600, .int 250, .int 0, .int 5000, .int 1000, .int 0]))] sz "java/lang/IllegalArgumentException" (fun _ : Unit => [(x, .inr (10, [.ref w, .ref sp, .ref sv, .ref bu, .int 0, .int 0])), (w, .inr (9, [.int 0, .ref w_se, .ref w_cu, .ref w_pr, .int 0, .ref w_ch, .ref w_re, .ref w_lo])), (w_se, .inr (7, [.int 990, .int 100000, .int 100, .int 5, .int 0, .int 5000, .int 600, .int 250, .int 0, .int 5000, .int 1000, .int 0]))])) (va_A [(x, .inr (10, [.ref w, .ref sp, .ref sv, .ref bu, .int 0, .int 0])), (w, .inr (9, [.int 0, .ref w_se, .ref w_cu, .ref w_pr, .int 0, .ref w_ch, .ref w_re, .ref w_lo])), (w_se, .inr (7, [.int 990, .int 100000, .int 100, .int 5, .int 0, .int 5000, .int 600, .int 250, .int 0, .int 5000, .int 1000, .int 0]))] sz)) 2 12 (va_A [(x, .inr (10, [.ref w, .ref sp, .ref sv, .ref bu, .int 0, .int 0])), (w, .inr (9, [.int 0, .ref w_se, .ref w_cu, .ref w_pr, .int 0, .ref w_ch, .ref w_re, .ref w_lo])), (w_se, .inr (7, [.int 990, .int 100000, .int 100, .int 5, .int 0, .int 5000, .int 600, .int 250, .int 0, .int 5000, .int 1000, .int 0]))] sz) := by
  refine vx_ofW (cc := cX10_setLimits) (maxL := 6) (ret := (some .int)) (by decide) rfl ?_
  intro p e s m args below meth c s₁ B hml hex hv
  obtain ⟨rfl, hsz, hP, hK, hD0, hX⟩ := hv
  have hx := B.exec
  have hb := B.bytes
  have hr := B.returns
  have hts := ws_all (atoms_spec (ws := ws_ yX10_setLimits cX10_setLimits 6 (some .int)) B.pre)
  have hown : s.vm.findClass RX10 = some m.cls := findClass_of_methodNamed B.named
  have hlocks := B.notSynchronized
  subst hsz
  have hD := hD0.self (sz := s.heap.size)
  generalize hAe : va_A [(x, .inr (10, [.ref w, .ref sp, .ref sv, .ref bu, .int 0, .int 0])), (w, .inr (9, [.int 0, .ref w_se, .ref w_cu, .ref w_pr, .int 0, .ref w_ch, .ref w_re, .ref w_lo])), (w_se, .inr (7, [.int 990, .int 100000, .int 100, .int 5, .int 0, .int 5000, .int 600, .int 250, .int 0, .int 5000, .int 1000, .int 0]))] s.heap.size = A at hD hX ⊢
  have hA : ∀ q : Nat, s.heap.size ≤ q → A q := fun q h => by rw [← hAe]; exact Or.inr h
  have hS : va_S A s.heap s.heap [] := va_S.rf
  have hl := lv_entry ([.ref x, .int p1, .int p2]) (n := 6) (Nat.le_of_ble_eq_true rfl)
  rw [lg_entry_eq]
  generalize (lg_sl ([.ref x, .int p1, .int p2]) ++ List.replicate (6 - (lg_sl ([.ref x, .int p1, .int p2])).length) Slot.unset).toArray = ls at hl ⊢
  have hl : lv_has ls 6 [(0, .ref x), (1, .int p1), (2, .int p2)] := hl
  refine lv_iload_n hx hb dX10_setLimits_0 rfl (lv_at hl 1 rfl) ?_
  refine lv_iconst (v := 0) hx hb dX10_setLimits_1 (by decide) ?_
  refine lv_sipush (v := 5000) hx hb dX10_setLimits_2 (by decide) ?_
  refine cm_xv (wr := [(x, .inr (10, [.ref w, .ref sp, .ref sv, .ref bu, .int 0, .int 0])), (w, .inr (9, [.int 0, .ref w_se, .ref w_cu, .ref w_pr, .int 0, .ref w_ch, .ref w_re, .ref w_lo])), (w_se, .inr (7, [.int 990, .int 100000, .int 100, .int 5, .int 0, .int 5000, .int 600, .int 250, .int 0, .int 5000, .int 1000, .int 0]))]) (vx_runS (As := [.int p1, .int 0, .int 5000]) (rest := []) ⟨hx, hb, hml, hown, hts⟩ (c_needRange l hfl D ct p1 0 5000 _) (cm_S 3 hts kc_X10_needRange ki_RX10 kl_RX10_81 ks_X10_needRange kd_X10_needRange ⟨Nat.le_of_ble_eq_true rfl, Nat.le_of_ble_eq_true rfl⟩) (cm_preS hP hK hD hS hA hX [] rfl rfl rfl) rfl rfl hl.1 rfl (lv_room (Nat.le_of_ble_eq_true rfl)) dX10_setLimits_5 ⟨Nat.le_of_ble_eq_true rfl, Nat.le_of_ble_eq_true rfl⟩) hP hD hS hA [] [0, 1, 2] rfl rfl rfl (by decide) (fun E ce q9 u H locs hu hE hP hD hS hce hcv hcl => ?_) (fun u H locs hw_2 hP hD hS => ?_)
  · subst hE
    have hu : p1 < 0 ∨ 5000 < p1 := hu
    have hP : va_P D vwCl [(x, .inr (10, [.ref w, .ref sp, .ref sv, .ref bu, .int 0, .int 0])), (w, .inr (9, [.int 0, .ref w_se, .ref w_cu, .ref w_pr, .int 0, .ref w_ch, .ref w_re, .ref w_lo])), (w_se, .inr (7, [.int 990, .int 100000, .int 100, .int 5, .int 0, .int 5000, .int 600, .int 250, .int 0, .int 5000, .int 1000, .int 0]))] H := hP
    have hD : va_D A [(x, .inr (10, [.ref w, .ref sp, .ref sv, .ref bu, .int 0, .int 0])), (w, .inr (9, [.int 0, .ref w_se, .ref w_cu, .ref w_pr, .int 0, .ref w_ch, .ref w_re, .ref w_lo])), (w_se, .inr (7, [.int 990, .int 100000, .int 100, .int 5, .int 0, .int 5000, .int 600, .int 250, .int 0, .int 5000, .int 1000, .int 0]))] := hD
    have hP9 := hP.sub (ws' := [(x, .inr (10, [.ref w, .ref sp, .ref sv, .ref bu, .int 0, .int 0])), (w, .inr (9, [.int 0, .ref w_se, .ref w_cu, .ref w_pr, .int 0, .ref w_ch, .ref w_re, .ref w_lo])), (w_se, .inr (7, [.int 990, .int 100000, .int 100, .int 5, .int 0, .int 5000, .int 600, .int 250, .int 0, .int 5000, .int 1000, .int 0]))]) [0, 1, 2] rfl
    have hD9 := hD.sub (ws' := [(x, .inr (10, [.ref w, .ref sp, .ref sv, .ref bu, .int 0, .int 0])), (w, .inr (9, [.int 0, .ref w_se, .ref w_cu, .ref w_pr, .int 0, .ref w_ch, .ref w_re, .ref w_lo])), (w_se, .inr (7, [.int 990, .int 100000, .int 100, .int 5, .int 0, .int 5000, .int 600, .int 250, .int 0, .int 5000, .int 1000, .int 0]))]) [0, 1, 2] (by decide) rfl
    exact vx_out (fun x hx => (hex x hx).elim) hlocks hce hcv hcl (fun t ht hW => ⟨(), (hu.elim Or.inl (fun h => Or.inr (Or.inl h))), ⟨rfl, by rw [ht]; exact hP9, by rw [hAe]; exact hD9⟩, hS.F ht⟩) hS.2.2 (Nat.le_of_ble_eq_true rfl) (Nat.le_of_ble_eq_true rfl)
  · have hw_2 : 0 ≤ p1 ∧ p1 ≤ 5000 := hw_2
    have hP : va_P D vwCl [(x, .inr (10, [.ref w, .ref sp, .ref sv, .ref bu, .int 0, .int 0])), (w, .inr (9, [.int 0, .ref w_se, .ref w_cu, .ref w_pr, .int 0, .ref w_ch, .ref w_re, .ref w_lo])), (w_se, .inr (7, [.int 990, .int 100000, .int 100, .int 5, .int 0, .int 5000, .int 600, .int 250, .int 0, .int 5000, .int 1000, .int 0]))] H := hP
    have hD : va_D A [(x, .inr (10, [.ref w, .ref sp, .ref sv, .ref bu, .int 0, .int 0])), (w, .inr (9, [.int 0, .ref w_se, .ref w_cu, .ref w_pr, .int 0, .ref w_ch, .ref w_re, .ref w_lo])), (w_se, .inr (7, [.int 990, .int 100000, .int 100, .int 5, .int 0, .int 5000, .int 600, .int 250, .int 0, .int 5000, .int 1000, .int 0]))] := hD
    refine W.widen (k := 1) (n := 6) (Nat.le_of_ble_eq_true rfl) (Nat.le_of_ble_eq_true rfl) ?_
    refine lv_iload_n hx hb dX10_setLimits_8 rfl (lv_at hl 2 rfl) ?_
    refine lv_iload_n hx hb dX10_setLimits_9 rfl (lv_at hl 1 rfl) ?_
    refine lv_sipush (v := 5000) hx hb dX10_setLimits_10 (by decide) ?_
    refine cm_xv (wr := [(x, .inr (10, [.ref w, .ref sp, .ref sv, .ref bu, .int 0, .int 0])), (w, .inr (9, [.int 0, .ref w_se, .ref w_cu, .ref w_pr, .int 0, .ref w_ch, .ref w_re, .ref w_lo])), (w_se, .inr (7, [.int 990, .int 100000, .int 100, .int 5, .int 0, .int 5000, .int 600, .int 250, .int 0, .int 5000, .int 1000, .int 0]))]) (vx_runS (As := [.int p2, .int p1, .int 5000]) (rest := []) ⟨hx, hb, hml, hown, hts⟩ (c_needRange l hfl D ct p2 p1 5000 _) (cm_S 3 hts kc_X10_needRange ki_RX10 kl_RX10_81 ks_X10_needRange kd_X10_needRange ⟨Nat.le_of_ble_eq_true rfl, Nat.le_of_ble_eq_true rfl⟩) (cm_preS hP hK hD hS hA hX [] rfl rfl rfl) rfl rfl hl.1 rfl (lv_room (Nat.le_of_ble_eq_true rfl)) dX10_setLimits_13 ⟨Nat.le_of_ble_eq_true rfl, Nat.le_of_ble_eq_true rfl⟩) hP hD hS hA [] [0, 1, 2] rfl rfl rfl (by decide) (fun E ce q9 u H locs hu hE hP hD hS hce hcv hcl => ?_) (fun u H locs hw_4 hP hD hS => ?_)
    · subst hE
      have hu : p2 < p1 ∨ 5000 < p2 := hu
      have hP : va_P D vwCl [(x, .inr (10, [.ref w, .ref sp, .ref sv, .ref bu, .int 0, .int 0])), (w, .inr (9, [.int 0, .ref w_se, .ref w_cu, .ref w_pr, .int 0, .ref w_ch, .ref w_re, .ref w_lo])), (w_se, .inr (7, [.int 990, .int 100000, .int 100, .int 5, .int 0, .int 5000, .int 600, .int 250, .int 0, .int 5000, .int 1000, .int 0]))] H := hP
      have hD : va_D A [(x, .inr (10, [.ref w, .ref sp, .ref sv, .ref bu, .int 0, .int 0])), (w, .inr (9, [.int 0, .ref w_se, .ref w_cu, .ref w_pr, .int 0, .ref w_ch, .ref w_re, .ref w_lo])), (w_se, .inr (7, [.int 990, .int 100000, .int 100, .int 5, .int 0, .int 5000, .int 600, .int 250, .int 0, .int 5000, .int 1000, .int 0]))] := hD
      have hP9 := hP.sub (ws' := [(x, .inr (10, [.ref w, .ref sp, .ref sv, .ref bu, .int 0, .int 0])), (w, .inr (9, [.int 0, .ref w_se, .ref w_cu, .ref w_pr, .int 0, .ref w_ch, .ref w_re, .ref w_lo])), (w_se, .inr (7, [.int 990, .int 100000, .int 100, .int 5, .int 0, .int 5000, .int 600, .int 250, .int 0, .int 5000, .int 1000, .int 0]))]) [0, 1, 2] rfl
      have hD9 := hD.sub (ws' := [(x, .inr (10, [.ref w, .ref sp, .ref sv, .ref bu, .int 0, .int 0])), (w, .inr (9, [.int 0, .ref w_se, .ref w_cu, .ref w_pr, .int 0, .ref w_ch, .ref w_re, .ref w_lo])), (w_se, .inr (7, [.int 990, .int 100000, .int 100, .int 5, .int 0, .int 5000, .int 600, .int 250, .int 0, .int 5000, .int 1000, .int 0]))]) [0, 1, 2] (by decide) rfl
      exact vx_out (fun x hx => (hex x hx).elim) hlocks hce hcv hcl (fun t ht hW => ⟨(), (Or.inr (Or.inr hu)), ⟨rfl, by rw [ht]; exact hP9, by rw [hAe]; exact hD9⟩, hS.F ht⟩) hS.2.2 (Nat.le_of_ble_eq_true rfl) (Nat.le_of_ble_eq_true rfl)
    · have hw_4 : p1 ≤ p2 ∧ p2 ≤ 5000 := hw_4
      have hP : va_P D vwCl [(x, .inr (10, [.ref w, .ref sp, .ref sv, .ref bu, .int 0, .int 0])), (w, .inr (9, [.int 0, .ref w_se, .ref w_cu, .ref w_pr, .int 0, .ref w_ch, .ref w_re, .ref w_lo])), (w_se, .inr (7, [.int 990, .int 100000, .int 100, .int 5, .int 0, .int 5000, .int 600, .int 250, .int 0, .int 5000, .int 1000, .int 0]))] H := hP
      have hD : va_D A [(x, .inr (10, [.ref w, .ref sp, .ref sv, .ref bu, .int 0, .int 0])), (w, .inr (9, [.int 0, .ref w_se, .ref w_cu, .ref w_pr, .int 0, .ref w_ch, .ref w_re, .ref w_lo])), (w_se, .inr (7, [.int 990, .int 100000, .int 100, .int 5, .int 0, .int 5000, .int 600, .int 250, .int 0, .int 5000, .int 1000, .int 0]))] := hD
      refine W.widen (k := 2) (n := 12) (Nat.le_of_ble_eq_true rfl) (Nat.le_of_ble_eq_true rfl) ?_
      refine lv_aload_n hx hb dX10_setLimits_16 rfl (lv_at hl 0 rfl) ?_
      refine va_get (v := .ref w) (D := D) (ci := 10) (C := RX10) (T := TX10) (N := 6) hx hb hts in_X10 hown hK hP 0 rfl rfl 0 (by decide) (hts _ kl_RX10_10) (fun _ h9 => h9) rfl dX10_setLimits_17 ?_
      refine va_getN (v := .ref w_se) (D := D) (ci := 9) (C := RX9) (T := TX9) (N := 8) hx hb hts in_X9 hown hK hP 1 rfl rfl 1 (by decide) (hts _ kl_RX10_95) (fun _ h9 => h9) rfl dX10_setLimits_20 ?_
      refine lv_iload_n hx hb dX10_setLimits_23 rfl (lv_at hl 1 rfl) ?_
      refine va_putN (v := .int p1) (ty := .int) (D := D) (ci := 7) (C := RX7) (T := TX7) (N := 12) hx hb hts in_X7 tyX7 tyX7_ok nmX7 hown hK hP hD hS 2 rfl rfl 4 (by decide) (hts _ kl_RX10_113) (fun _ h9 => h9) rfl (by decide +kernel) rfl rfl (Nat.le_of_ble_eq_true rfl) dX10_setLimits_24 (fun H locs hP hD hS => ?_)
      have hP : va_P D vwCl [(x, .inr (10, [.ref w, .ref sp, .ref sv, .ref bu, .int 0, .int 0])), (w, .inr (9, [.int 0, .ref w_se, .ref w_cu, .ref w_pr, .int 0, .ref w_ch, .ref w_re, .ref w_lo])), (w_se, .inr (7, [.int 990, .int 100000, .int 100, .int 5, .int p1, .int 5000, .int 600, .int 250, .int 0, .int 5000, .int 1000, .int 0]))] H := hP
      have hD : va_D A [(x, .inr (10, [.ref w, .ref sp, .ref sv, .ref bu, .int 0, .int 0])), (w, .inr (9, [.int 0, .ref w_se, .ref w_cu, .ref w_pr, .int 0, .ref w_ch, .ref w_re, .ref w_lo])), (w_se, .inr (7, [.int 990, .int 100000, .int 100, .int 5, .int p1, .int 5000, .int 600, .int 250, .int 0, .int 5000, .int 1000, .int 0]))] := hD
      refine lv_aload_n hx hb dX10_setLimits_27 rfl (lv_at hl 0 rfl) ?_
      refine va_get (v := .ref w) (D := D) (ci := 10) (C := RX10) (T := TX10) (N := 6) hx hb hts in_X10 hown hK hP 0 rfl rfl 0 (by decide) (hts _ kl_RX10_10) (fun _ h9 => h9) rfl dX10_setLimits_28 ?_
      refine va_getN (v := .ref w_se) (D := D) (ci := 9) (C := RX9) (T := TX9) (N := 8) hx hb hts in_X9 hown hK hP 1 rfl rfl 1 (by decide) (hts _ kl_RX10_95) (fun _ h9 => h9) rfl dX10_setLimits_31 ?_
      refine lv_iload_n hx hb dX10_setLimits_34 rfl (lv_at hl 2 rfl) ?_
      refine va_putN (v := .int p2) (ty := .int) (D := D) (ci := 7) (C := RX7) (T := TX7) (N := 12) hx hb hts in_X7 tyX7 tyX7_ok nmX7 hown hK hP hD hS 2 rfl rfl 5 (by decide) (hts _ kl_RX10_116) (fun _ h9 => h9) rfl (by decide +kernel) rfl rfl (Nat.le_of_ble_eq_true rfl) dX10_setLimits_35 (fun H locs hP hD hS => ?_)
      have hP : va_P D vwCl [(x, .inr (10, [.ref w, .ref sp, .ref sv, .ref bu, .int 0, .int 0])), (w, .inr (9, [.int 0, .ref w_se, .ref w_cu, .ref w_pr, .int 0, .ref w_ch, .ref w_re, .ref w_lo])), (w_se, .inr (7, [.int 990, .int 100000, .int 100, .int 5, .int p1, .int p2, .int 600, .int 250, .int 0, .int 5000, .int 1000, .int 0]))] H := hP
      have hD : va_D A [(x, .inr (10, [.ref w, .ref sp, .ref sv, .ref bu, .int 0, .int 0])), (w, .inr (9, [.int 0, .ref w_se, .ref w_cu, .ref w_pr, .int 0, .ref w_ch, .ref w_re, .ref w_lo])), (w_se, .inr (7, [.int 990, .int 100000, .int 100, .int 5, .int p1, .int p2, .int 600, .int 250, .int 0, .int 5000, .int 1000, .int 0]))] := hD
      refine lv_iconst (v := 0) hx hb dX10_setLimits_38 (by decide) ?_
      refine lv_istore_n (lv' := [(3, .int 0), (0, .ref x), (1, .int p1), (2, .int p2)]) hx hb dX10_setLimits_39 rfl hl (by decide) rfl (fun ls hl => ?_)
      refine lv_iconst (v := 0) hx hb dX10_setLimits_40 (by decide) ?_
      refine lv_istore (lv' := [(4, .int 0), (3, .int 0), (0, .ref x), (1, .int p1), (2, .int p2)]) hx hb dX10_setLimits_41 hl (by decide) rfl (fun ls hl => ?_)
      refine lv_iload hx hb dX10_setLimits_43 (lv_at hl 0 rfl) ?_
      refine lv_aload_n hx hb dX10_setLimits_45 rfl (lv_at hl 2 rfl) ?_
      refine va_get (v := .ref w) (D := D) (ci := 10) (C := RX10) (T := TX10) (N := 6) hx hb hts in_X10 hown hK hP 0 rfl rfl 0 (by decide) (hts _ kl_RX10_10) (fun _ h9 => h9) rfl dX10_setLimits_46 ?_
      refine va_getN (v := .int 0) (D := D) (ci := 9) (C := RX9) (T := TX9) (N := 8) hx hb hts in_X9 hown hK hP 1 rfl rfl 4 (by decide) (hts _ kl_RX10_64) (fun _ h9 => h9) rfl dX10_setLimits_49 ?_
      refine lv_icmp_ge (tgt := 113) hx hb dX10_setLimits_52 (by decide) (fun _ => ?_) (fun hc => absurd (by decide) hc)
      refine lv_iload_n hx hb dX10_setLimits_113 rfl (lv_at hl 1 rfl) ?_
      have hP9 := hP.sub (ws' := [(x, .inr (10, [.ref w, .ref sp, .ref sv, .ref bu, .int 0, .int 0])), (w, .inr (9, [.int 0, .ref w_se, .ref w_cu, .ref w_pr, .int 0, .ref w_ch, .ref w_re, .ref w_lo])), (w_se, .inr (7, [.int 990, .int 100000, .int 100, .int 5, .int p1, .int p2, .int 600, .int 250, .int 0, .int 5000, .int 1000, .int 0]))]) [0, 1, 2] rfl
      have hD9 := hD.sub (ws' := [(x, .inr (10, [.ref w, .ref sp, .ref sv, .ref bu, .int 0, .int 0])), (w, .inr (9, [.int 0, .ref w_se, .ref w_cu, .ref w_pr, .int 0, .ref w_ch, .ref w_re, .ref w_lo])), (w_se, .inr (7, [.int 990, .int 100000, .int 100, .int 5, .int p1, .int p2, .int 600, .int 250, .int 0, .int 5000, .int 1000, .int 0]))]) [0, 1, 2] (by decide) rfl
      refine vx_ret ?_
      exact W.iret (v := 0) hx hb hr (fun t ht hW => ⟨⟨0, (), rfl, ⟨rfl, ⟨hw_2, hw_4⟩⟩, by rw [ht]; exact hP9, by rw [hAe]; exact hD9⟩, hS.F ht⟩) hS.2.2 dX10_setLimits_114
theorem dX10_inState_0 : decode cX10_inState 0 = .ok (.iload_n 1, 1) := by decide +kernel
theorem dX10_inState_1 : decode cX10_inState 1 = .ok (.iconst 0, 1) := by decide +kernel
theorem dX10_inState_2 : decode cX10_inState 2 = .ok (.iconst 4, 1) := by decide +kernel
theorem dX10_inState_3 : decode cX10_inState 3 = .ok (.invokestatic 81, 3) := by decide +kernel
theorem dX10_inState_6 : decode cX10_inState 6 = .ok (.aload_n 0, 1) := by decide +kernel
theorem dX10_inState_7 : decode cX10_inState 7 = .ok (.getfield 10, 3) := by decide +kernel
theorem dX10_inState_10 : decode cX10_inState 10 = .ok (.iload_n 1, 1) := by decide +kernel
theorem dX10_inState_11 : decode cX10_inState 11 = .ok (.invokevirtual 183, 3) := by decide +kernel
theorem dX10_inState_14 : decode cX10_inState 14 = .ok (.ireturn, 1) := by decide +kernel
set_option maxRecDepth 100000 in
set_option maxHeartbeats 4000000 in
theorem c_inState_0 (l : Launch) (hfl : l.stackTraces = false) (D : va_G) (ct : Nat → ClassId) (x : Nat) (w : Nat) (sp : Nat) (sv : Nat) (bu : Nat) (w_se : Nat) (w_cu : Nat) (w_pr : Nat) (w_ch : Nat) (w_re : Nat) (w_lo : Nat) (p1 : Int32) (sz : Nat) : vx_Met l yX10_inState (ws_ yX10_inState cX10_inState 2 (some .int)) ({ frames := 7, cells := 1, slots := 6, locals := 112 } : Room) (va_Pc [.ref x, .int p1] (cmP D ct sz [(x, .inr (10, [.ref w, .ref sp, .ref sv, .ref bu, .int 0, .int 0])), (w, .inr (9, [.int 0, .ref w_se, .ref w_cu, .ref w_pr, .int 0, .ref w_ch, .ref w_re, .ref w_lo]))])) (va_Qi (fun (r : Int32) (_ : Unit) => r = 0 ∧ 0 ≤ p1 ∧ p1 ≤ 4) (cmB D [(x, .inr (10, [.ref w, .ref sp, .ref sv, .ref bu, .int 0, .int 0])), (w, .inr (9, [.int 0, .ref w_se, .ref w_cu, .ref w_pr, .int 0, .ref w_ch, .ref w_re, .ref w_lo]))] sz (fun _ : Unit => [(x, .inr (10, [.ref w, .ref sp, .ref sv, .ref bu, .int 0, .int 0])), (w, .inr (9, [.int 0, .ref w_se, .ref w_cu, .ref w_pr, .int 0, .ref w_ch, .ref w_re, .ref w_lo]))])) (va_A [(x, .inr (10, [.ref w, .ref sp, .ref sv, .ref bu, .int 0, .int 0])), (w, .inr (9, [.int 0, .ref w_se, .ref w_cu, .ref w_pr, .int 0, .ref w_ch, .ref w_re, .ref w_lo]))] sz)) (vx_X (fun _ : Unit => p1 < 0 ∨ 4 < p1) (cmBX D [(x, .inr (10, [.ref w, .ref sp, .ref sv, .ref bu, .int 0, .int 0])), (w, .inr (9, [.int 0, .ref w_se, .ref w_cu, .ref w_pr, .int 0, .ref w_ch, .ref w_re, .ref w_lo]))] sz "java/lang/IllegalArgumentException" (fun _ : Unit => [(x, .inr (10, [.ref w, .ref sp, .ref sv, .ref bu, .int 0, .int 0])), (w, .inr (9, [.int 0, .ref w_se, .ref w_cu, .ref w_pr, .int 0, .ref w_ch, .ref w_re, .ref w_lo]))])) (va_A [(x, .inr (10, [.ref w, .ref sp, .ref sv, .ref bu, .int 0, .int 0])), (w, .inr (9, [.int 0, .ref w_se, .ref w_cu, .ref w_pr, .int 0, .ref w_ch, .ref w_re, .ref w_lo]))] sz)) 1 6 (va_A [(x, .inr (10, [.ref w, .ref sp, .ref sv, .ref bu, .int 0, .int 0])), (w, .inr (9, [.int 0, .ref w_se, .ref w_cu, .ref w_pr, .int 0, .ref w_ch, .ref w_re, .ref w_lo]))] sz) := by
  refine vx_ofW (cc := cX10_inState) (maxL := 2) (ret := (some .int)) (by decide) rfl ?_
  intro p e s m args below meth c s₁ B hml hex hv
  obtain ⟨rfl, hsz, hP, hK, hD0, hX⟩ := hv
  have hx := B.exec
  have hb := B.bytes
  have hr := B.returns
  have hts := ws_all (atoms_spec (ws := ws_ yX10_inState cX10_inState 2 (some .int)) B.pre)
  have hown : s.vm.findClass RX10 = some m.cls := findClass_of_methodNamed B.named
  have hlocks := B.notSynchronized
  subst hsz
  have hD := hD0.self (sz := s.heap.size)
  generalize hAe : va_A [(x, .inr (10, [.ref w, .ref sp, .ref sv, .ref bu, .int 0, .int 0])), (w, .inr (9, [.int 0, .ref w_se, .ref w_cu, .ref w_pr, .int 0, .ref w_ch, .ref w_re, .ref w_lo]))] s.heap.size = A at hD hX ⊢
  have hA : ∀ q : Nat, s.heap.size ≤ q → A q := fun q h => by rw [← hAe]; exact Or.inr h
  have hS : va_S A s.heap s.heap [] := va_S.rf
  have hl := lv_entry ([.ref x, .int p1]) (n := 2) (Nat.le_of_ble_eq_true rfl)
  rw [lg_entry_eq]
  generalize (lg_sl ([.ref x, .int p1]) ++ List.replicate (2 - (lg_sl ([.ref x, .int p1])).length) Slot.unset).toArray = ls at hl ⊢
  have hl : lv_has ls 2 [(0, .ref x), (1, .int p1)] := hl
  refine lv_iload_n hx hb dX10_inState_0 rfl (lv_at hl 1 rfl) ?_
  refine lv_iconst (v := 0) hx hb dX10_inState_1 (by decide) ?_
  refine lv_iconst (v := 4) hx hb dX10_inState_2 (by decide) ?_
  refine cm_xv (wr := [(x, .inr (10, [.ref w, .ref sp, .ref sv, .ref bu, .int 0, .int 0])), (w, .inr (9, [.int 0, .ref w_se, .ref w_cu, .ref w_pr, .int 0, .ref w_ch, .ref w_re, .ref w_lo]))]) (vx_runS (As := [.int p1, .int 0, .int 4]) (rest := []) ⟨hx, hb, hml, hown, hts⟩ (c_needRange l hfl D ct p1 0 4 _) (cm_S 3 hts kc_X10_needRange ki_RX10 kl_RX10_81 ks_X10_needRange kd_X10_needRange ⟨Nat.le_of_ble_eq_true rfl, Nat.le_of_ble_eq_true rfl⟩) (cm_preS hP hK hD hS hA hX [] rfl rfl rfl) rfl rfl hl.1 rfl (lv_room (Nat.le_of_ble_eq_true rfl)) dX10_inState_3 ⟨Nat.le_of_ble_eq_true rfl, Nat.le_of_ble_eq_true rfl⟩) hP hD hS hA [] [0, 1] rfl rfl rfl (by decide) (fun E ce q9 u H locs hu hE hP hD hS hce hcv hcl => ?_) (fun u H locs hw_2 hP hD hS => ?_)
  · subst hE
    have hu : p1 < 0 ∨ 4 < p1 := hu
    have hP : va_P D vwCl [(x, .inr (10, [.ref w, .ref sp, .ref sv, .ref bu, .int 0, .int 0])), (w, .inr (9, [.int 0, .ref w_se, .ref w_cu, .ref w_pr, .int 0, .ref w_ch, .ref w_re, .ref w_lo]))] H := hP
    have hD : va_D A [(x, .inr (10, [.ref w, .ref sp, .ref sv, .ref bu, .int 0, .int 0])), (w, .inr (9, [.int 0, .ref w_se, .ref w_cu, .ref w_pr, .int 0, .ref w_ch, .ref w_re, .ref w_lo]))] := hD
    have hP9 := hP.sub (ws' := [(x, .inr (10, [.ref w, .ref sp, .ref sv, .ref bu, .int 0, .int 0])), (w, .inr (9, [.int 0, .ref w_se, .ref w_cu, .ref w_pr, .int 0, .ref w_ch, .ref w_re, .ref w_lo]))]) [0, 1] rfl
    have hD9 := hD.sub (ws' := [(x, .inr (10, [.ref w, .ref sp, .ref sv, .ref bu, .int 0, .int 0])), (w, .inr (9, [.int 0, .ref w_se, .ref w_cu, .ref w_pr, .int 0, .ref w_ch, .ref w_re, .ref w_lo]))]) [0, 1] (by decide) rfl
    exact vx_out (fun x hx => (hex x hx).elim) hlocks hce hcv hcl (fun t ht hW => ⟨(), hu, ⟨rfl, by rw [ht]; exact hP9, by rw [hAe]; exact hD9⟩, hS.F ht⟩) hS.2.2 (Nat.le_of_ble_eq_true rfl) (Nat.le_of_ble_eq_true rfl)
  · have hw_2 : 0 ≤ p1 ∧ p1 ≤ 4 := hw_2
    have hP : va_P D vwCl [(x, .inr (10, [.ref w, .ref sp, .ref sv, .ref bu, .int 0, .int 0])), (w, .inr (9, [.int 0, .ref w_se, .ref w_cu, .ref w_pr, .int 0, .ref w_ch, .ref w_re, .ref w_lo]))] H := hP
    have hD : va_D A [(x, .inr (10, [.ref w, .ref sp, .ref sv, .ref bu, .int 0, .int 0])), (w, .inr (9, [.int 0, .ref w_se, .ref w_cu, .ref w_pr, .int 0, .ref w_ch, .ref w_re, .ref w_lo]))] := hD
    refine W.widen (k := 1) (n := 6) (Nat.le_of_ble_eq_true rfl) (Nat.le_of_ble_eq_true rfl) ?_
    refine lv_aload_n hx hb dX10_inState_6 rfl (lv_at hl 0 rfl) ?_
    refine va_get (v := .ref w) (D := D) (ci := 10) (C := RX10) (T := TX10) (N := 6) hx hb hts in_X10 hown hK hP 0 rfl rfl 0 (by decide) (hts _ kl_RX10_10) (fun _ h9 => h9) rfl dX10_inState_7 ?_
    refine lv_iload_n hx hb dX10_inState_10 rfl (lv_at hl 1 rfl) ?_
    refine cm_ki (wr := [(x, .inr (10, [.ref w, .ref sp, .ref sv, .ref bu, .int 0, .int 0]))]) (va_runVN (As := [.int p1]) (rest := []) ⟨hx, hb, hml, hown, hts⟩ (c_channelsIn_0 l D ct w w_se w_cu w_pr w_ch w_re w_lo p1 _) (cm_VN 1 hts kc_X9_channelsIn ki_RX9 kl_RX10_183 kv_X9_channelsIn kx_X9_channelsIn kd_X9_channelsIn ⟨Nat.le_of_ble_eq_true rfl, Nat.le_of_ble_eq_true rfl⟩) (cm_preV hP hK hD hS hA hX [1] rfl rfl rfl (q0 := 1) (ci := 9) rfl rfl) rfl rfl hl.1 rfl (lv_room (Nat.le_of_ble_eq_true rfl)) dX10_inState_11 ⟨Nat.le_of_ble_eq_true rfl, Nat.le_of_ble_eq_true rfl⟩) hP hD hS hA [1] [0] rfl rfl rfl (by decide) (fun r_3 u H locs hw_4 hP hD hS => ?_)
    have hw_4 : r_3 = 0 := hw_4
    obtain rfl := hw_4
    have hP : va_P D vwCl [(x, .inr (10, [.ref w, .ref sp, .ref sv, .ref bu, .int 0, .int 0])), (w, .inr (9, [.int 0, .ref w_se, .ref w_cu, .ref w_pr, .int 0, .ref w_ch, .ref w_re, .ref w_lo]))] H := hP
    have hD : va_D A [(x, .inr (10, [.ref w, .ref sp, .ref sv, .ref bu, .int 0, .int 0])), (w, .inr (9, [.int 0, .ref w_se, .ref w_cu, .ref w_pr, .int 0, .ref w_ch, .ref w_re, .ref w_lo]))] := hD
    have hP9 := hP.sub (ws' := [(x, .inr (10, [.ref w, .ref sp, .ref sv, .ref bu, .int 0, .int 0])), (w, .inr (9, [.int 0, .ref w_se, .ref w_cu, .ref w_pr, .int 0, .ref w_ch, .ref w_re, .ref w_lo]))]) [0, 1] rfl
    have hD9 := hD.sub (ws' := [(x, .inr (10, [.ref w, .ref sp, .ref sv, .ref bu, .int 0, .int 0])), (w, .inr (9, [.int 0, .ref w_se, .ref w_cu, .ref w_pr, .int 0, .ref w_ch, .ref w_re, .ref w_lo]))]) [0, 1] (by decide) rfl
    refine vx_ret ?_
    exact W.iret (v := 0) hx hb hr (fun t ht hW => ⟨⟨0, (), rfl, ⟨rfl, hw_2⟩, by rw [ht]; exact hP9, by rw [hAe]; exact hD9⟩, hS.F ht⟩) hS.2.2 dX10_inState_14
theorem dX10_record_0 : decode cX10_record 0 = .ok (.iload_n 2, 1) := by decide +kernel
theorem dX10_record_1 : decode cX10_record 1 = .ok (.iconst 0, 1) := by decide +kernel
theorem dX10_record_2 : decode cX10_record 2 = .ok (.iconst 5, 1) := by decide +kernel
theorem dX10_record_3 : decode cX10_record 3 = .ok (.invokestatic 81, 3) := by decide +kernel
theorem dX10_record_6 : decode cX10_record 6 = .ok (.aload_n 0, 1) := by decide +kernel
theorem dX10_record_7 : decode cX10_record 7 = .ok (.getfield 10, 3) := by decide +kernel
theorem dX10_record_10 : decode cX10_record 10 = .ok (.getfield 302, 3) := by decide +kernel
theorem dX10_record_13 : decode cX10_record 13 = .ok (.astore_n 3, 1) := by decide +kernel
theorem dX10_record_14 : decode cX10_record 14 = .ok (.iload_n 1, 1) := by decide +kernel
theorem dX10_record_15 : decode cX10_record 15 = .ok (.ifCond .lt 11, 3) := by decide +kernel
theorem dX10_record_18 : decode cX10_record 18 = .ok (.iload_n 1, 1) := by decide +kernel
theorem dX10_record_19 : decode cX10_record 19 = .ok (.aload_n 3, 1) := by decide +kernel
theorem dX10_record_20 : decode cX10_record 20 = .ok (.getfield 306, 3) := by decide +kernel
theorem dX10_record_23 : decode cX10_record 23 = .ok (.if_icmp .lt 5, 3) := by decide +kernel
theorem dX10_record_26 : decode cX10_record 26 = .ok (.iconst (-1), 1) := by decide +kernel
theorem dX10_record_27 : decode cX10_record 27 = .ok (.ireturn, 1) := by decide +kernel
set_option maxRecDepth 100000 in
set_option maxHeartbeats 4000000 in
theorem c_record_0 (l : Launch) (hfl : l.stackTraces = false) (D : va_G) (ct : Nat → ClassId) (x : Nat) (w : Nat) (sp : Nat) (sv : Nat) (bu : Nat) (w_se : Nat) (w_cu : Nat) (w_pr : Nat) (w_ch : Nat) (w_re : Nat) (w_lo : Nat) (w_ra : Nat) (p1 : Int32) (p2 : Int32) (sz : Nat) : vx_Met l yX10_record (ws_ yX10_record cX10_record 4 (some .int)) ({ frames := 7, cells := 1, slots := 6, locals := 112 } : Room) (va_Pc [.ref x, .int p1, .int p2] (cmP D ct sz [(x, .inr (10, [.ref w, .ref sp, .ref sv, .ref bu, .int 0, .int 0])), (w, .inr (9, [.int 0, .ref w_se, .ref w_cu, .ref w_pr, .int 0, .ref w_ch, .ref w_re, .ref w_lo])), (w_re, .inr (8, [.int 30, .int 5, .ref w_ra, .int 0, .int 0]))])) (va_Qi (fun (r : Int32) (_ : Unit) => r = (-1) ∧ 0 ≤ p2 ∧ p2 ≤ 5) (cmB D [(x, .inr (10, [.ref w, .ref sp, .ref sv, .ref bu, .int 0, .int 0])), (w, .inr (9, [.int 0, .ref w_se, .ref w_cu, .ref w_pr, .int 0, .ref w_ch, .ref w_re, .ref w_lo])), (w_re, .inr (8, [.int 30, .int 5, .ref w_ra, .int 0, .int 0]))] sz (fun _ : Unit => [(x, .inr (10, [.ref w, .ref sp, .ref sv, .ref bu, .int 0, .int 0])), (w, .inr (9, [.int 0, .ref w_se, .ref w_cu, .ref w_pr, .int 0, .ref w_ch, .ref w_re, .ref w_lo])), (w_re, .inr (8, [.int 30, .int 5, .ref w_ra, .int 0, .int 0]))])) (va_A [(x, .inr (10, [.ref w, .ref sp, .ref sv, .ref bu, .int 0, .int 0])), (w, .inr (9, [.int 0, .ref w_se, .ref w_cu, .ref w_pr, .int 0, .ref w_ch, .ref w_re, .ref w_lo])), (w_re, .inr (8, [.int 30, .int 5, .ref w_ra, .int 0, .int 0]))] sz)) (vx_X (fun _ : Unit => p2 < 0 ∨ 5 < p2) (cmBX D [(x, .inr (10, [.ref w, .ref sp, .ref sv, .ref bu, .int 0, .int 0])), (w, .inr (9, [.int 0, .ref w_se, .ref w_cu, .ref w_pr, .int 0, .ref w_ch, .ref w_re, .ref w_lo])), (w_re, .inr (8, [.int 30, .int 5, .ref w_ra, .int 0, .int 0]))] sz "java/lang/IllegalArgumentException" (fun _ : Unit => [(x, .inr (10, [.ref w, .ref sp, .ref sv, .ref bu, .int 0, .int 0])), (w, .inr (9, [.int 0, .ref w_se, .ref w_cu, .ref w_pr, .int 0, .ref w_ch, .ref w_re, .ref w_lo])), (w_re, .inr (8, [.int 30, .int 5, .ref w_ra, .int 0, .int 0]))])) (va_A [(x, .inr (10, [.ref w, .ref sp, .ref sv, .ref bu, .int 0, .int 0])), (w, .inr (9, [.int 0, .ref w_se, .ref w_cu, .ref w_pr, .int 0, .ref w_ch, .ref w_re, .ref w_lo])), (w_re, .inr (8, [.int 30, .int 5, .ref w_ra, .int 0, .int 0]))] sz)) 1 6 (va_A [(x, .inr (10, [.ref w, .ref sp, .ref sv, .ref bu, .int 0, .int 0])), (w, .inr (9, [.int 0, .ref w_se, .ref w_cu, .ref w_pr, .int 0, .ref w_ch, .ref w_re, .ref w_lo])), (w_re, .inr (8, [.int 30, .int 5, .ref w_ra, .int 0, .int 0]))] sz) := by
  refine vx_ofW (cc := cX10_record) (maxL := 4) (ret := (some .int)) (by decide) rfl ?_
  intro p e s m args below meth c s₁ B hml hex hv
  obtain ⟨rfl, hsz, hP, hK, hD0, hX⟩ := hv
  have hx := B.exec
  have hb := B.bytes
  have hr := B.returns
  have hts := ws_all (atoms_spec (ws := ws_ yX10_record cX10_record 4 (some .int)) B.pre)
  have hown : s.vm.findClass RX10 = some m.cls := findClass_of_methodNamed B.named
  have hlocks := B.notSynchronized
  subst hsz
  have hD := hD0.self (sz := s.heap.size)
  generalize hAe : va_A [(x, .inr (10, [.ref w, .ref sp, .ref sv, .ref bu, .int 0, .int 0])), (w, .inr (9, [.int 0, .ref w_se, .ref w_cu, .ref w_pr, .int 0, .ref w_ch, .ref w_re, .ref w_lo])), (w_re, .inr (8, [.int 30, .int 5, .ref w_ra, .int 0, .int 0]))] s.heap.size = A at hD hX ⊢
  have hA : ∀ q : Nat, s.heap.size ≤ q → A q := fun q h => by rw [← hAe]; exact Or.inr h
  have hS : va_S A s.heap s.heap [] := va_S.rf
  have hl := lv_entry ([.ref x, .int p1, .int p2]) (n := 4) (Nat.le_of_ble_eq_true rfl)
  rw [lg_entry_eq]
  generalize (lg_sl ([.ref x, .int p1, .int p2]) ++ List.replicate (4 - (lg_sl ([.ref x, .int p1, .int p2])).length) Slot.unset).toArray = ls at hl ⊢
  have hl : lv_has ls 4 [(0, .ref x), (1, .int p1), (2, .int p2)] := hl
  refine lv_iload_n hx hb dX10_record_0 rfl (lv_at hl 2 rfl) ?_
  refine lv_iconst (v := 0) hx hb dX10_record_1 (by decide) ?_
  refine lv_iconst (v := 5) hx hb dX10_record_2 (by decide) ?_
  refine cm_xv (wr := [(x, .inr (10, [.ref w, .ref sp, .ref sv, .ref bu, .int 0, .int 0])), (w, .inr (9, [.int 0, .ref w_se, .ref w_cu, .ref w_pr, .int 0, .ref w_ch, .ref w_re, .ref w_lo])), (w_re, .inr (8, [.int 30, .int 5, .ref w_ra, .int 0, .int 0]))]) (vx_runS (As := [.int p2, .int 0, .int 5]) (rest := []) ⟨hx, hb, hml, hown, hts⟩ (c_needRange l hfl D ct p2 0 5 _) (cm_S 3 hts kc_X10_needRange ki_RX10 kl_RX10_81 ks_X10_needRange kd_X10_needRange ⟨Nat.le_of_ble_eq_true rfl, Nat.le_of_ble_eq_true rfl⟩) (cm_preS hP hK hD hS hA hX [] rfl rfl rfl) rfl rfl hl.1 rfl (lv_room (Nat.le_of_ble_eq_true rfl)) dX10_record_3 ⟨Nat.le_of_ble_eq_true rfl, Nat.le_of_ble_eq_true rfl⟩) hP hD hS hA [] [0, 1, 2] rfl rfl rfl (by decide) (fun E ce q9 u H locs hu hE hP hD hS hce hcv hcl => ?_) (fun u H locs hw_2 hP hD hS => ?_)
  · subst hE
    have hu : p2 < 0 ∨ 5 < p2 := hu
    have hP : va_P D vwCl [(x, .inr (10, [.ref w, .ref sp, .ref sv, .ref bu, .int 0, .int 0])), (w, .inr (9, [.int 0, .ref w_se, .ref w_cu, .ref w_pr, .int 0, .ref w_ch, .ref w_re, .ref w_lo])), (w_re, .inr (8, [.int 30, .int 5, .ref w_ra, .int 0, .int 0]))] H := hP
    have hD : va_D A [(x, .inr (10, [.ref w, .ref sp, .ref sv, .ref bu, .int 0, .int 0])), (w, .inr (9, [.int 0, .ref w_se, .ref w_cu, .ref w_pr, .int 0, .ref w_ch, .ref w_re, .ref w_lo])), (w_re, .inr (8, [.int 30, .int 5, .ref w_ra, .int 0, .int 0]))] := hD
    have hP9 := hP.sub (ws' := [(x, .inr (10, [.ref w, .ref sp, .ref sv, .ref bu, .int 0, .int 0])), (w, .inr (9, [.int 0, .ref w_se, .ref w_cu, .ref w_pr, .int 0, .ref w_ch, .ref w_re, .ref w_lo])), (w_re, .inr (8, [.int 30, .int 5, .ref w_ra, .int 0, .int 0]))]) [0, 1, 2] rfl
    have hD9 := hD.sub (ws' := [(x, .inr (10, [.ref w, .ref sp, .ref sv, .ref bu, .int 0, .int 0])), (w, .inr (9, [.int 0, .ref w_se, .ref w_cu, .ref w_pr, .int 0, .ref w_ch, .ref w_re, .ref w_lo])), (w_re, .inr (8, [.int 30, .int 5, .ref w_ra, .int 0, .int 0]))]) [0, 1, 2] (by decide) rfl
    exact vx_out (fun x hx => (hex x hx).elim) hlocks hce hcv hcl (fun t ht hW => ⟨(), hu, ⟨rfl, by rw [ht]; exact hP9, by rw [hAe]; exact hD9⟩, hS.F ht⟩) hS.2.2 (Nat.le_of_ble_eq_true rfl) (Nat.le_of_ble_eq_true rfl)
  · have hw_2 : 0 ≤ p2 ∧ p2 ≤ 5 := hw_2
    have hP : va_P D vwCl [(x, .inr (10, [.ref w, .ref sp, .ref sv, .ref bu, .int 0, .int 0])), (w, .inr (9, [.int 0, .ref w_se, .ref w_cu, .ref w_pr, .int 0, .ref w_ch, .ref w_re, .ref w_lo])), (w_re, .inr (8, [.int 30, .int 5, .ref w_ra, .int 0, .int 0]))] H := hP
    have hD : va_D A [(x, .inr (10, [.ref w, .ref sp, .ref sv, .ref bu, .int 0, .int 0])), (w, .inr (9, [.int 0, .ref w_se, .ref w_cu, .ref w_pr, .int 0, .ref w_ch, .ref w_re, .ref w_lo])), (w_re, .inr (8, [.int 30, .int 5, .ref w_ra, .int 0, .int 0]))] := hD
    refine W.widen (k := 1) (n := 6) (Nat.le_of_ble_eq_true rfl) (Nat.le_of_ble_eq_true rfl) ?_
    refine lv_aload_n hx hb dX10_record_6 rfl (lv_at hl 0 rfl) ?_
    refine va_get (v := .ref w) (D := D) (ci := 10) (C := RX10) (T := TX10) (N := 6) hx hb hts in_X10 hown hK hP 0 rfl rfl 0 (by decide) (hts _ kl_RX10_10) (fun _ h9 => h9) rfl dX10_record_7 ?_
    refine va_getN (v := .ref w_re) (D := D) (ci := 9) (C := RX9) (T := TX9) (N := 8) hx hb hts in_X9 hown hK hP 1 rfl rfl 6 (by decide) (hts _ kl_RX10_302) (fun _ h9 => h9) rfl dX10_record_10 ?_
    refine lv_astore_n (lv' := [(3, .ref w_re), (0, .ref x), (1, .int p1), (2, .int p2)]) hx hb dX10_record_13 rfl hl (by decide) rfl (fun ls hl => ?_)
    refine lv_iload_n hx hb dX10_record_14 rfl (lv_at hl 2 rfl) ?_
    refine lv_if_lt (tgt := 26) hx hb dX10_record_15 (by decide) (fun hc_3 => ?_) (fun hc_3 => ?_)
    · refine lv_iconst (v := (-1)) hx hb dX10_record_26 (by decide) ?_
      have hP9 := hP.sub (ws' := [(x, .inr (10, [.ref w, .ref sp, .ref sv, .ref bu, .int 0, .int 0])), (w, .inr (9, [.int 0, .ref w_se, .ref w_cu, .ref w_pr, .int 0, .ref w_ch, .ref w_re, .ref w_lo])), (w_re, .inr (8, [.int 30, .int 5, .ref w_ra, .int 0, .int 0]))]) [0, 1, 2] rfl
      have hD9 := hD.sub (ws' := [(x, .inr (10, [.ref w, .ref sp, .ref sv, .ref bu, .int 0, .int 0])), (w, .inr (9, [.int 0, .ref w_se, .ref w_cu, .ref w_pr, .int 0, .ref w_ch, .ref w_re, .ref w_lo])), (w_re, .inr (8, [.int 30, .int 5, .ref w_ra, .int 0, .int 0]))]) [0, 1, 2] (by decide) rfl
      refine vx_ret ?_
      exact W.iret (v := (-1)) hx hb hr (fun t ht hW => ⟨⟨(-1), (), rfl, ⟨rfl, hw_2⟩, by rw [ht]; exact hP9, by rw [hAe]; exact hD9⟩, hS.F ht⟩) hS.2.2 dX10_record_27
    · refine lv_iload_n hx hb dX10_record_18 rfl (lv_at hl 2 rfl) ?_
      refine lv_aload_n hx hb dX10_record_19 rfl (lv_at hl 0 rfl) ?_
      refine va_getN (v := .int 0) (D := D) (ci := 8) (C := RX8) (T := TX8) (N := 5) hx hb hts in_X8 hown hK hP 2 rfl rfl 4 (by decide) (hts _ kl_RX10_306) (fun _ h9 => h9) rfl dX10_record_20 ?_
      refine lv_icmp_lt (tgt := 28) hx hb dX10_record_23 (by decide) (fun hc => absurd hc hc_3) (fun _ => ?_)
      refine lv_iconst (v := (-1)) hx hb dX10_record_26 (by decide) ?_
      have hP9 := hP.sub (ws' := [(x, .inr (10, [.ref w, .ref sp, .ref sv, .ref bu, .int 0, .int 0])), (w, .inr (9, [.int 0, .ref w_se, .ref w_cu, .ref w_pr, .int 0, .ref w_ch, .ref w_re, .ref w_lo])), (w_re, .inr (8, [.int 30, .int 5, .ref w_ra, .int 0, .int 0]))]) [0, 1, 2] rfl
      have hD9 := hD.sub (ws' := [(x, .inr (10, [.ref w, .ref sp, .ref sv, .ref bu, .int 0, .int 0])), (w, .inr (9, [.int 0, .ref w_se, .ref w_cu, .ref w_pr, .int 0, .ref w_ch, .ref w_re, .ref w_lo])), (w_re, .inr (8, [.int 30, .int 5, .ref w_ra, .int 0, .int 0]))]) [0, 1, 2] (by decide) rfl
      refine vx_ret ?_
      exact W.iret (v := (-1)) hx hb hr (fun t ht hW => ⟨⟨(-1), (), rfl, ⟨rfl, hw_2⟩, by rw [ht]; exact hP9, by rw [hAe]; exact hD9⟩, hS.F ht⟩) hS.2.2 dX10_record_27
theorem dX10_logEntry_0 : decode cX10_logEntry 0 = .ok (.iload_n 2, 1) := by decide +kernel
theorem dX10_logEntry_1 : decode cX10_logEntry 1 = .ok (.iconst 0, 1) := by decide +kernel
theorem dX10_logEntry_2 : decode cX10_logEntry 2 = .ok (.iconst 3, 1) := by decide +kernel
theorem dX10_logEntry_3 : decode cX10_logEntry 3 = .ok (.invokestatic 81, 3) := by decide +kernel
theorem dX10_logEntry_6 : decode cX10_logEntry 6 = .ok (.iload_n 1, 1) := by decide +kernel
theorem dX10_logEntry_7 : decode cX10_logEntry 7 = .ok (.ifCond .lt 17, 3) := by decide +kernel
theorem dX10_logEntry_10 : decode cX10_logEntry 10 = .ok (.iload_n 1, 1) := by decide +kernel
theorem dX10_logEntry_11 : decode cX10_logEntry 11 = .ok (.aload_n 0, 1) := by decide +kernel
theorem dX10_logEntry_12 : decode cX10_logEntry 12 = .ok (.getfield 10, 3) := by decide +kernel
theorem dX10_logEntry_15 : decode cX10_logEntry 15 = .ok (.getfield 318, 3) := by decide +kernel
theorem dX10_logEntry_18 : decode cX10_logEntry 18 = .ok (.getfield 306, 3) := by decide +kernel
theorem dX10_logEntry_21 : decode cX10_logEntry 21 = .ok (.if_icmp .lt 7, 3) := by decide +kernel
theorem dX10_logEntry_24 : decode cX10_logEntry 24 = .ok (.iconst (-1), 1) := by decide +kernel
theorem dX10_logEntry_25 : decode cX10_logEntry 25 = .ok (.goto 15, 3) := by decide +kernel
theorem dX10_logEntry_40 : decode cX10_logEntry 40 = .ok (.ireturn, 1) := by decide +kernel
set_option maxRecDepth 100000 in
set_option maxHeartbeats 4000000 in
theorem c_logEntry_0 (l : Launch) (hfl : l.stackTraces = false) (D : va_G) (ct : Nat → ClassId) (x : Nat) (w : Nat) (sp : Nat) (sv : Nat) (bu : Nat) (w_se : Nat) (w_cu : Nat) (w_pr : Nat) (w_ch : Nat) (w_re : Nat) (w_lo : Nat) (w_la : Nat) (p1 : Int32) (p2 : Int32) (sz : Nat) : vx_Met l yX10_logEntry (ws_ yX10_logEntry cX10_logEntry 3 (some .int)) ({ frames := 7, cells := 1, slots := 6, locals := 112 } : Room) (va_Pc [.ref x, .int p1, .int p2] (cmP D ct sz [(x, .inr (10, [.ref w, .ref sp, .ref sv, .ref bu, .int 0, .int 0])), (w, .inr (9, [.int 0, .ref w_se, .ref w_cu, .ref w_pr, .int 0, .ref w_ch, .ref w_re, .ref w_lo])), (w_lo, .inr (8, [.int 60, .int 4, .ref w_la, .int 0, .int 0]))])) (va_Qi (fun (r : Int32) (_ : Unit) => r = (-1) ∧ 0 ≤ p2 ∧ p2 ≤ 3) (cmB D [(x, .inr (10, [.ref w, .ref sp, .ref sv, .ref bu, .int 0, .int 0])), (w, .inr (9, [.int 0, .ref w_se, .ref w_cu, .ref w_pr, .int 0, .ref w_ch, .ref w_re, .ref w_lo])), (w_lo, .inr (8, [.int 60, .int 4, .ref w_la, .int 0, .int 0]))] sz (fun _ : Unit => [(x, .inr (10, [.ref w, .ref sp, .ref sv, .ref bu, .int 0, .int 0])), (w, .inr (9, [.int 0, .ref w_se, .ref w_cu, .ref w_pr, .int 0, .ref w_ch, .ref w_re, .ref w_lo])), (w_lo, .inr (8, [.int 60, .int 4, .ref w_la, .int 0, .int 0]))])) (va_A [(x, .inr (10, [.ref w, .ref sp, .ref sv, .ref bu, .int 0, .int 0])), (w, .inr (9, [.int 0, .ref w_se, .ref w_cu, .ref w_pr, .int 0, .ref w_ch, .ref w_re, .ref w_lo])), (w_lo, .inr (8, [.int 60, .int 4, .ref w_la, .int 0, .int 0]))] sz)) (vx_X (fun _ : Unit => p2 < 0 ∨ 3 < p2) (cmBX D [(x, .inr (10, [.ref w, .ref sp, .ref sv, .ref bu, .int 0, .int 0])), (w, .inr (9, [.int 0, .ref w_se, .ref w_cu, .ref w_pr, .int 0, .ref w_ch, .ref w_re, .ref w_lo])), (w_lo, .inr (8, [.int 60, .int 4, .ref w_la, .int 0, .int 0]))] sz "java/lang/IllegalArgumentException" (fun _ : Unit => [(x, .inr (10, [.ref w, .ref sp, .ref sv, .ref bu, .int 0, .int 0])), (w, .inr (9, [.int 0, .ref w_se, .ref w_cu, .ref w_pr, .int 0, .ref w_ch, .ref w_re, .ref w_lo])), (w_lo, .inr (8, [.int 60, .int 4, .ref w_la, .int 0, .int 0]))])) (va_A [(x, .inr (10, [.ref w, .ref sp, .ref sv, .ref bu, .int 0, .int 0])), (w, .inr (9, [.int 0, .ref w_se, .ref w_cu, .ref w_pr, .int 0, .ref w_ch, .ref w_re, .ref w_lo])), (w_lo, .inr (8, [.int 60, .int 4, .ref w_la, .int 0, .int 0]))] sz)) 1 6 (va_A [(x, .inr (10, [.ref w, .ref sp, .ref sv, .ref bu, .int 0, .int 0])), (w, .inr (9, [.int 0, .ref w_se, .ref w_cu, .ref w_pr, .int 0, .ref w_ch, .ref w_re, .ref w_lo])), (w_lo, .inr (8, [.int 60, .int 4, .ref w_la, .int 0, .int 0]))] sz) := by
  refine vx_ofW (cc := cX10_logEntry) (maxL := 3) (ret := (some .int)) (by decide) rfl ?_
  intro p e s m args below meth c s₁ B hml hex hv
  obtain ⟨rfl, hsz, hP, hK, hD0, hX⟩ := hv
  have hx := B.exec
  have hb := B.bytes
  have hr := B.returns
  have hts := ws_all (atoms_spec (ws := ws_ yX10_logEntry cX10_logEntry 3 (some .int)) B.pre)
  have hown : s.vm.findClass RX10 = some m.cls := findClass_of_methodNamed B.named
  have hlocks := B.notSynchronized
  subst hsz
  have hD := hD0.self (sz := s.heap.size)
  generalize hAe : va_A [(x, .inr (10, [.ref w, .ref sp, .ref sv, .ref bu, .int 0, .int 0])), (w, .inr (9, [.int 0, .ref w_se, .ref w_cu, .ref w_pr, .int 0, .ref w_ch, .ref w_re, .ref w_lo])), (w_lo, .inr (8, [.int 60, .int 4, .ref w_la, .int 0, .int 0]))] s.heap.size = A at hD hX ⊢
  have hA : ∀ q : Nat, s.heap.size ≤ q → A q := fun q h => by rw [← hAe]; exact Or.inr h
  have hS : va_S A s.heap s.heap [] := va_S.rf
  have hl := lv_entry ([.ref x, .int p1, .int p2]) (n := 3) (Nat.le_of_ble_eq_true rfl)
  rw [lg_entry_eq]
  generalize (lg_sl ([.ref x, .int p1, .int p2]) ++ List.replicate (3 - (lg_sl ([.ref x, .int p1, .int p2])).length) Slot.unset).toArray = ls at hl ⊢
  have hl : lv_has ls 3 [(0, .ref x), (1, .int p1), (2, .int p2)] := hl
  refine lv_iload_n hx hb dX10_logEntry_0 rfl (lv_at hl 2 rfl) ?_
  refine lv_iconst (v := 0) hx hb dX10_logEntry_1 (by decide) ?_
  refine lv_iconst (v := 3) hx hb dX10_logEntry_2 (by decide) ?_
  refine cm_xv (wr := [(x, .inr (10, [.ref w, .ref sp, .ref sv, .ref bu, .int 0, .int 0])), (w, .inr (9, [.int 0, .ref w_se, .ref w_cu, .ref w_pr, .int 0, .ref w_ch, .ref w_re, .ref w_lo])), (w_lo, .inr (8, [.int 60, .int 4, .ref w_la, .int 0, .int 0]))]) (vx_runS (As := [.int p2, .int 0, .int 3]) (rest := []) ⟨hx, hb, hml, hown, hts⟩ (c_needRange l hfl D ct p2 0 3 _) (cm_S 3 hts kc_X10_needRange ki_RX10 kl_RX10_81 ks_X10_needRange kd_X10_needRange ⟨Nat.le_of_ble_eq_true rfl, Nat.le_of_ble_eq_true rfl⟩) (cm_preS hP hK hD hS hA hX [] rfl rfl rfl) rfl rfl hl.1 rfl (lv_room (Nat.le_of_ble_eq_true rfl)) dX10_logEntry_3 ⟨Nat.le_of_ble_eq_true rfl, Nat.le_of_ble_eq_true rfl⟩) hP hD hS hA [] [0, 1, 2] rfl rfl rfl (by decide) (fun E ce q9 u H locs hu hE hP hD hS hce hcv hcl => ?_) (fun u H locs hw_2 hP hD hS => ?_)
  · subst hE
    have hu : p2 < 0 ∨ 3 < p2 := hu
    have hP : va_P D vwCl [(x, .inr (10, [.ref w, .ref sp, .ref sv, .ref bu, .int 0, .int 0])), (w, .inr (9, [.int 0, .ref w_se, .ref w_cu, .ref w_pr, .int 0, .ref w_ch, .ref w_re, .ref w_lo])), (w_lo, .inr (8, [.int 60, .int 4, .ref w_la, .int 0, .int 0]))] H := hP
    have hD : va_D A [(x, .inr (10, [.ref w, .ref sp, .ref sv, .ref bu, .int 0, .int 0])), (w, .inr (9, [.int 0, .ref w_se, .ref w_cu, .ref w_pr, .int 0, .ref w_ch, .ref w_re, .ref w_lo])), (w_lo, .inr (8, [.int 60, .int 4, .ref w_la, .int 0, .int 0]))] := hD
    have hP9 := hP.sub (ws' := [(x, .inr (10, [.ref w, .ref sp, .ref sv, .ref bu, .int 0, .int 0])), (w, .inr (9, [.int 0, .ref w_se, .ref w_cu, .ref w_pr, .int 0, .ref w_ch, .ref w_re, .ref w_lo])), (w_lo, .inr (8, [.int 60, .int 4, .ref w_la, .int 0, .int 0]))]) [0, 1, 2] rfl
    have hD9 := hD.sub (ws' := [(x, .inr (10, [.ref w, .ref sp, .ref sv, .ref bu, .int 0, .int 0])), (w, .inr (9, [.int 0, .ref w_se, .ref w_cu, .ref w_pr, .int 0, .ref w_ch, .ref w_re, .ref w_lo])), (w_lo, .inr (8, [.int 60, .int 4, .ref w_la, .int 0, .int 0]))]) [0, 1, 2] (by decide) rfl
    exact vx_out (fun x hx => (hex x hx).elim) hlocks hce hcv hcl (fun t ht hW => ⟨(), hu, ⟨rfl, by rw [ht]; exact hP9, by rw [hAe]; exact hD9⟩, hS.F ht⟩) hS.2.2 (Nat.le_of_ble_eq_true rfl) (Nat.le_of_ble_eq_true rfl)
  · have hw_2 : 0 ≤ p2 ∧ p2 ≤ 3 := hw_2
    have hP : va_P D vwCl [(x, .inr (10, [.ref w, .ref sp, .ref sv, .ref bu, .int 0, .int 0])), (w, .inr (9, [.int 0, .ref w_se, .ref w_cu, .ref w_pr, .int 0, .ref w_ch, .ref w_re, .ref w_lo])), (w_lo, .inr (8, [.int 60, .int 4, .ref w_la, .int 0, .int 0]))] H := hP
    have hD : va_D A [(x, .inr (10, [.ref w, .ref sp, .ref sv, .ref bu, .int 0, .int 0])), (w, .inr (9, [.int 0, .ref w_se, .ref w_cu, .ref w_pr, .int 0, .ref w_ch, .ref w_re, .ref w_lo])), (w_lo, .inr (8, [.int 60, .int 4, .ref w_la, .int 0, .int 0]))] := hD
    refine W.widen (k := 1) (n := 6) (Nat.le_of_ble_eq_true rfl) (Nat.le_of_ble_eq_true rfl) ?_
    refine lv_iload_n hx hb dX10_logEntry_6 rfl (lv_at hl 1 rfl) ?_
    refine lv_if_lt (tgt := 24) hx hb dX10_logEntry_7 (by decide) (fun hc_3 => ?_) (fun hc_3 => ?_)
    · refine lv_iconst (v := (-1)) hx hb dX10_logEntry_24 (by decide) ?_
      refine lv_goto (tgt := 40) hx hb dX10_logEntry_25 (by decide) ?_
      have hP9 := hP.sub (ws' := [(x, .inr (10, [.ref w, .ref sp, .ref sv, .ref bu, .int 0, .int 0])), (w, .inr (9, [.int 0, .ref w_se, .ref w_cu, .ref w_pr, .int 0, .ref w_ch, .ref w_re, .ref w_lo])), (w_lo, .inr (8, [.int 60, .int 4, .ref w_la, .int 0, .int 0]))]) [0, 1, 2] rfl
      have hD9 := hD.sub (ws' := [(x, .inr (10, [.ref w, .ref sp, .ref sv, .ref bu, .int 0, .int 0])), (w, .inr (9, [.int 0, .ref w_se, .ref w_cu, .ref w_pr, .int 0, .ref w_ch, .ref w_re, .ref w_lo])), (w_lo, .inr (8, [.int 60, .int 4, .ref w_la, .int 0, .int 0]))]) [0, 1, 2] (by decide) rfl
      refine vx_ret ?_
      exact W.iret (v := (-1)) hx hb hr (fun t ht hW => ⟨⟨(-1), (), rfl, ⟨rfl, hw_2⟩, by rw [ht]; exact hP9, by rw [hAe]; exact hD9⟩, hS.F ht⟩) hS.2.2 dX10_logEntry_40
    · refine lv_iload_n hx hb dX10_logEntry_10 rfl (lv_at hl 1 rfl) ?_
      refine lv_aload_n hx hb dX10_logEntry_11 rfl (lv_at hl 0 rfl) ?_
      refine va_get (v := .ref w) (D := D) (ci := 10) (C := RX10) (T := TX10) (N := 6) hx hb hts in_X10 hown hK hP 0 rfl rfl 0 (by decide) (hts _ kl_RX10_10) (fun _ h9 => h9) rfl dX10_logEntry_12 ?_
      refine va_getN (v := .ref w_lo) (D := D) (ci := 9) (C := RX9) (T := TX9) (N := 8) hx hb hts in_X9 hown hK hP 1 rfl rfl 7 (by decide) (hts _ kl_RX10_318) (fun _ h9 => h9) rfl dX10_logEntry_15 ?_
      refine va_getN (v := .int 0) (D := D) (ci := 8) (C := RX8) (T := TX8) (N := 5) hx hb hts in_X8 hown hK hP 2 rfl rfl 4 (by decide) (hts _ kl_RX10_306) (fun _ h9 => h9) rfl dX10_logEntry_18 ?_
      refine lv_icmp_lt (tgt := 28) hx hb dX10_logEntry_21 (by decide) (fun hc => absurd hc hc_3) (fun _ => ?_)
      refine lv_iconst (v := (-1)) hx hb dX10_logEntry_24 (by decide) ?_
      refine lv_goto (tgt := 40) hx hb dX10_logEntry_25 (by decide) ?_
      have hP9 := hP.sub (ws' := [(x, .inr (10, [.ref w, .ref sp, .ref sv, .ref bu, .int 0, .int 0])), (w, .inr (9, [.int 0, .ref w_se, .ref w_cu, .ref w_pr, .int 0, .ref w_ch, .ref w_re, .ref w_lo])), (w_lo, .inr (8, [.int 60, .int 4, .ref w_la, .int 0, .int 0]))]) [0, 1, 2] rfl
      have hD9 := hD.sub (ws' := [(x, .inr (10, [.ref w, .ref sp, .ref sv, .ref bu, .int 0, .int 0])), (w, .inr (9, [.int 0, .ref w_se, .ref w_cu, .ref w_pr, .int 0, .ref w_ch, .ref w_re, .ref w_lo])), (w_lo, .inr (8, [.int 60, .int 4, .ref w_la, .int 0, .int 0]))]) [0, 1, 2] (by decide) rfl
      refine vx_ret ?_
      exact W.iret (v := (-1)) hx hb hr (fun t ht hW => ⟨⟨(-1), (), rfl, ⟨rfl, hw_2⟩, by rw [ht]; exact hP9, by rw [hAe]; exact hD9⟩, hS.F ht⟩) hS.2.2 dX10_logEntry_40
