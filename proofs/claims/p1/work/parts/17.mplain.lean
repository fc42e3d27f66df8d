theorem dX11_loadError_0 : decode cX11_loadError 0 = .ok (.aload_n 0, 1) := by decide +kernel
theorem dX11_loadError_1 : decode cX11_loadError 1 = .ok (.iconst 0, 1) := by decide +kernel
theorem dX11_loadError_2 : decode cX11_loadError 2 = .ok (.putfield 49, 3) := by decide +kernel
theorem dX11_loadError_5 : decode cX11_loadError 5 = .ok (.aload_n 0, 1) := by decide +kernel
theorem dX11_loadError_6 : decode cX11_loadError 6 = .ok (.getfield 59, 3) := by decide +kernel
theorem dX11_loadError_9 : decode cX11_loadError 9 = .ok (.ireturn, 1) := by decide +kernel
set_option maxRecDepth 100000 in
set_option maxHeartbeats 4000000 in
theorem m_loadError_0 (l : Launch) (D : va_G) (ct : Nat → ClassId) (mo : Nat) (mw : Nat) (ma : Nat) (mf : Nat) (m0 : Nat) (m1 : Nat) (mu : Nat) (mv : Nat) (u0 : Nat) (u1 : Nat) (iz : Nat) (mb : Nat) (sz : Nat) : Met l yX11_loadError (ws_ yX11_loadError cX11_loadError 1 (some .int)) ({ frames := 0, cells := 0, slots := 0, locals := 0 } : Room) (va_Pc [.ref mo] (cmP D ct sz [(mo, .inr (11, [.ref mw, .ref ma, .ref mf, .ref m0, .ref m1, .ref mu, .ref mv, .ref u0, .ref u1, .ref iz, .int 0, .ref mb, .int 0, .int 0, .int 0, .int 0, .int 0, .int 0, .int 0])), (mw, .inl (ct 0, 958, .inl m_w0))])) (va_Qi (fun (r : Int32) (_ : Unit) => r = 0) (cmB D [(mo, .inr (11, [.ref mw, .ref ma, .ref mf, .ref m0, .ref m1, .ref mu, .ref mv, .ref u0, .ref u1, .ref iz, .int 0, .ref mb, .int 0, .int 0, .int 0, .int 0, .int 0, .int 0, .int 0])), (mw, .inl (ct 0, 958, .inl m_w0))] sz (fun _ : Unit => [(mo, .inr (11, [.ref mw, .ref ma, .ref mf, .ref m0, .ref m1, .ref mu, .ref mv, .ref u0, .ref u1, .ref iz, .int 0, .ref mb, .int 0, .int 0, .int 0, .int 0, .int 0, .int 0, .int 0])), (mw, .inl (ct 0, 958, .inl m_w0))])) (va_A [(mo, .inr (11, [.ref mw, .ref ma, .ref mf, .ref m0, .ref m1, .ref mu, .ref mv, .ref u0, .ref u1, .ref iz, .int 0, .ref mb, .int 0, .int 0, .int 0, .int 0, .int 0, .int 0, .int 0])), (mw, .inl (ct 0, 958, .inl m_w0))] sz)) 0 0 (va_A [(mo, .inr (11, [.ref mw, .ref ma, .ref mf, .ref m0, .ref m1, .ref mu, .ref mv, .ref u0, .ref u1, .ref iz, .int 0, .ref mb, .int 0, .int 0, .int 0, .int 0, .int 0, .int 0, .int 0])), (mw, .inl (ct 0, 958, .inl m_w0))] sz) := by
  refine Met.ofW (cc := cX11_loadError) (maxL := 1) (ret := (some .int)) (by decide) rfl ?_
  intro p e s m args below meth c s₁ B hml hv
  obtain ⟨rfl, hsz, hP, hK, hD0, hX⟩ := hv
  have hx := B.exec
  have hb := B.bytes
  have hr := B.returns
  have hts := ws_all (atoms_spec (ws := ws_ yX11_loadError cX11_loadError 1 (some .int)) B.pre)
  have hown : s.vm.findClass RX11 = some m.cls := findClass_of_methodNamed B.named
  have hlocks := B.notSynchronized
  subst hsz
  have hD := hD0.self (sz := s.heap.size)
  generalize hAe : va_A [(mo, .inr (11, [.ref mw, .ref ma, .ref mf, .ref m0, .ref m1, .ref mu, .ref mv, .ref u0, .ref u1, .ref iz, .int 0, .ref mb, .int 0, .int 0, .int 0, .int 0, .int 0, .int 0, .int 0])), (mw, .inl (ct 0, 958, .inl m_w0))] s.heap.size = A at hD hX ⊢
  have hA : ∀ q : Nat, s.heap.size ≤ q → A q := fun q h => by rw [← hAe]; exact Or.inr h
  have hS : va_S A s.heap s.heap [] := va_S.rf
  have hl := lv_entry ([.ref mo]) (n := 1) (Nat.le_of_ble_eq_true rfl)
  rw [lg_entry_eq]
  generalize (lg_sl ([.ref mo]) ++ List.replicate (1 - (lg_sl ([.ref mo])).length) Slot.unset).toArray = ls at hl ⊢
  have hl : lv_has ls 1 [(0, .ref mo)] := hl
  refine lv_aload_n hx hb dX11_loadError_0 rfl (lv_at hl 0 rfl) ?_
  refine lv_iconst (v := 0) hx hb dX11_loadError_1 (by decide) ?_
  refine va_put (v := .int 0) (ty := .int) (D := D) (ci := 11) (C := RX11) (T := TX11) (N := 19) hx hb hts in_X11 tyX11 tyX11_ok nmX11 hown hK hP hD hS 0 rfl rfl 10 (by decide) (hts _ kl_RX11_49) (fun _ h9 => h9) rfl (by decide +kernel) rfl rfl (Nat.le_of_ble_eq_true rfl) dX11_loadError_2 (fun H locs hP hD hS => ?_)
  have hP : va_P D vwCl [(mo, .inr (11, [.ref mw, .ref ma, .ref mf, .ref m0, .ref m1, .ref mu, .ref mv, .ref u0, .ref u1, .ref iz, .int 0, .ref mb, .int 0, .int 0, .int 0, .int 0, .int 0, .int 0, .int 0])), (mw, .inl (ct 0, 958, .inl m_w0))] H := hP
  have hD : va_D A [(mo, .inr (11, [.ref mw, .ref ma, .ref mf, .ref m0, .ref m1, .ref mu, .ref mv, .ref u0, .ref u1, .ref iz, .int 0, .ref mb, .int 0, .int 0, .int 0, .int 0, .int 0, .int 0, .int 0])), (mw, .inl (ct 0, 958, .inl m_w0))] := hD
  refine lv_aload_n hx hb dX11_loadError_5 rfl (lv_at hl 0 rfl) ?_
  refine va_get (v := .int 0) (D := D) (ci := 11) (C := RX11) (T := TX11) (N := 19) hx hb hts in_X11 hown hK hP 0 rfl rfl 17 (by decide) (hts _ kl_RX11_59) (fun _ h9 => h9) rfl dX11_loadError_6 ?_
  have hP9 := hP.sub (ws' := [(mo, .inr (11, [.ref mw, .ref ma, .ref mf, .ref m0, .ref m1, .ref mu, .ref mv, .ref u0, .ref u1, .ref iz, .int 0, .ref mb, .int 0, .int 0, .int 0, .int 0, .int 0, .int 0, .int 0])), (mw, .inl (ct 0, 958, .inl m_w0))]) [0, 1] rfl
  have hD9 := hD.sub (ws' := [(mo, .inr (11, [.ref mw, .ref ma, .ref mf, .ref m0, .ref m1, .ref mu, .ref mv, .ref u0, .ref u1, .ref iz, .int 0, .ref mb, .int 0, .int 0, .int 0, .int 0, .int 0, .int 0, .int 0])), (mw, .inl (ct 0, 958, .inl m_w0))]) [0, 1] (by decide) rfl
  exact W.iret (v := 0) hx hb hr (fun t ht hW => ⟨⟨0, (), rfl, rfl, by rw [ht]; exact hP9, by rw [hAe]; exact hD9⟩, hS.F ht⟩) hS.2.2 dX11_loadError_9
theorem dX11_now_0 : decode cX11_now 0 = .ok (.aload_n 0, 1) := by decide +kernel
theorem dX11_now_1 : decode cX11_now 1 = .ok (.iconst 0, 1) := by decide +kernel
theorem dX11_now_2 : decode cX11_now 2 = .ok (.putfield 49, 3) := by decide +kernel
theorem dX11_now_5 : decode cX11_now 5 = .ok (.aload_n 0, 1) := by decide +kernel
theorem dX11_now_6 : decode cX11_now 6 = .ok (.getfield 9, 3) := by decide +kernel
theorem dX11_now_9 : decode cX11_now 9 = .ok (.bipush 8, 2) := by decide +kernel
theorem dX11_now_11 : decode cX11_now 11 = .ok (.iaload, 1) := by decide +kernel
theorem dX11_now_12 : decode cX11_now 12 = .ok (.ireturn, 1) := by decide +kernel
set_option maxRecDepth 100000 in
set_option maxHeartbeats 4000000 in
theorem m_now_0 (l : Launch) (D : va_G) (ct : Nat → ClassId) (mo : Nat) (mw : Nat) (ma : Nat) (mf : Nat) (m0 : Nat) (m1 : Nat) (mu : Nat) (mv : Nat) (u0 : Nat) (u1 : Nat) (iz : Nat) (mb : Nat) (sz : Nat) : Met l yX11_now (ws_ yX11_now cX11_now 1 (some .int)) ({ frames := 0, cells := 0, slots := 0, locals := 0 } : Room) (va_Pc [.ref mo] (cmP D ct sz [(mo, .inr (11, [.ref mw, .ref ma, .ref mf, .ref m0, .ref m1, .ref mu, .ref mv, .ref u0, .ref u1, .ref iz, .int 0, .ref mb, .int 0, .int 0, .int 0, .int 0, .int 0, .int 0, .int 0])), (mw, .inl (ct 0, 958, .inl m_w0))])) (va_Qi (fun (r : Int32) (_ : Unit) => r = 0) (cmB D [(mo, .inr (11, [.ref mw, .ref ma, .ref mf, .ref m0, .ref m1, .ref mu, .ref mv, .ref u0, .ref u1, .ref iz, .int 0, .ref mb, .int 0, .int 0, .int 0, .int 0, .int 0, .int 0, .int 0])), (mw, .inl (ct 0, 958, .inl m_w0))] sz (fun _ : Unit => [(mo, .inr (11, [.ref mw, .ref ma, .ref mf, .ref m0, .ref m1, .ref mu, .ref mv, .ref u0, .ref u1, .ref iz, .int 0, .ref mb, .int 0, .int 0, .int 0, .int 0, .int 0, .int 0, .int 0])), (mw, .inl (ct 0, 958, .inl m_w0))])) (va_A [(mo, .inr (11, [.ref mw, .ref ma, .ref mf, .ref m0, .ref m1, .ref mu, .ref mv, .ref u0, .ref u1, .ref iz, .int 0, .ref mb, .int 0, .int 0, .int 0, .int 0, .int 0, .int 0, .int 0])), (mw, .inl (ct 0, 958, .inl m_w0))] sz)) 0 0 (va_A [(mo, .inr (11, [.ref mw, .ref ma, .ref mf, .ref m0, .ref m1, .ref mu, .ref mv, .ref u0, .ref u1, .ref iz, .int 0, .ref mb, .int 0, .int 0, .int 0, .int 0, .int 0, .int 0, .int 0])), (mw, .inl (ct 0, 958, .inl m_w0))] sz) := by
  refine Met.ofW (cc := cX11_now) (maxL := 1) (ret := (some .int)) (by decide) rfl ?_
  intro p e s m args below meth c s₁ B hml hv
  obtain ⟨rfl, hsz, hP, hK, hD0, hX⟩ := hv
  have hx := B.exec
  have hb := B.bytes
  have hr := B.returns
  have hts := ws_all (atoms_spec (ws := ws_ yX11_now cX11_now 1 (some .int)) B.pre)
  have hown : s.vm.findClass RX11 = some m.cls := findClass_of_methodNamed B.named
  have hlocks := B.notSynchronized
  subst hsz
  have hD := hD0.self (sz := s.heap.size)
  generalize hAe : va_A [(mo, .inr (11, [.ref mw, .ref ma, .ref mf, .ref m0, .ref m1, .ref mu, .ref mv, .ref u0, .ref u1, .ref iz, .int 0, .ref mb, .int 0, .int 0, .int 0, .int 0, .int 0, .int 0, .int 0])), (mw, .inl (ct 0, 958, .inl m_w0))] s.heap.size = A at hD hX ⊢
  have hA : ∀ q : Nat, s.heap.size ≤ q → A q := fun q h => by rw [← hAe]; exact Or.inr h
  have hS : va_S A s.heap s.heap [] := va_S.rf
  have hl := lv_entry ([.ref mo]) (n := 1) (Nat.le_of_ble_eq_true rfl)
  rw [lg_entry_eq]
  generalize (lg_sl ([.ref mo]) ++ List.replicate (1 - (lg_sl ([.ref mo])).length) Slot.unset).toArray = ls at hl ⊢
  have hl : lv_has ls 1 [(0, .ref mo)] := hl
  refine lv_aload_n hx hb dX11_now_0 rfl (lv_at hl 0 rfl) ?_
  refine lv_iconst (v := 0) hx hb dX11_now_1 (by decide) ?_
  refine va_put (v := .int 0) (ty := .int) (D := D) (ci := 11) (C := RX11) (T := TX11) (N := 19) hx hb hts in_X11 tyX11 tyX11_ok nmX11 hown hK hP hD hS 0 rfl rfl 10 (by decide) (hts _ kl_RX11_49) (fun _ h9 => h9) rfl (by decide +kernel) rfl rfl (Nat.le_of_ble_eq_true rfl) dX11_now_2 (fun H locs hP hD hS => ?_)
  have hP : va_P D vwCl [(mo, .inr (11, [.ref mw, .ref ma, .ref mf, .ref m0, .ref m1, .ref mu, .ref mv, .ref u0, .ref u1, .ref iz, .int 0, .ref mb, .int 0, .int 0, .int 0, .int 0, .int 0, .int 0, .int 0])), (mw, .inl (ct 0, 958, .inl m_w0))] H := hP
  have hD : va_D A [(mo, .inr (11, [.ref mw, .ref ma, .ref mf, .ref m0, .ref m1, .ref mu, .ref mv, .ref u0, .ref u1, .ref iz, .int 0, .ref mb, .int 0, .int 0, .int 0, .int 0, .int 0, .int 0, .int 0])), (mw, .inl (ct 0, 958, .inl m_w0))] := hD
  refine lv_aload_n hx hb dX11_now_5 rfl (lv_at hl 0 rfl) ?_
  refine va_get (v := .ref mw) (D := D) (ci := 11) (C := RX11) (T := TX11) (N := 19) hx hb hts in_X11 hown hK hP 0 rfl rfl 0 (by decide) (hts _ kl_RX11_9) (fun _ h9 => h9) rfl dX11_now_6 ?_
  refine lv_bipush (v := 8) hx hb dX11_now_9 (by decide) ?_
  refine va_iald hx hb hK hP 1 0 rfl rfl (cm_vin (by decide)) dX11_now_11 ?_
  refine cm_cst (y := 0) (by first | rfl | decide +kernel) ?_
  have hP9 := hP.sub (ws' := [(mo, .inr (11, [.ref mw, .ref ma, .ref mf, .ref m0, .ref m1, .ref mu, .ref mv, .ref u0, .ref u1, .ref iz, .int 0, .ref mb, .int 0, .int 0, .int 0, .int 0, .int 0, .int 0, .int 0])), (mw, .inl (ct 0, 958, .inl m_w0))]) [0, 1] rfl
  have hD9 := hD.sub (ws' := [(mo, .inr (11, [.ref mw, .ref ma, .ref mf, .ref m0, .ref m1, .ref mu, .ref mv, .ref u0, .ref u1, .ref iz, .int 0, .ref mb, .int 0, .int 0, .int 0, .int 0, .int 0, .int 0, .int 0])), (mw, .inl (ct 0, 958, .inl m_w0))]) [0, 1] (by decide) rfl
  exact W.iret (v := 0) hx hb hr (fun t ht hW => ⟨⟨0, (), rfl, rfl, by rw [ht]; exact hP9, by rw [hAe]; exact hD9⟩, hS.F ht⟩) hS.2.2 dX11_now_12
theorem dX11_recordCount_0 : decode cX11_recordCount 0 = .ok (.aload_n 0, 1) := by decide +kernel
theorem dX11_recordCount_1 : decode cX11_recordCount 1 = .ok (.iconst 0, 1) := by decide +kernel
theorem dX11_recordCount_2 : decode cX11_recordCount 2 = .ok (.putfield 49, 3) := by decide +kernel
theorem dX11_recordCount_5 : decode cX11_recordCount 5 = .ok (.aload_n 0, 1) := by decide +kernel
theorem dX11_recordCount_6 : decode cX11_recordCount 6 = .ok (.getfield 9, 3) := by decide +kernel
theorem dX11_recordCount_9 : decode cX11_recordCount 9 = .ok (.bipush 12, 2) := by decide +kernel
theorem dX11_recordCount_11 : decode cX11_recordCount 11 = .ok (.iaload, 1) := by decide +kernel
theorem dX11_recordCount_12 : decode cX11_recordCount 12 = .ok (.ireturn, 1) := by decide +kernel
set_option maxRecDepth 100000 in
set_option maxHeartbeats 4000000 in
theorem m_recordCount_0 (l : Launch) (D : va_G) (ct : Nat → ClassId) (mo : Nat) (mw : Nat) (ma : Nat) (mf : Nat) (m0 : Nat) (m1 : Nat) (mu : Nat) (mv : Nat) (u0 : Nat) (u1 : Nat) (iz : Nat) (mb : Nat) (sz : Nat) : Met l yX11_recordCount (ws_ yX11_recordCount cX11_recordCount 1 (some .int)) ({ frames := 0, cells := 0, slots := 0, locals := 0 } : Room) (va_Pc [.ref mo] (cmP D ct sz [(mo, .inr (11, [.ref mw, .ref ma, .ref mf, .ref m0, .ref m1, .ref mu, .ref mv, .ref u0, .ref u1, .ref iz, .int 0, .ref mb, .int 0, .int 0, .int 0, .int 0, .int 0, .int 0, .int 0])), (mw, .inl (ct 0, 958, .inl m_w0))])) (va_Qi (fun (r : Int32) (_ : Unit) => r = 0) (cmB D [(mo, .inr (11, [.ref mw, .ref ma, .ref mf, .ref m0, .ref m1, .ref mu, .ref mv, .ref u0, .ref u1, .ref iz, .int 0, .ref mb, .int 0, .int 0, .int 0, .int 0, .int 0, .int 0, .int 0])), (mw, .inl (ct 0, 958, .inl m_w0))] sz (fun _ : Unit => [(mo, .inr (11, [.ref mw, .ref ma, .ref mf, .ref m0, .ref m1, .ref mu, .ref mv, .ref u0, .ref u1, .ref iz, .int 0, .ref mb, .int 0, .int 0, .int 0, .int 0, .int 0, .int 0, .int 0])), (mw, .inl (ct 0, 958, .inl m_w0))])) (va_A [(mo, .inr (11, [.ref mw, .ref ma, .ref mf, .ref m0, .ref m1, .ref mu, .ref mv, .ref u0, .ref u1, .ref iz, .int 0, .ref mb, .int 0, .int 0, .int 0, .int 0, .int 0, .int 0, .int 0])), (mw, .inl (ct 0, 958, .inl m_w0))] sz)) 0 0 (va_A [(mo, .inr (11, [.ref mw, .ref ma, .ref mf, .ref m0, .ref m1, .ref mu, .ref mv, .ref u0, .ref u1, .ref iz, .int 0, .ref mb, .int 0, .int 0, .int 0, .int 0, .int 0, .int 0, .int 0])), (mw, .inl (ct 0, 958, .inl m_w0))] sz) := by
  refine Met.ofW (cc := cX11_recordCount) (maxL := 1) (ret := (some .int)) (by decide) rfl ?_
  intro p e s m args below meth c s₁ B hml hv
  obtain ⟨rfl, hsz, hP, hK, hD0, hX⟩ := hv
  have hx := B.exec
  have hb := B.bytes
  have hr := B.returns
  have hts := ws_all (atoms_spec (ws := ws_ yX11_recordCount cX11_recordCount 1 (some .int)) B.pre)
  have hown : s.vm.findClass RX11 = some m.cls := findClass_of_methodNamed B.named
  have hlocks := B.notSynchronized
  subst hsz
  have hD := hD0.self (sz := s.heap.size)
  generalize hAe : va_A [(mo, .inr (11, [.ref mw, .ref ma, .ref mf, .ref m0, .ref m1, .ref mu, .ref mv, .ref u0, .ref u1, .ref iz, .int 0, .ref mb, .int 0, .int 0, .int 0, .int 0, .int 0, .int 0, .int 0])), (mw, .inl (ct 0, 958, .inl m_w0))] s.heap.size = A at hD hX ⊢
  have hA : ∀ q : Nat, s.heap.size ≤ q → A q := fun q h => by rw [← hAe]; exact Or.inr h
  have hS : va_S A s.heap s.heap [] := va_S.rf
  have hl := lv_entry ([.ref mo]) (n := 1) (Nat.le_of_ble_eq_true rfl)
  rw [lg_entry_eq]
  generalize (lg_sl ([.ref mo]) ++ List.replicate (1 - (lg_sl ([.ref mo])).length) Slot.unset).toArray = ls at hl ⊢
  have hl : lv_has ls 1 [(0, .ref mo)] := hl
  refine lv_aload_n hx hb dX11_recordCount_0 rfl (lv_at hl 0 rfl) ?_
  refine lv_iconst (v := 0) hx hb dX11_recordCount_1 (by decide) ?_
  refine va_put (v := .int 0) (ty := .int) (D := D) (ci := 11) (C := RX11) (T := TX11) (N := 19) hx hb hts in_X11 tyX11 tyX11_ok nmX11 hown hK hP hD hS 0 rfl rfl 10 (by decide) (hts _ kl_RX11_49) (fun _ h9 => h9) rfl (by decide +kernel) rfl rfl (Nat.le_of_ble_eq_true rfl) dX11_recordCount_2 (fun H locs hP hD hS => ?_)
  have hP : va_P D vwCl [(mo, .inr (11, [.ref mw, .ref ma, .ref mf, .ref m0, .ref m1, .ref mu, .ref mv, .ref u0, .ref u1, .ref iz, .int 0, .ref mb, .int 0, .int 0, .int 0, .int 0, .int 0, .int 0, .int 0])), (mw, .inl (ct 0, 958, .inl m_w0))] H := hP
  have hD : va_D A [(mo, .inr (11, [.ref mw, .ref ma, .ref mf, .ref m0, .ref m1, .ref mu, .ref mv, .ref u0, .ref u1, .ref iz, .int 0, .ref mb, .int 0, .int 0, .int 0, .int 0, .int 0, .int 0, .int 0])), (mw, .inl (ct 0, 958, .inl m_w0))] := hD
  refine lv_aload_n hx hb dX11_recordCount_5 rfl (lv_at hl 0 rfl) ?_
  refine va_get (v := .ref mw) (D := D) (ci := 11) (C := RX11) (T := TX11) (N := 19) hx hb hts in_X11 hown hK hP 0 rfl rfl 0 (by decide) (hts _ kl_RX11_9) (fun _ h9 => h9) rfl dX11_recordCount_6 ?_
  refine lv_bipush (v := 12) hx hb dX11_recordCount_9 (by decide) ?_
  refine va_iald hx hb hK hP 1 0 rfl rfl (cm_vin (by decide)) dX11_recordCount_11 ?_
  refine cm_cst (y := 0) (by first | rfl | decide +kernel) ?_
  have hP9 := hP.sub (ws' := [(mo, .inr (11, [.ref mw, .ref ma, .ref mf, .ref m0, .ref m1, .ref mu, .ref mv, .ref u0, .ref u1, .ref iz, .int 0, .ref mb, .int 0, .int 0, .int 0, .int 0, .int 0, .int 0, .int 0])), (mw, .inl (ct 0, 958, .inl m_w0))]) [0, 1] rfl
  have hD9 := hD.sub (ws' := [(mo, .inr (11, [.ref mw, .ref ma, .ref mf, .ref m0, .ref m1, .ref mu, .ref mv, .ref u0, .ref u1, .ref iz, .int 0, .ref mb, .int 0, .int 0, .int 0, .int 0, .int 0, .int 0, .int 0])), (mw, .inl (ct 0, 958, .inl m_w0))]) [0, 1] (by decide) rfl
  exact W.iret (v := 0) hx hb hr (fun t ht hW => ⟨⟨0, (), rfl, rfl, by rw [ht]; exact hP9, by rw [hAe]; exact hD9⟩, hS.F ht⟩) hS.2.2 dX11_recordCount_12
theorem dX11_logSize_0 : decode cX11_logSize 0 = .ok (.aload_n 0, 1) := by decide +kernel
theorem dX11_logSize_1 : decode cX11_logSize 1 = .ok (.iconst 0, 1) := by decide +kernel
theorem dX11_logSize_2 : decode cX11_logSize 2 = .ok (.putfield 49, 3) := by decide +kernel
theorem dX11_logSize_5 : decode cX11_logSize 5 = .ok (.aload_n 0, 1) := by decide +kernel
theorem dX11_logSize_6 : decode cX11_logSize 6 = .ok (.getfield 9, 3) := by decide +kernel
theorem dX11_logSize_9 : decode cX11_logSize 9 = .ok (.bipush 17, 2) := by decide +kernel
theorem dX11_logSize_11 : decode cX11_logSize 11 = .ok (.iaload, 1) := by decide +kernel
theorem dX11_logSize_12 : decode cX11_logSize 12 = .ok (.ireturn, 1) := by decide +kernel
set_option maxRecDepth 100000 in
set_option maxHeartbeats 4000000 in
theorem m_logSize_0 (l : Launch) (D : va_G) (ct : Nat → ClassId) (mo : Nat) (mw : Nat) (ma : Nat) (mf : Nat) (m0 : Nat) (m1 : Nat) (mu : Nat) (mv : Nat) (u0 : Nat) (u1 : Nat) (iz : Nat) (mb : Nat) (sz : Nat) : Met l yX11_logSize (ws_ yX11_logSize cX11_logSize 1 (some .int)) ({ frames := 0, cells := 0, slots := 0, locals := 0 } : Room) (va_Pc [.ref mo] (cmP D ct sz [(mo, .inr (11, [.ref mw, .ref ma, .ref mf, .ref m0, .ref m1, .ref mu, .ref mv, .ref u0, .ref u1, .ref iz, .int 0, .ref mb, .int 0, .int 0, .int 0, .int 0, .int 0, .int 0, .int 0])), (mw, .inl (ct 0, 958, .inl m_w0))])) (va_Qi (fun (r : Int32) (_ : Unit) => r = 0) (cmB D [(mo, .inr (11, [.ref mw, .ref ma, .ref mf, .ref m0, .ref m1, .ref mu, .ref mv, .ref u0, .ref u1, .ref iz, .int 0, .ref mb, .int 0, .int 0, .int 0, .int 0, .int 0, .int 0, .int 0])), (mw, .inl (ct 0, 958, .inl m_w0))] sz (fun _ : Unit => [(mo, .inr (11, [.ref mw, .ref ma, .ref mf, .ref m0, .ref m1, .ref mu, .ref mv, .ref u0, .ref u1, .ref iz, .int 0, .ref mb, .int 0, .int 0, .int 0, .int 0, .int 0, .int 0, .int 0])), (mw, .inl (ct 0, 958, .inl m_w0))])) (va_A [(mo, .inr (11, [.ref mw, .ref ma, .ref mf, .ref m0, .ref m1, .ref mu, .ref mv, .ref u0, .ref u1, .ref iz, .int 0, .ref mb, .int 0, .int 0, .int 0, .int 0, .int 0, .int 0, .int 0])), (mw, .inl (ct 0, 958, .inl m_w0))] sz)) 0 0 (va_A [(mo, .inr (11, [.ref mw, .ref ma, .ref mf, .ref m0, .ref m1, .ref mu, .ref mv, .ref u0, .ref u1, .ref iz, .int 0, .ref mb, .int 0, .int 0, .int 0, .int 0, .int 0, .int 0, .int 0])), (mw, .inl (ct 0, 958, .inl m_w0))] sz) := by
  refine Met.ofW (cc := cX11_logSize) (maxL := 1) (ret := (some .int)) (by decide) rfl ?_
  intro p e s m args below meth c s₁ B hml hv
  obtain ⟨rfl, hsz, hP, hK, hD0, hX⟩ := hv
  have hx := B.exec
  have hb := B.bytes
  have hr := B.returns
  have hts := ws_all (atoms_spec (ws := ws_ yX11_logSize cX11_logSize 1 (some .int)) B.pre)
  have hown : s.vm.findClass RX11 = some m.cls := findClass_of_methodNamed B.named
  have hlocks := B.notSynchronized
  subst hsz
  have hD := hD0.self (sz := s.heap.size)
  generalize hAe : va_A [(mo, .inr (11, [.ref mw, .ref ma, .ref mf, .ref m0, .ref m1, .ref mu, .ref mv, .ref u0, .ref u1, .ref iz, .int 0, .ref mb, .int 0, .int 0, .int 0, .int 0, .int 0, .int 0, .int 0])), (mw, .inl (ct 0, 958, .inl m_w0))] s.heap.size = A at hD hX ⊢
  have hA : ∀ q : Nat, s.heap.size ≤ q → A q := fun q h => by rw [← hAe]; exact Or.inr h
  have hS : va_S A s.heap s.heap [] := va_S.rf
  have hl := lv_entry ([.ref mo]) (n := 1) (Nat.le_of_ble_eq_true rfl)
  rw [lg_entry_eq]
  generalize (lg_sl ([.ref mo]) ++ List.replicate (1 - (lg_sl ([.ref mo])).length) Slot.unset).toArray = ls at hl ⊢
  have hl : lv_has ls 1 [(0, .ref mo)] := hl
  refine lv_aload_n hx hb dX11_logSize_0 rfl (lv_at hl 0 rfl) ?_
  refine lv_iconst (v := 0) hx hb dX11_logSize_1 (by decide) ?_
  refine va_put (v := .int 0) (ty := .int) (D := D) (ci := 11) (C := RX11) (T := TX11) (N := 19) hx hb hts in_X11 tyX11 tyX11_ok nmX11 hown hK hP hD hS 0 rfl rfl 10 (by decide) (hts _ kl_RX11_49) (fun _ h9 => h9) rfl (by decide +kernel) rfl rfl (Nat.le_of_ble_eq_true rfl) dX11_logSize_2 (fun H locs hP hD hS => ?_)
  have hP : va_P D vwCl [(mo, .inr (11, [.ref mw, .ref ma, .ref mf, .ref m0, .ref m1, .ref mu, .ref mv, .ref u0, .ref u1, .ref iz, .int 0, .ref mb, .int 0, .int 0, .int 0, .int 0, .int 0, .int 0, .int 0])), (mw, .inl (ct 0, 958, .inl m_w0))] H := hP
  have hD : va_D A [(mo, .inr (11, [.ref mw, .ref ma, .ref mf, .ref m0, .ref m1, .ref mu, .ref mv, .ref u0, .ref u1, .ref iz, .int 0, .ref mb, .int 0, .int 0, .int 0, .int 0, .int 0, .int 0, .int 0])), (mw, .inl (ct 0, 958, .inl m_w0))] := hD
  refine lv_aload_n hx hb dX11_logSize_5 rfl (lv_at hl 0 rfl) ?_
  refine va_get (v := .ref mw) (D := D) (ci := 11) (C := RX11) (T := TX11) (N := 19) hx hb hts in_X11 hown hK hP 0 rfl rfl 0 (by decide) (hts _ kl_RX11_9) (fun _ h9 => h9) rfl dX11_logSize_6 ?_
  refine lv_bipush (v := 17) hx hb dX11_logSize_9 (by decide) ?_
  refine va_iald hx hb hK hP 1 0 rfl rfl (cm_vin (by decide)) dX11_logSize_11 ?_
  refine cm_cst (y := 0) (by first | rfl | decide +kernel) ?_
  have hP9 := hP.sub (ws' := [(mo, .inr (11, [.ref mw, .ref ma, .ref mf, .ref m0, .ref m1, .ref mu, .ref mv, .ref u0, .ref u1, .ref iz, .int 0, .ref mb, .int 0, .int 0, .int 0, .int 0, .int 0, .int 0, .int 0])), (mw, .inl (ct 0, 958, .inl m_w0))]) [0, 1] rfl
  have hD9 := hD.sub (ws' := [(mo, .inr (11, [.ref mw, .ref ma, .ref mf, .ref m0, .ref m1, .ref mu, .ref mv, .ref u0, .ref u1, .ref iz, .int 0, .ref mb, .int 0, .int 0, .int 0, .int 0, .int 0, .int 0, .int 0])), (mw, .inl (ct 0, 958, .inl m_w0))]) [0, 1] (by decide) rfl
  exact W.iret (v := 0) hx hb hr (fun t ht hW => ⟨⟨0, (), rfl, rfl, by rw [ht]; exact hP9, by rw [hAe]; exact hD9⟩, hS.F ht⟩) hS.2.2 dX11_logSize_12
theorem dX11_weakest_0 : decode cX11_weakest 0 = .ok (.aload_n 0, 1) := by decide +kernel
theorem dX11_weakest_1 : decode cX11_weakest 1 = .ok (.iconst 0, 1) := by decide +kernel
theorem dX11_weakest_2 : decode cX11_weakest 2 = .ok (.putfield 49, 3) := by decide +kernel
theorem dX11_weakest_5 : decode cX11_weakest 5 = .ok (.iconst (-1), 1) := by decide +kernel
theorem dX11_weakest_6 : decode cX11_weakest 6 = .ok (.istore_n 1, 1) := by decide +kernel
theorem dX11_weakest_7 : decode cX11_weakest 7 = .ok (.iconst 0, 1) := by decide +kernel
theorem dX11_weakest_8 : decode cX11_weakest 8 = .ok (.istore_n 2, 1) := by decide +kernel
theorem dX11_weakest_9 : decode cX11_weakest 9 = .ok (.iload_n 2, 1) := by decide +kernel
theorem dX11_weakest_10 : decode cX11_weakest 10 = .ok (.aload_n 0, 1) := by decide +kernel
theorem dX11_weakest_11 : decode cX11_weakest 11 = .ok (.getfield 9, 3) := by decide +kernel
theorem dX11_weakest_14 : decode cX11_weakest 14 = .ok (.bipush 9, 2) := by decide +kernel
theorem dX11_weakest_16 : decode cX11_weakest 16 = .ok (.iaload, 1) := by decide +kernel
theorem dX11_weakest_17 : decode cX11_weakest 17 = .ok (.if_icmp .ge 29, 3) := by decide +kernel
theorem dX11_weakest_46 : decode cX11_weakest 46 = .ok (.iload_n 1, 1) := by decide +kernel
theorem dX11_weakest_47 : decode cX11_weakest 47 = .ok (.ireturn, 1) := by decide +kernel
set_option maxRecDepth 100000 in
set_option maxHeartbeats 4000000 in
theorem m_weakest_0 (l : Launch) (D : va_G) (ct : Nat → ClassId) (mo : Nat) (mw : Nat) (ma : Nat) (mf : Nat) (m0 : Nat) (m1 : Nat) (mu : Nat) (mv : Nat) (u0 : Nat) (u1 : Nat) (iz : Nat) (mb : Nat) (sz : Nat) : Met l yX11_weakest (ws_ yX11_weakest cX11_weakest 3 (some .int)) ({ frames := 0, cells := 0, slots := 0, locals := 0 } : Room) (va_Pc [.ref mo] (cmP D ct sz [(mo, .inr (11, [.ref mw, .ref ma, .ref mf, .ref m0, .ref m1, .ref mu, .ref mv, .ref u0, .ref u1, .ref iz, .int 0, .ref mb, .int 0, .int 0, .int 0, .int 0, .int 0, .int 0, .int 0])), (mw, .inl (ct 0, 958, .inl m_w0))])) (va_Qi (fun (r : Int32) (_ : Unit) => r = (-1)) (cmB D [(mo, .inr (11, [.ref mw, .ref ma, .ref mf, .ref m0, .ref m1, .ref mu, .ref mv, .ref u0, .ref u1, .ref iz, .int 0, .ref mb, .int 0, .int 0, .int 0, .int 0, .int 0, .int 0, .int 0])), (mw, .inl (ct 0, 958, .inl m_w0))] sz (fun _ : Unit => [(mo, .inr (11, [.ref mw, .ref ma, .ref mf, .ref m0, .ref m1, .ref mu, .ref mv, .ref u0, .ref u1, .ref iz, .int 0, .ref mb, .int 0, .int 0, .int 0, .int 0, .int 0, .int 0, .int 0])), (mw, .inl (ct 0, 958, .inl m_w0))])) (va_A [(mo, .inr (11, [.ref mw, .ref ma, .ref mf, .ref m0, .ref m1, .ref mu, .ref mv, .ref u0, .ref u1, .ref iz, .int 0, .ref mb, .int 0, .int 0, .int 0, .int 0, .int 0, .int 0, .int 0])), (mw, .inl (ct 0, 958, .inl m_w0))] sz)) 0 0 (va_A [(mo, .inr (11, [.ref mw, .ref ma, .ref mf, .ref m0, .ref m1, .ref mu, .ref mv, .ref u0, .ref u1, .ref iz, .int 0, .ref mb, .int 0, .int 0, .int 0, .int 0, .int 0, .int 0, .int 0])), (mw, .inl (ct 0, 958, .inl m_w0))] sz) := by
  refine Met.ofW (cc := cX11_weakest) (maxL := 3) (ret := (some .int)) (by decide) rfl ?_
  intro p e s m args below meth c s₁ B hml hv
  obtain ⟨rfl, hsz, hP, hK, hD0, hX⟩ := hv
  have hx := B.exec
  have hb := B.bytes
  have hr := B.returns
  have hts := ws_all (atoms_spec (ws := ws_ yX11_weakest cX11_weakest 3 (some .int)) B.pre)
  have hown : s.vm.findClass RX11 = some m.cls := findClass_of_methodNamed B.named
  have hlocks := B.notSynchronized
  subst hsz
  have hD := hD0.self (sz := s.heap.size)
  generalize hAe : va_A [(mo, .inr (11, [.ref mw, .ref ma, .ref mf, .ref m0, .ref m1, .ref mu, .ref mv, .ref u0, .ref u1, .ref iz, .int 0, .ref mb, .int 0, .int 0, .int 0, .int 0, .int 0, .int 0, .int 0])), (mw, .inl (ct 0, 958, .inl m_w0))] s.heap.size = A at hD hX ⊢
  have hA : ∀ q : Nat, s.heap.size ≤ q → A q := fun q h => by rw [← hAe]; exact Or.inr h
  have hS : va_S A s.heap s.heap [] := va_S.rf
  have hl := lv_entry ([.ref mo]) (n := 3) (Nat.le_of_ble_eq_true rfl)
  rw [lg_entry_eq]
  generalize (lg_sl ([.ref mo]) ++ List.replicate (3 - (lg_sl ([.ref mo])).length) Slot.unset).toArray = ls at hl ⊢
  have hl : lv_has ls 3 [(0, .ref mo)] := hl
  refine lv_aload_n hx hb dX11_weakest_0 rfl (lv_at hl 0 rfl) ?_
  refine lv_iconst (v := 0) hx hb dX11_weakest_1 (by decide) ?_
  refine va_put (v := .int 0) (ty := .int) (D := D) (ci := 11) (C := RX11) (T := TX11) (N := 19) hx hb hts in_X11 tyX11 tyX11_ok nmX11 hown hK hP hD hS 0 rfl rfl 10 (by decide) (hts _ kl_RX11_49) (fun _ h9 => h9) rfl (by decide +kernel) rfl rfl (Nat.le_of_ble_eq_true rfl) dX11_weakest_2 (fun H locs hP hD hS => ?_)
  have hP : va_P D vwCl [(mo, .inr (11, [.ref mw, .ref ma, .ref mf, .ref m0, .ref m1, .ref mu, .ref mv, .ref u0, .ref u1, .ref iz, .int 0, .ref mb, .int 0, .int 0, .int 0, .int 0, .int 0, .int 0, .int 0])), (mw, .inl (ct 0, 958, .inl m_w0))] H := hP
  have hD : va_D A [(mo, .inr (11, [.ref mw, .ref ma, .ref mf, .ref m0, .ref m1, .ref mu, .ref mv, .ref u0, .ref u1, .ref iz, .int 0, .ref mb, .int 0, .int 0, .int 0, .int 0, .int 0, .int 0, .int 0])), (mw, .inl (ct 0, 958, .inl m_w0))] := hD
  refine lv_iconst (v := (-1)) hx hb dX11_weakest_5 (by decide) ?_
  refine lv_istore_n (lv' := [(1, .int (-1)), (0, .ref mo)]) hx hb dX11_weakest_6 rfl hl (by decide) rfl (fun ls hl => ?_)
  refine lv_iconst (v := 0) hx hb dX11_weakest_7 (by decide) ?_
  refine lv_istore_n (lv' := [(2, .int 0), (1, .int (-1)), (0, .ref mo)]) hx hb dX11_weakest_8 rfl hl (by decide) rfl (fun ls hl => ?_)
  refine lv_iload_n hx hb dX11_weakest_9 rfl (lv_at hl 0 rfl) ?_
  refine lv_aload_n hx hb dX11_weakest_10 rfl (lv_at hl 2 rfl) ?_
  refine va_get (v := .ref mw) (D := D) (ci := 11) (C := RX11) (T := TX11) (N := 19) hx hb hts in_X11 hown hK hP 0 rfl rfl 0 (by decide) (hts _ kl_RX11_9) (fun _ h9 => h9) rfl dX11_weakest_11 ?_
  refine lv_bipush (v := 9) hx hb dX11_weakest_14 (by decide) ?_
  refine va_iald hx hb hK hP 1 0 rfl rfl (cm_vin (by decide)) dX11_weakest_16 ?_
  refine cm_cst (y := 0) (by first | rfl | decide +kernel) ?_
  refine lv_icmp_ge (tgt := 46) hx hb dX11_weakest_17 (by decide) (fun _ => ?_) (fun hc => absurd (by decide) hc)
  refine lv_iload_n hx hb dX11_weakest_46 rfl (lv_at hl 1 rfl) ?_
  have hP9 := hP.sub (ws' := [(mo, .inr (11, [.ref mw, .ref ma, .ref mf, .ref m0, .ref m1, .ref mu, .ref mv, .ref u0, .ref u1, .ref iz, .int 0, .ref mb, .int 0, .int 0, .int 0, .int 0, .int 0, .int 0, .int 0])), (mw, .inl (ct 0, 958, .inl m_w0))]) [0, 1] rfl
  have hD9 := hD.sub (ws' := [(mo, .inr (11, [.ref mw, .ref ma, .ref mf, .ref m0, .ref m1, .ref mu, .ref mv, .ref u0, .ref u1, .ref iz, .int 0, .ref mb, .int 0, .int 0, .int 0, .int 0, .int 0, .int 0, .int 0])), (mw, .inl (ct 0, 958, .inl m_w0))]) [0, 1] (by decide) rfl
  exact W.iret (v := (-1)) hx hb hr (fun t ht hW => ⟨⟨(-1), (), rfl, rfl, by rw [ht]; exact hP9, by rw [hAe]; exact hD9⟩, hS.F ht⟩) hS.2.2 dX11_weakest_47
theorem dX11_hottest_0 : decode cX11_hottest 0 = .ok (.aload_n 0, 1) := by decide +kernel
theorem dX11_hottest_1 : decode cX11_hottest 1 = .ok (.iconst 0, 1) := by decide +kernel
theorem dX11_hottest_2 : decode cX11_hottest 2 = .ok (.putfield 49, 3) := by decide +kernel
theorem dX11_hottest_5 : decode cX11_hottest 5 = .ok (.iconst (-1), 1) := by decide +kernel
theorem dX11_hottest_6 : decode cX11_hottest 6 = .ok (.istore_n 1, 1) := by decide +kernel
theorem dX11_hottest_7 : decode cX11_hottest 7 = .ok (.iconst 0, 1) := by decide +kernel
theorem dX11_hottest_8 : decode cX11_hottest 8 = .ok (.istore_n 2, 1) := by decide +kernel
theorem dX11_hottest_9 : decode cX11_hottest 9 = .ok (.iload_n 2, 1) := by decide +kernel
theorem dX11_hottest_10 : decode cX11_hottest 10 = .ok (.aload_n 0, 1) := by decide +kernel
theorem dX11_hottest_11 : decode cX11_hottest 11 = .ok (.getfield 9, 3) := by decide +kernel
theorem dX11_hottest_14 : decode cX11_hottest 14 = .ok (.bipush 9, 2) := by decide +kernel
theorem dX11_hottest_16 : decode cX11_hottest 16 = .ok (.iaload, 1) := by decide +kernel
theorem dX11_hottest_17 : decode cX11_hottest 17 = .ok (.if_icmp .ge 33, 3) := by decide +kernel
theorem dX11_hottest_50 : decode cX11_hottest 50 = .ok (.iload_n 1, 1) := by decide +kernel
theorem dX11_hottest_51 : decode cX11_hottest 51 = .ok (.ireturn, 1) := by decide +kernel
set_option maxRecDepth 100000 in
set_option maxHeartbeats 4000000 in
theorem m_hottest_0 (l : Launch) (D : va_G) (ct : Nat → ClassId) (mo : Nat) (mw : Nat) (ma : Nat) (mf : Nat) (m0 : Nat) (m1 : Nat) (mu : Nat) (mv : Nat) (u0 : Nat) (u1 : Nat) (iz : Nat) (mb : Nat) (sz : Nat) : Met l yX11_hottest (ws_ yX11_hottest cX11_hottest 3 (some .int)) ({ frames := 0, cells := 0, slots := 0, locals := 0 } : Room) (va_Pc [.ref mo] (cmP D ct sz [(mo, .inr (11, [.ref mw, .ref ma, .ref mf, .ref m0, .ref m1, .ref mu, .ref mv, .ref u0, .ref u1, .ref iz, .int 0, .ref mb, .int 0, .int 0, .int 0, .int 0, .int 0, .int 0, .int 0])), (mw, .inl (ct 0, 958, .inl m_w0))])) (va_Qi (fun (r : Int32) (_ : Unit) => r = (-1)) (cmB D [(mo, .inr (11, [.ref mw, .ref ma, .ref mf, .ref m0, .ref m1, .ref mu, .ref mv, .ref u0, .ref u1, .ref iz, .int 0, .ref mb, .int 0, .int 0, .int 0, .int 0, .int 0, .int 0, .int 0])), (mw, .inl (ct 0, 958, .inl m_w0))] sz (fun _ : Unit => [(mo, .inr (11, [.ref mw, .ref ma, .ref mf, .ref m0, .ref m1, .ref mu, .ref mv, .ref u0, .ref u1, .ref iz, .int 0, .ref mb, .int 0, .int 0, .int 0, .int 0, .int 0, .int 0, .int 0])), (mw, .inl (ct 0, 958, .inl m_w0))])) (va_A [(mo, .inr (11, [.ref mw, .ref ma, .ref mf, .ref m0, .ref m1, .ref mu, .ref mv, .ref u0, .ref u1, .ref iz, .int 0, .ref mb, .int 0, .int 0, .int 0, .int 0, .int 0, .int 0, .int 0])), (mw, .inl (ct 0, 958, .inl m_w0))] sz)) 0 0 (va_A [(mo, .inr (11, [.ref mw, .ref ma, .ref mf, .ref m0, .ref m1, .ref mu, .ref mv, .ref u0, .ref u1, .ref iz, .int 0, .ref mb, .int 0, .int 0, .int 0, .int 0, .int 0, .int 0, .int 0])), (mw, .inl (ct 0, 958, .inl m_w0))] sz) := by
  refine Met.ofW (cc := cX11_hottest) (maxL := 3) (ret := (some .int)) (by decide) rfl ?_
  intro p e s m args below meth c s₁ B hml hv
  obtain ⟨rfl, hsz, hP, hK, hD0, hX⟩ := hv
  have hx := B.exec
  have hb := B.bytes
  have hr := B.returns
  have hts := ws_all (atoms_spec (ws := ws_ yX11_hottest cX11_hottest 3 (some .int)) B.pre)
  have hown : s.vm.findClass RX11 = some m.cls := findClass_of_methodNamed B.named
  have hlocks := B.notSynchronized
  subst hsz
  have hD := hD0.self (sz := s.heap.size)
  generalize hAe : va_A [(mo, .inr (11, [.ref mw, .ref ma, .ref mf, .ref m0, .ref m1, .ref mu, .ref mv, .ref u0, .ref u1, .ref iz, .int 0, .ref mb, .int 0, .int 0, .int 0, .int 0, .int 0, .int 0, .int 0])), (mw, .inl (ct 0, 958, .inl m_w0))] s.heap.size = A at hD hX ⊢
  have hA : ∀ q : Nat, s.heap.size ≤ q → A q := fun q h => by rw [← hAe]; exact Or.inr h
  have hS : va_S A s.heap s.heap [] := va_S.rf
  have hl := lv_entry ([.ref mo]) (n := 3) (Nat.le_of_ble_eq_true rfl)
  rw [lg_entry_eq]
  generalize (lg_sl ([.ref mo]) ++ List.replicate (3 - (lg_sl ([.ref mo])).length) Slot.unset).toArray = ls at hl ⊢
  have hl : lv_has ls 3 [(0, .ref mo)] := hl
  refine lv_aload_n hx hb dX11_hottest_0 rfl (lv_at hl 0 rfl) ?_
  refine lv_iconst (v := 0) hx hb dX11_hottest_1 (by decide) ?_
  refine va_put (v := .int 0) (ty := .int) (D := D) (ci := 11) (C := RX11) (T := TX11) (N := 19) hx hb hts in_X11 tyX11 tyX11_ok nmX11 hown hK hP hD hS 0 rfl rfl 10 (by decide) (hts _ kl_RX11_49) (fun _ h9 => h9) rfl (by decide +kernel) rfl rfl (Nat.le_of_ble_eq_true rfl) dX11_hottest_2 (fun H locs hP hD hS => ?_)
  have hP : va_P D vwCl [(mo, .inr (11, [.ref mw, .ref ma, .ref mf, .ref m0, .ref m1, .ref mu, .ref mv, .ref u0, .ref u1, .ref iz, .int 0, .ref mb, .int 0, .int 0, .int 0, .int 0, .int 0, .int 0, .int 0])), (mw, .inl (ct 0, 958, .inl m_w0))] H := hP
  have hD : va_D A [(mo, .inr (11, [.ref mw, .ref ma, .ref mf, .ref m0, .ref m1, .ref mu, .ref mv, .ref u0, .ref u1, .ref iz, .int 0, .ref mb, .int 0, .int 0, .int 0, .int 0, .int 0, .int 0, .int 0])), (mw, .inl (ct 0, 958, .inl m_w0))] := hD
  refine lv_iconst (v := (-1)) hx hb dX11_hottest_5 (by decide) ?_
  refine lv_istore_n (lv' := [(1, .int (-1)), (0, .ref mo)]) hx hb dX11_hottest_6 rfl hl (by decide) rfl (fun ls hl => ?_)
  refine lv_iconst (v := 0) hx hb dX11_hottest_7 (by decide) ?_
  refine lv_istore_n (lv' := [(2, .int 0), (1, .int (-1)), (0, .ref mo)]) hx hb dX11_hottest_8 rfl hl (by decide) rfl (fun ls hl => ?_)
  refine lv_iload_n hx hb dX11_hottest_9 rfl (lv_at hl 0 rfl) ?_
  refine lv_aload_n hx hb dX11_hottest_10 rfl (lv_at hl 2 rfl) ?_
  refine va_get (v := .ref mw) (D := D) (ci := 11) (C := RX11) (T := TX11) (N := 19) hx hb hts in_X11 hown hK hP 0 rfl rfl 0 (by decide) (hts _ kl_RX11_9) (fun _ h9 => h9) rfl dX11_hottest_11 ?_
  refine lv_bipush (v := 9) hx hb dX11_hottest_14 (by decide) ?_
  refine va_iald hx hb hK hP 1 0 rfl rfl (cm_vin (by decide)) dX11_hottest_16 ?_
  refine cm_cst (y := 0) (by first | rfl | decide +kernel) ?_
  refine lv_icmp_ge (tgt := 50) hx hb dX11_hottest_17 (by decide) (fun _ => ?_) (fun hc => absurd (by decide) hc)
  refine lv_iload_n hx hb dX11_hottest_50 rfl (lv_at hl 1 rfl) ?_
  have hP9 := hP.sub (ws' := [(mo, .inr (11, [.ref mw, .ref ma, .ref mf, .ref m0, .ref m1, .ref mu, .ref mv, .ref u0, .ref u1, .ref iz, .int 0, .ref mb, .int 0, .int 0, .int 0, .int 0, .int 0, .int 0, .int 0])), (mw, .inl (ct 0, 958, .inl m_w0))]) [0, 1] rfl
  have hD9 := hD.sub (ws' := [(mo, .inr (11, [.ref mw, .ref ma, .ref mf, .ref m0, .ref m1, .ref mu, .ref mv, .ref u0, .ref u1, .ref iz, .int 0, .ref mb, .int 0, .int 0, .int 0, .int 0, .int 0, .int 0, .int 0])), (mw, .inl (ct 0, 958, .inl m_w0))]) [0, 1] (by decide) rfl
  exact W.iret (v := (-1)) hx hb hr (fun t ht hW => ⟨⟨(-1), (), rfl, rfl, by rw [ht]; exact hP9, by rw [hAe]; exact hD9⟩, hS.F ht⟩) hS.2.2 dX11_hottest_51
theorem dX11_named_0 : decode cX11_named 0 = .ok (.iconst (-1), 1) := by decide +kernel
theorem dX11_named_1 : decode cX11_named 1 = .ok (.istore 4, 2) := by decide +kernel
theorem dX11_named_3 : decode cX11_named 3 = .ok (.iconst 0, 1) := by decide +kernel
theorem dX11_named_4 : decode cX11_named 4 = .ok (.istore 5, 2) := by decide +kernel
theorem dX11_named_6 : decode cX11_named 6 = .ok (.iload 5, 2) := by decide +kernel
theorem dX11_named_8 : decode cX11_named 8 = .ok (.aload_n 1, 1) := by decide +kernel
theorem dX11_named_9 : decode cX11_named 9 = .ok (.bipush 11, 2) := by decide +kernel
theorem dX11_named_11 : decode cX11_named 11 = .ok (.iaload, 1) := by decide +kernel
theorem dX11_named_12 : decode cX11_named 12 = .ok (.if_icmp .ge 30, 3) := by decide +kernel
theorem dX11_named_42 : decode cX11_named 42 = .ok (.iload 4, 2) := by decide +kernel
theorem dX11_named_44 : decode cX11_named 44 = .ok (.ireturn, 1) := by decide +kernel
set_option maxRecDepth 100000 in
set_option maxHeartbeats 4000000 in
theorem m_named_0 (l : Launch) (D : va_G) (ct : Nat → ClassId) (mo : Nat) (mw : Nat) (ma : Nat) (mf : Nat) (m0 : Nat) (m1 : Nat) (mu : Nat) (mv : Nat) (u0 : Nat) (u1 : Nat) (iz : Nat) (mb : Nat) (c1 : Int32) (c2 : Int32) (sz : Nat) : Met l yX11_named (ws_ yX11_named cX11_named 6 (some .int)) ({ frames := 0, cells := 0, slots := 0, locals := 0 } : Room) (va_Pc [.ref mo, .ref mw, .int c1, .int c2] (cmP D ct sz [(mo, .inr (11, [.ref mw, .ref ma, .ref mf, .ref m0, .ref m1, .ref mu, .ref mv, .ref u0, .ref u1, .ref iz, .int 0, .ref mb, .int 0, .int 0, .int 0, .int 0, .int 0, .int 0, .int 0])), (mw, .inl (ct 0, 958, .inl m_w0))])) (va_Qi (fun (r : Int32) (_ : Unit) => r = (-1)) (cmB D [(mo, .inr (11, [.ref mw, .ref ma, .ref mf, .ref m0, .ref m1, .ref mu, .ref mv, .ref u0, .ref u1, .ref iz, .int 0, .ref mb, .int 0, .int 0, .int 0, .int 0, .int 0, .int 0, .int 0])), (mw, .inl (ct 0, 958, .inl m_w0))] sz (fun _ : Unit => [(mo, .inr (11, [.ref mw, .ref ma, .ref mf, .ref m0, .ref m1, .ref mu, .ref mv, .ref u0, .ref u1, .ref iz, .int 0, .ref mb, .int 0, .int 0, .int 0, .int 0, .int 0, .int 0, .int 0])), (mw, .inl (ct 0, 958, .inl m_w0))])) (va_A [(mo, .inr (11, [.ref mw, .ref ma, .ref mf, .ref m0, .ref m1, .ref mu, .ref mv, .ref u0, .ref u1, .ref iz, .int 0, .ref mb, .int 0, .int 0, .int 0, .int 0, .int 0, .int 0, .int 0])), (mw, .inl (ct 0, 958, .inl m_w0))] sz)) 0 0 (va_A [(mo, .inr (11, [.ref mw, .ref ma, .ref mf, .ref m0, .ref m1, .ref mu, .ref mv, .ref u0, .ref u1, .ref iz, .int 0, .ref mb, .int 0, .int 0, .int 0, .int 0, .int 0, .int 0, .int 0])), (mw, .inl (ct 0, 958, .inl m_w0))] sz) := by
  refine Met.ofW (cc := cX11_named) (maxL := 6) (ret := (some .int)) (by decide) rfl ?_
  intro p e s m args below meth c s₁ B hml hv
  obtain ⟨rfl, hsz, hP, hK, hD0, hX⟩ := hv
  have hx := B.exec
  have hb := B.bytes
  have hr := B.returns
  have hts := ws_all (atoms_spec (ws := ws_ yX11_named cX11_named 6 (some .int)) B.pre)
  have hown : s.vm.findClass RX11 = some m.cls := findClass_of_methodNamed B.named
  have hlocks := B.notSynchronized
  subst hsz
  have hD := hD0.self (sz := s.heap.size)
  generalize hAe : va_A [(mo, .inr (11, [.ref mw, .ref ma, .ref mf, .ref m0, .ref m1, .ref mu, .ref mv, .ref u0, .ref u1, .ref iz, .int 0, .ref mb, .int 0, .int 0, .int 0, .int 0, .int 0, .int 0, .int 0])), (mw, .inl (ct 0, 958, .inl m_w0))] s.heap.size = A at hD hX ⊢
  have hA : ∀ q : Nat, s.heap.size ≤ q → A q := fun q h => by rw [← hAe]; exact Or.inr h
  have hS : va_S A s.heap s.heap [] := va_S.rf
  have hl := lv_entry ([.ref mo, .ref mw, .int c1, .int c2]) (n := 6) (Nat.le_of_ble_eq_true rfl)
  rw [lg_entry_eq]
  generalize (lg_sl ([.ref mo, .ref mw, .int c1, .int c2]) ++ List.replicate (6 - (lg_sl ([.ref mo, .ref mw, .int c1, .int c2])).length) Slot.unset).toArray = ls at hl ⊢
  have hl : lv_has ls 6 [(0, .ref mo), (1, .ref mw), (2, .int c1), (3, .int c2)] := hl
  refine lv_iconst (v := (-1)) hx hb dX11_named_0 (by decide) ?_
  refine lv_istore (lv' := [(4, .int (-1)), (0, .ref mo), (1, .ref mw), (2, .int c1), (3, .int c2)]) hx hb dX11_named_1 hl (by decide) rfl (fun ls hl => ?_)
  refine lv_iconst (v := 0) hx hb dX11_named_3 (by decide) ?_
  refine lv_istore (lv' := [(5, .int 0), (4, .int (-1)), (0, .ref mo), (1, .ref mw), (2, .int c1), (3, .int c2)]) hx hb dX11_named_4 hl (by decide) rfl (fun ls hl => ?_)
  refine lv_iload hx hb dX11_named_6 (lv_at hl 0 rfl) ?_
  refine lv_aload_n hx hb dX11_named_8 rfl (lv_at hl 3 rfl) ?_
  refine lv_bipush (v := 11) hx hb dX11_named_9 (by decide) ?_
  refine va_iald hx hb hK hP 1 0 rfl rfl (cm_vin (by decide)) dX11_named_11 ?_
  refine cm_cst (y := 0) (by first | rfl | decide +kernel) ?_
  refine lv_icmp_ge (tgt := 42) hx hb dX11_named_12 (by decide) (fun _ => ?_) (fun hc => absurd (by decide) hc)
  refine lv_iload hx hb dX11_named_42 (lv_at hl 1 rfl) ?_
  have hP9 := hP.sub (ws' := [(mo, .inr (11, [.ref mw, .ref ma, .ref mf, .ref m0, .ref m1, .ref mu, .ref mv, .ref u0, .ref u1, .ref iz, .int 0, .ref mb, .int 0, .int 0, .int 0, .int 0, .int 0, .int 0, .int 0])), (mw, .inl (ct 0, 958, .inl m_w0))]) [0, 1] rfl
  have hD9 := hD.sub (ws' := [(mo, .inr (11, [.ref mw, .ref ma, .ref mf, .ref m0, .ref m1, .ref mu, .ref mv, .ref u0, .ref u1, .ref iz, .int 0, .ref mb, .int 0, .int 0, .int 0, .int 0, .int 0, .int 0, .int 0])), (mw, .inl (ct 0, 958, .inl m_w0))]) [0, 1] (by decide) rfl
  exact W.iret (v := (-1)) hx hb hr (fun t ht hW => ⟨⟨(-1), (), rfl, rfl, by rw [ht]; exact hP9, by rw [hAe]; exact hD9⟩, hS.F ht⟩) hS.2.2 dX11_named_44
theorem dX11_curveNamed_0 : decode cX11_curveNamed 0 = .ok (.aload_n 0, 1) := by decide +kernel
theorem dX11_curveNamed_1 : decode cX11_curveNamed 1 = .ok (.iconst 0, 1) := by decide +kernel
theorem dX11_curveNamed_2 : decode cX11_curveNamed 2 = .ok (.putfield 49, 3) := by decide +kernel
theorem dX11_curveNamed_5 : decode cX11_curveNamed 5 = .ok (.aload_n 0, 1) := by decide +kernel
theorem dX11_curveNamed_6 : decode cX11_curveNamed 6 = .ok (.aload_n 0, 1) := by decide +kernel
theorem dX11_curveNamed_7 : decode cX11_curveNamed 7 = .ok (.getfield 9, 3) := by decide +kernel
theorem dX11_curveNamed_10 : decode cX11_curveNamed 10 = .ok (.iconst 0, 1) := by decide +kernel
theorem dX11_curveNamed_11 : decode cX11_curveNamed 11 = .ok (.aload_n 0, 1) := by decide +kernel
theorem dX11_curveNamed_12 : decode cX11_curveNamed 12 = .ok (.getfield 56, 3) := by decide +kernel
theorem dX11_curveNamed_15 : decode cX11_curveNamed 15 = .ok (.invokevirtual 129, 3) := by decide +kernel
theorem dX11_curveNamed_18 : decode cX11_curveNamed 18 = .ok (.istore_n 1, 1) := by decide +kernel
theorem dX11_curveNamed_19 : decode cX11_curveNamed 19 = .ok (.aload_n 0, 1) := by decide +kernel
theorem dX11_curveNamed_20 : decode cX11_curveNamed 20 = .ok (.iconst 0, 1) := by decide +kernel
theorem dX11_curveNamed_21 : decode cX11_curveNamed 21 = .ok (.putfield 56, 3) := by decide +kernel
theorem dX11_curveNamed_24 : decode cX11_curveNamed 24 = .ok (.iload_n 1, 1) := by decide +kernel
theorem dX11_curveNamed_25 : decode cX11_curveNamed 25 = .ok (.ireturn, 1) := by decide +kernel
set_option maxRecDepth 100000 in
set_option maxHeartbeats 4000000 in
theorem m_curveNamed_0 (l : Launch) (D : va_G) (ct : Nat → ClassId) (mo : Nat) (mw : Nat) (ma : Nat) (mf : Nat) (m0 : Nat) (m1 : Nat) (mu : Nat) (mv : Nat) (u0 : Nat) (u1 : Nat) (iz : Nat) (mb : Nat) (sz : Nat) : Met l yX11_curveNamed (ws_ yX11_curveNamed cX11_curveNamed 2 (some .int)) ({ frames := 1, cells := 0, slots := 0, locals := 25 } : Room) (va_Pc [.ref mo] (cmP D ct sz [(mo, .inr (11, [.ref mw, .ref ma, .ref mf, .ref m0, .ref m1, .ref mu, .ref mv, .ref u0, .ref u1, .ref iz, .int 0, .ref mb, .int 0, .int 0, .int 0, .int 0, .int 0, .int 0, .int 0])), (mw, .inl (ct 0, 958, .inl m_w0))])) (va_Qi (fun (r : Int32) (_ : Unit) => r = (-1)) (cmB D [(mo, .inr (11, [.ref mw, .ref ma, .ref mf, .ref m0, .ref m1, .ref mu, .ref mv, .ref u0, .ref u1, .ref iz, .int 0, .ref mb, .int 0, .int 0, .int 0, .int 0, .int 0, .int 0, .int 0])), (mw, .inl (ct 0, 958, .inl m_w0))] sz (fun _ : Unit => [(mo, .inr (11, [.ref mw, .ref ma, .ref mf, .ref m0, .ref m1, .ref mu, .ref mv, .ref u0, .ref u1, .ref iz, .int 0, .ref mb, .int 0, .int 0, .int 0, .int 0, .int 0, .int 0, .int 0])), (mw, .inl (ct 0, 958, .inl m_w0))])) (va_A [(mo, .inr (11, [.ref mw, .ref ma, .ref mf, .ref m0, .ref m1, .ref mu, .ref mv, .ref u0, .ref u1, .ref iz, .int 0, .ref mb, .int 0, .int 0, .int 0, .int 0, .int 0, .int 0, .int 0])), (mw, .inl (ct 0, 958, .inl m_w0))] sz)) 0 0 (va_A [(mo, .inr (11, [.ref mw, .ref ma, .ref mf, .ref m0, .ref m1, .ref mu, .ref mv, .ref u0, .ref u1, .ref iz, .int 0, .ref mb, .int 0, .int 0, .int 0, .int 0, .int 0, .int 0, .int 0])), (mw, .inl (ct 0, 958, .inl m_w0))] sz) := by
  refine Met.ofW (cc := cX11_curveNamed) (maxL := 2) (ret := (some .int)) (by decide) rfl ?_
  intro p e s m args below meth c s₁ B hml hv
  obtain ⟨rfl, hsz, hP, hK, hD0, hX⟩ := hv
  have hx := B.exec
  have hb := B.bytes
  have hr := B.returns
  have hts := ws_all (atoms_spec (ws := ws_ yX11_curveNamed cX11_curveNamed 2 (some .int)) B.pre)
  have hown : s.vm.findClass RX11 = some m.cls := findClass_of_methodNamed B.named
  have hlocks := B.notSynchronized
  subst hsz
  have hD := hD0.self (sz := s.heap.size)
  generalize hAe : va_A [(mo, .inr (11, [.ref mw, .ref ma, .ref mf, .ref m0, .ref m1, .ref mu, .ref mv, .ref u0, .ref u1, .ref iz, .int 0, .ref mb, .int 0, .int 0, .int 0, .int 0, .int 0, .int 0, .int 0])), (mw, .inl (ct 0, 958, .inl m_w0))] s.heap.size = A at hD hX ⊢
  have hA : ∀ q : Nat, s.heap.size ≤ q → A q := fun q h => by rw [← hAe]; exact Or.inr h
  have hS : va_S A s.heap s.heap [] := va_S.rf
  have hl := lv_entry ([.ref mo]) (n := 2) (Nat.le_of_ble_eq_true rfl)
  rw [lg_entry_eq]
  generalize (lg_sl ([.ref mo]) ++ List.replicate (2 - (lg_sl ([.ref mo])).length) Slot.unset).toArray = ls at hl ⊢
  have hl : lv_has ls 2 [(0, .ref mo)] := hl
  refine lv_aload_n hx hb dX11_curveNamed_0 rfl (lv_at hl 0 rfl) ?_
  refine lv_iconst (v := 0) hx hb dX11_curveNamed_1 (by decide) ?_
  refine va_put (v := .int 0) (ty := .int) (D := D) (ci := 11) (C := RX11) (T := TX11) (N := 19) hx hb hts in_X11 tyX11 tyX11_ok nmX11 hown hK hP hD hS 0 rfl rfl 10 (by decide) (hts _ kl_RX11_49) (fun _ h9 => h9) rfl (by decide +kernel) rfl rfl (Nat.le_of_ble_eq_true rfl) dX11_curveNamed_2 (fun H locs hP hD hS => ?_)
  have hP : va_P D vwCl [(mo, .inr (11, [.ref mw, .ref ma, .ref mf, .ref m0, .ref m1, .ref mu, .ref mv, .ref u0, .ref u1, .ref iz, .int 0, .ref mb, .int 0, .int 0, .int 0, .int 0, .int 0, .int 0, .int 0])), (mw, .inl (ct 0, 958, .inl m_w0))] H := hP
  have hD : va_D A [(mo, .inr (11, [.ref mw, .ref ma, .ref mf, .ref m0, .ref m1, .ref mu, .ref mv, .ref u0, .ref u1, .ref iz, .int 0, .ref mb, .int 0, .int 0, .int 0, .int 0, .int 0, .int 0, .int 0])), (mw, .inl (ct 0, 958, .inl m_w0))] := hD
  refine lv_aload_n hx hb dX11_curveNamed_5 rfl (lv_at hl 0 rfl) ?_
  refine lv_aload_n hx hb dX11_curveNamed_6 rfl (lv_at hl 0 rfl) ?_
  refine va_get (v := .ref mw) (D := D) (ci := 11) (C := RX11) (T := TX11) (N := 19) hx hb hts in_X11 hown hK hP 0 rfl rfl 0 (by decide) (hts _ kl_RX11_9) (fun _ h9 => h9) rfl dX11_curveNamed_7 ?_
  refine lv_iconst (v := 0) hx hb dX11_curveNamed_10 (by decide) ?_
  refine lv_aload_n hx hb dX11_curveNamed_11 rfl (lv_at hl 0 rfl) ?_
  refine va_get (v := .int 0) (D := D) (ci := 11) (C := RX11) (T := TX11) (N := 19) hx hb hts in_X11 hown hK hP 0 rfl rfl 12 (by decide) (hts _ kl_RX11_56) (fun _ h9 => h9) rfl dX11_curveNamed_12 ?_
  refine cm_ki (wr := []) (va_runV (As := [.ref mw, .int 0, .int 0]) (rest := []) ⟨hx, hb, hml, hown, hts⟩ (m_named_0 l D ct mo mw ma mf m0 m1 mu mv u0 u1 iz mb 0 0 _) (cm_V 3 hts kc_X11_named ki_RX11 kl_RX11_129 kv_X11_named kx_X11_named kd_X11_named ⟨Nat.le_of_ble_eq_true rfl, Nat.le_of_ble_eq_true rfl⟩) (cm_preV hP hK hD hS hA hX [0, 1] rfl rfl rfl (q0 := 0) (ci := 11) rfl rfl) rfl rfl hl.1 rfl (lv_room (Nat.le_of_ble_eq_true rfl)) dX11_curveNamed_15 ⟨Nat.le_of_ble_eq_true rfl, Nat.le_of_ble_eq_true rfl⟩) hP hD hS hA [0, 1] [] rfl rfl rfl (by decide) (fun r_1 u H locs hw_2 hP hD hS => ?_)
  have hw_2 : r_1 = (-1) := hw_2
  obtain rfl := hw_2
  have hP : va_P D vwCl [(mo, .inr (11, [.ref mw, .ref ma, .ref mf, .ref m0, .ref m1, .ref mu, .ref mv, .ref u0, .ref u1, .ref iz, .int 0, .ref mb, .int 0, .int 0, .int 0, .int 0, .int 0, .int 0, .int 0])), (mw, .inl (ct 0, 958, .inl m_w0))] H := hP
  have hD : va_D A [(mo, .inr (11, [.ref mw, .ref ma, .ref mf, .ref m0, .ref m1, .ref mu, .ref mv, .ref u0, .ref u1, .ref iz, .int 0, .ref mb, .int 0, .int 0, .int 0, .int 0, .int 0, .int 0, .int 0])), (mw, .inl (ct 0, 958, .inl m_w0))] := hD
  refine lv_istore_n (lv' := [(1, .int (-1)), (0, .ref mo)]) hx hb dX11_curveNamed_18 rfl hl (by decide) rfl (fun ls hl => ?_)
  refine lv_aload_n hx hb dX11_curveNamed_19 rfl (lv_at hl 1 rfl) ?_
  refine lv_iconst (v := 0) hx hb dX11_curveNamed_20 (by decide) ?_
  refine va_put (v := .int 0) (ty := .int) (D := D) (ci := 11) (C := RX11) (T := TX11) (N := 19) hx hb hts in_X11 tyX11 tyX11_ok nmX11 hown hK hP hD hS 0 rfl rfl 12 (by decide) (hts _ kl_RX11_56) (fun _ h9 => h9) rfl (by decide +kernel) rfl rfl (Nat.le_of_ble_eq_true rfl) dX11_curveNamed_21 (fun H locs hP hD hS => ?_)
  have hP : va_P D vwCl [(mo, .inr (11, [.ref mw, .ref ma, .ref mf, .ref m0, .ref m1, .ref mu, .ref mv, .ref u0, .ref u1, .ref iz, .int 0, .ref mb, .int 0, .int 0, .int 0, .int 0, .int 0, .int 0, .int 0])), (mw, .inl (ct 0, 958, .inl m_w0))] H := hP
  have hD : va_D A [(mo, .inr (11, [.ref mw, .ref ma, .ref mf, .ref m0, .ref m1, .ref mu, .ref mv, .ref u0, .ref u1, .ref iz, .int 0, .ref mb, .int 0, .int 0, .int 0, .int 0, .int 0, .int 0, .int 0])), (mw, .inl (ct 0, 958, .inl m_w0))] := hD
  refine lv_iload_n hx hb dX11_curveNamed_24 rfl (lv_at hl 0 rfl) ?_
  have hP9 := hP.sub (ws' := [(mo, .inr (11, [.ref mw, .ref ma, .ref mf, .ref m0, .ref m1, .ref mu, .ref mv, .ref u0, .ref u1, .ref iz, .int 0, .ref mb, .int 0, .int 0, .int 0, .int 0, .int 0, .int 0, .int 0])), (mw, .inl (ct 0, 958, .inl m_w0))]) [0, 1] rfl
  have hD9 := hD.sub (ws' := [(mo, .inr (11, [.ref mw, .ref ma, .ref mf, .ref m0, .ref m1, .ref mu, .ref mv, .ref u0, .ref u1, .ref iz, .int 0, .ref mb, .int 0, .int 0, .int 0, .int 0, .int 0, .int 0, .int 0])), (mw, .inl (ct 0, 958, .inl m_w0))]) [0, 1] (by decide) rfl
  exact W.iret (v := (-1)) hx hb hr (fun t ht hW => ⟨⟨(-1), (), rfl, rfl, by rw [ht]; exact hP9, by rw [hAe]; exact hD9⟩, hS.F ht⟩) hS.2.2 dX11_curveNamed_25
theorem dX11_count_0 : decode cX11_count 0 = .ok (.aload_n 0, 1) := by decide +kernel
theorem dX11_count_1 : decode cX11_count 1 = .ok (.iconst 0, 1) := by decide +kernel
theorem dX11_count_2 : decode cX11_count 2 = .ok (.putfield 49, 3) := by decide +kernel
theorem dX11_count_5 : decode cX11_count 5 = .ok (.aload_n 0, 1) := by decide +kernel
theorem dX11_count_6 : decode cX11_count 6 = .ok (.iload_n 1, 1) := by decide +kernel
theorem dX11_count_7 : decode cX11_count 7 = .ok (.i2l, 1) := by decide +kernel
theorem dX11_count_8 : decode cX11_count 8 = .ok (.lconst 0, 1) := by decide +kernel
theorem dX11_count_9 : decode cX11_count 9 = .ok (.ldc2_w 326, 3) := by decide +kernel
theorem dX11_count_12 : decode cX11_count 12 = .ok (.invokestatic 70, 3) := by decide +kernel
theorem dX11_count_15 : decode cX11_count 15 = .ok (.ifCond .ne 7, 3) := by decide +kernel
theorem dX11_count_18 : decode cX11_count 18 = .ok (.iconst 1, 1) := by decide +kernel
theorem dX11_count_19 : decode cX11_count 19 = .ok (.goto 4, 3) := by decide +kernel
theorem dX11_count_22 : decode cX11_count 22 = .ok (.iconst 0, 1) := by decide +kernel
theorem dX11_count_23 : decode cX11_count 23 = .ok (.iconst 1, 1) := by decide +kernel
theorem dX11_count_24 : decode cX11_count 24 = .ok (.invokevirtual 328, 3) := by decide +kernel
theorem dX11_count_27 : decode cX11_count 27 = .ok (.ifCond .eq 7, 3) := by decide +kernel
theorem dX11_count_30 : decode cX11_count 30 = .ok (.iconst 0, 1) := by decide +kernel
theorem dX11_count_31 : decode cX11_count 31 = .ok (.goto 12, 3) := by decide +kernel
theorem dX11_count_34 : decode cX11_count 34 = .ok (.aload_n 0, 1) := by decide +kernel
theorem dX11_count_35 : decode cX11_count 35 = .ok (.getfield 9, 3) := by decide +kernel
theorem dX11_count_38 : decode cX11_count 38 = .ok (.bipush 9, 2) := by decide +kernel
theorem dX11_count_40 : decode cX11_count 40 = .ok (.iload_n 1, 1) := by decide +kernel
theorem dX11_count_41 : decode cX11_count 41 = .ok (.iadd, 1) := by decide +kernel
theorem dX11_count_42 : decode cX11_count 42 = .ok (.iaload, 1) := by decide +kernel
theorem dX11_count_43 : decode cX11_count 43 = .ok (.ireturn, 1) := by decide +kernel
set_option maxRecDepth 100000 in
set_option maxHeartbeats 4000000 in
theorem m_count_0 (l : Launch) (D : va_G) (ct : Nat → ClassId) (mo : Nat) (mw : Nat) (ma : Nat) (mf : Nat) (m0 : Nat) (m1 : Nat) (mu : Nat) (mv : Nat) (u0 : Nat) (u1 : Nat) (iz : Nat) (mb : Nat) (p1 : Int32) (sz : Nat) : Met l yX11_count (ws_ yX11_count cX11_count 2 (some .int)) ({ frames := 1, cells := 0, slots := 0, locals := 25 } : Room) (va_Pc [.ref mo, .int p1] (cmP D ct sz [(mo, .inr (11, [.ref mw, .ref ma, .ref mf, .ref m0, .ref m1, .ref mu, .ref mv, .ref u0, .ref u1, .ref iz, .int 0, .ref mb, .int 0, .int 0, .int 0, .int 0, .int 0, .int 0, .int 0])), (mw, .inl (ct 0, 958, .inl m_w0))])) (va_Qi (fun (r : Int32) (th : Int32) => (th = 0 ∧ (0 ≤ p1 ∧ p1 ≤ 2) ∧ r = 0) ∨ (th = 1 ∧ (p1 < 0 ∨ 2 < p1))) (cmB D [(mo, .inr (11, [.ref mw, .ref ma, .ref mf, .ref m0, .ref m1, .ref mu, .ref mv, .ref u0, .ref u1, .ref iz, .int 0, .ref mb, .int 0, .int 0, .int 0, .int 0, .int 0, .int 0, .int 0])), (mw, .inl (ct 0, 958, .inl m_w0))] sz (fun th : Int32 => [(mo, .inr (11, [.ref mw, .ref ma, .ref mf, .ref m0, .ref m1, .ref mu, .ref mv, .ref u0, .ref u1, .ref iz, .int th, .ref mb, .int 0, .int 0, .int 0, .int 0, .int 0, .int 0, .int 0]))])) (va_A [(mo, .inr (11, [.ref mw, .ref ma, .ref mf, .ref m0, .ref m1, .ref mu, .ref mv, .ref u0, .ref u1, .ref iz, .int 0, .ref mb, .int 0, .int 0, .int 0, .int 0, .int 0, .int 0, .int 0])), (mw, .inl (ct 0, 958, .inl m_w0))] sz)) 0 0 (va_A [(mo, .inr (11, [.ref mw, .ref ma, .ref mf, .ref m0, .ref m1, .ref mu, .ref mv, .ref u0, .ref u1, .ref iz, .int 0, .ref mb, .int 0, .int 0, .int 0, .int 0, .int 0, .int 0, .int 0])), (mw, .inl (ct 0, 958, .inl m_w0))] sz) := by
  refine Met.ofW (cc := cX11_count) (maxL := 2) (ret := (some .int)) (by decide) rfl ?_
  intro p e s m args below meth c s₁ B hml hv
  obtain ⟨rfl, hsz, hP, hK, hD0, hX⟩ := hv
  have hx := B.exec
  have hb := B.bytes
  have hr := B.returns
  have hts := ws_all (atoms_spec (ws := ws_ yX11_count cX11_count 2 (some .int)) B.pre)
  have hown : s.vm.findClass RX11 = some m.cls := findClass_of_methodNamed B.named
  have hlocks := B.notSynchronized
  subst hsz
  have hD := hD0.self (sz := s.heap.size)
  generalize hAe : va_A [(mo, .inr (11, [.ref mw, .ref ma, .ref mf, .ref m0, .ref m1, .ref mu, .ref mv, .ref u0, .ref u1, .ref iz, .int 0, .ref mb, .int 0, .int 0, .int 0, .int 0, .int 0, .int 0, .int 0])), (mw, .inl (ct 0, 958, .inl m_w0))] s.heap.size = A at hD hX ⊢
  have hA : ∀ q : Nat, s.heap.size ≤ q → A q := fun q h => by rw [← hAe]; exact Or.inr h
  have hS : va_S A s.heap s.heap [] := va_S.rf
  have hl := lv_entry ([.ref mo, .int p1]) (n := 2) (Nat.le_of_ble_eq_true rfl)
  rw [lg_entry_eq]
  generalize (lg_sl ([.ref mo, .int p1]) ++ List.replicate (2 - (lg_sl ([.ref mo, .int p1])).length) Slot.unset).toArray = ls at hl ⊢
  have hl : lv_has ls 2 [(0, .ref mo), (1, .int p1)] := hl
  refine lv_aload_n hx hb dX11_count_0 rfl (lv_at hl 0 rfl) ?_
  refine lv_iconst (v := 0) hx hb dX11_count_1 (by decide) ?_
  refine va_put (v := .int 0) (ty := .int) (D := D) (ci := 11) (C := RX11) (T := TX11) (N := 19) hx hb hts in_X11 tyX11 tyX11_ok nmX11 hown hK hP hD hS 0 rfl rfl 10 (by decide) (hts _ kl_RX11_49) (fun _ h9 => h9) rfl (by decide +kernel) rfl rfl (Nat.le_of_ble_eq_true rfl) dX11_count_2 (fun H locs hP hD hS => ?_)
  have hP : va_P D vwCl [(mo, .inr (11, [.ref mw, .ref ma, .ref mf, .ref m0, .ref m1, .ref mu, .ref mv, .ref u0, .ref u1, .ref iz, .int 0, .ref mb, .int 0, .int 0, .int 0, .int 0, .int 0, .int 0, .int 0])), (mw, .inl (ct 0, 958, .inl m_w0))] H := hP
  have hD : va_D A [(mo, .inr (11, [.ref mw, .ref ma, .ref mf, .ref m0, .ref m1, .ref mu, .ref mv, .ref u0, .ref u1, .ref iz, .int 0, .ref mb, .int 0, .int 0, .int 0, .int 0, .int 0, .int 0, .int 0])), (mw, .inl (ct 0, 958, .inl m_w0))] := hD
  refine lv_aload_n hx hb dX11_count_5 rfl (lv_at hl 0 rfl) ?_
  refine lv_iload_n hx hb dX11_count_6 rfl (lv_at hl 1 rfl) ?_
  refine lv_i2l hx hb dX11_count_7 rfl ?_
  refine lv_lconst (v := 0) hx hb dX11_count_8 (by decide) ?_
  refine lv_ldc2 hx hb hown (hts _ kl_RX11_326) dX11_count_9 ?_
  refine cm_ki (wr := [(mo, .inr (11, [.ref mw, .ref ma, .ref mf, .ref m0, .ref m1, .ref mu, .ref mv, .ref u0, .ref u1, .ref iz, .int 0, .ref mb, .int 0, .int 0, .int 0, .int 0, .int 0, .int 0, .int 0])), (mw, .inl (ct 0, 958, .inl m_w0))]) (va_runS (As := [.long p1.toInt64, .long 0, .long 2]) (rest := [.ref mo]) ⟨hx, hb, hml, hown, hts⟩ (m_in l D ct p1.toInt64 0 2 _) (cm_S 3 hts kc_X11_in ki_RX11 kl_RX11_70 ks_X11_in kd_X11_in ⟨Nat.le_of_ble_eq_true rfl, Nat.le_of_ble_eq_true rfl⟩) (cm_preS hP hK hD hS hA hX [] rfl rfl rfl) rfl rfl hl.1 rfl (lv_room (Nat.le_of_ble_eq_true rfl)) dX11_count_12 ⟨Nat.le_of_ble_eq_true rfl, Nat.le_of_ble_eq_true rfl⟩) hP hD hS hA [] [0, 1] rfl rfl rfl (by decide) (fun r_1 u H locs hw_2 hP hD hS => ?_)
  have hw_2 : r_1 = (cm_rng p1.toInt64 0 2) := hw_2
  obtain rfl := hw_2
  have hP : va_P D vwCl [(mo, .inr (11, [.ref mw, .ref ma, .ref mf, .ref m0, .ref m1, .ref mu, .ref mv, .ref u0, .ref u1, .ref iz, .int 0, .ref mb, .int 0, .int 0, .int 0, .int 0, .int 0, .int 0, .int 0])), (mw, .inl (ct 0, 958, .inl m_w0))] H := hP
  have hD : va_D A [(mo, .inr (11, [.ref mw, .ref ma, .ref mf, .ref m0, .ref m1, .ref mu, .ref mv, .ref u0, .ref u1, .ref iz, .int 0, .ref mb, .int 0, .int 0, .int 0, .int 0, .int 0, .int 0, .int 0])), (mw, .inl (ct 0, 958, .inl m_w0))] := hD
  refine lv_if_ne (tgt := 22) hx hb dX11_count_15 (by decide) (fun hc_3 => ?_) (fun hc_3 => ?_)
  · refine lv_iconst (v := 0) hx hb dX11_count_22 (by decide) ?_
    refine lv_iconst (v := 1) hx hb dX11_count_23 (by decide) ?_
    refine cm_ki (wr := [(mw, .inl (ct 0, 958, .inl m_w0))]) (va_runV (As := [.int 0, .int 1]) (rest := []) ⟨hx, hb, hml, hown, hts⟩ (m_throwsIf_01 l D ct mo mw ma mf m0 m1 mu mv u0 u1 iz mb _) (cm_V 2 hts kc_X11_throwsIf ki_RX11 kl_RX11_328 kv_X11_throwsIf kx_X11_throwsIf kd_X11_throwsIf ⟨Nat.le_of_ble_eq_true rfl, Nat.le_of_ble_eq_true rfl⟩) (cm_preV hP hK hD hS hA hX [0] rfl rfl rfl (q0 := 0) (ci := 11) rfl rfl) rfl rfl hl.1 rfl (lv_room (Nat.le_of_ble_eq_true rfl)) dX11_count_24 ⟨Nat.le_of_ble_eq_true rfl, Nat.le_of_ble_eq_true rfl⟩) hP hD hS hA [0] [1] rfl rfl rfl (by decide) (fun r_4 u H locs hw_5 hP hD hS => ?_)
    have hw_5 : r_4 = 0 := hw_5
    obtain rfl := hw_5
    have hP : va_P D vwCl [(mw, .inl (ct 0, 958, .inl m_w0)), (mo, .inr (11, [.ref mw, .ref ma, .ref mf, .ref m0, .ref m1, .ref mu, .ref mv, .ref u0, .ref u1, .ref iz, .int 0, .ref mb, .int 0, .int 0, .int 0, .int 0, .int 0, .int 0, .int 0]))] H := hP
    have hD : va_D A [(mw, .inl (ct 0, 958, .inl m_w0)), (mo, .inr (11, [.ref mw, .ref ma, .ref mf, .ref m0, .ref m1, .ref mu, .ref mv, .ref u0, .ref u1, .ref iz, .int 0, .ref mb, .int 0, .int 0, .int 0, .int 0, .int 0, .int 0, .int 0]))] := hD
    refine lv_if_eq (tgt := 34) hx hb dX11_count_27 (by decide) (fun _ => ?_) (fun hc => absurd (by decide) hc)
    rcases cm_upto2 (cm_inT2 (by decide) (by decide) hc_3) with rfl | rfl | rfl
    · refine lv_aload_n hx hb dX11_count_34 rfl (lv_at hl 0 rfl) ?_
      refine va_get (v := .ref mw) (D := D) (ci := 11) (C := RX11) (T := TX11) (N := 19) hx hb hts in_X11 hown hK hP 1 rfl rfl 0 (by decide) (hts _ kl_RX11_9) (fun _ h9 => h9) rfl dX11_count_35 ?_
      refine lv_bipush (v := 9) hx hb dX11_count_38 (by decide) ?_
      refine lv_iload_n hx hb dX11_count_40 rfl (lv_at hl 1 rfl) ?_
      refine lv_iadd hx hb dX11_count_41 ?_
      refine cm_cst (y := 9) (by decide) ?_
      refine va_iald hx hb hK hP 0 0 rfl rfl (cm_vin (by decide)) dX11_count_42 ?_
      refine cm_cst (y := 0) (by first | rfl | decide +kernel) ?_
      have hP9 := hP.sub (ws' := [(mo, .inr (11, [.ref mw, .ref ma, .ref mf, .ref m0, .ref m1, .ref mu, .ref mv, .ref u0, .ref u1, .ref iz, .int 0, .ref mb, .int 0, .int 0, .int 0, .int 0, .int 0, .int 0, .int 0]))]) [1] rfl
      have hD9 := hD.sub (ws' := [(mo, .inr (11, [.ref mw, .ref ma, .ref mf, .ref m0, .ref m1, .ref mu, .ref mv, .ref u0, .ref u1, .ref iz, .int 0, .ref mb, .int 0, .int 0, .int 0, .int 0, .int 0, .int 0, .int 0]))]) [1] (by decide) rfl
      exact W.iret (v := 0) hx hb hr (fun t ht hW => ⟨⟨0, 0, rfl, (Or.inl ⟨rfl, cm_inT2 (by decide) (by decide) hc_3, rfl⟩), by rw [ht]; exact hP9, by rw [hAe]; exact hD9⟩, hS.F ht⟩) hS.2.2 dX11_count_43
    · refine lv_aload_n hx hb dX11_count_34 rfl (lv_at hl 0 rfl) ?_
      refine va_get (v := .ref mw) (D := D) (ci := 11) (C := RX11) (T := TX11) (N := 19) hx hb hts in_X11 hown hK hP 1 rfl rfl 0 (by decide) (hts _ kl_RX11_9) (fun _ h9 => h9) rfl dX11_count_35 ?_
      refine lv_bipush (v := 9) hx hb dX11_count_38 (by decide) ?_
      refine lv_iload_n hx hb dX11_count_40 rfl (lv_at hl 1 rfl) ?_
      refine lv_iadd hx hb dX11_count_41 ?_
      refine cm_cst (y := 10) (by decide) ?_
      refine va_iald hx hb hK hP 0 0 rfl rfl (cm_vin (by decide)) dX11_count_42 ?_
      refine cm_cst (y := 0) (by first | rfl | decide +kernel) ?_
      have hP9 := hP.sub (ws' := [(mo, .inr (11, [.ref mw, .ref ma, .ref mf, .ref m0, .ref m1, .ref mu, .ref mv, .ref u0, .ref u1, .ref iz, .int 0, .ref mb, .int 0, .int 0, .int 0, .int 0, .int 0, .int 0, .int 0]))]) [1] rfl
      have hD9 := hD.sub (ws' := [(mo, .inr (11, [.ref mw, .ref ma, .ref mf, .ref m0, .ref m1, .ref mu, .ref mv, .ref u0, .ref u1, .ref iz, .int 0, .ref mb, .int 0, .int 0, .int 0, .int 0, .int 0, .int 0, .int 0]))]) [1] (by decide) rfl
      exact W.iret (v := 0) hx hb hr (fun t ht hW => ⟨⟨0, 0, rfl, (Or.inl ⟨rfl, cm_inT2 (by decide) (by decide) hc_3, rfl⟩), by rw [ht]; exact hP9, by rw [hAe]; exact hD9⟩, hS.F ht⟩) hS.2.2 dX11_count_43
    · refine lv_aload_n hx hb dX11_count_34 rfl (lv_at hl 0 rfl) ?_
      refine va_get (v := .ref mw) (D := D) (ci := 11) (C := RX11) (T := TX11) (N := 19) hx hb hts in_X11 hown hK hP 1 rfl rfl 0 (by decide) (hts _ kl_RX11_9) (fun _ h9 => h9) rfl dX11_count_35 ?_
      refine lv_bipush (v := 9) hx hb dX11_count_38 (by decide) ?_
      refine lv_iload_n hx hb dX11_count_40 rfl (lv_at hl 1 rfl) ?_
      refine lv_iadd hx hb dX11_count_41 ?_
      refine cm_cst (y := 11) (by decide) ?_
      refine va_iald hx hb hK hP 0 0 rfl rfl (cm_vin (by decide)) dX11_count_42 ?_
      refine cm_cst (y := 0) (by first | rfl | decide +kernel) ?_
      have hP9 := hP.sub (ws' := [(mo, .inr (11, [.ref mw, .ref ma, .ref mf, .ref m0, .ref m1, .ref mu, .ref mv, .ref u0, .ref u1, .ref iz, .int 0, .ref mb, .int 0, .int 0, .int 0, .int 0, .int 0, .int 0, .int 0]))]) [1] rfl
      have hD9 := hD.sub (ws' := [(mo, .inr (11, [.ref mw, .ref ma, .ref mf, .ref m0, .ref m1, .ref mu, .ref mv, .ref u0, .ref u1, .ref iz, .int 0, .ref mb, .int 0, .int 0, .int 0, .int 0, .int 0, .int 0, .int 0]))]) [1] (by decide) rfl
      exact W.iret (v := 0) hx hb hr (fun t ht hW => ⟨⟨0, 0, rfl, (Or.inl ⟨rfl, cm_inT2 (by decide) (by decide) hc_3, rfl⟩), by rw [ht]; exact hP9, by rw [hAe]; exact hD9⟩, hS.F ht⟩) hS.2.2 dX11_count_43
  · refine lv_iconst (v := 1) hx hb dX11_count_18 (by decide) ?_
    refine lv_goto (tgt := 23) hx hb dX11_count_19 (by decide) ?_
    refine lv_iconst (v := 1) hx hb dX11_count_23 (by decide) ?_
    refine cm_ki (wr := [(mw, .inl (ct 0, 958, .inl m_w0))]) (va_runV (As := [.int 1, .int 1]) (rest := []) ⟨hx, hb, hml, hown, hts⟩ (m_throwsIf_11 l D ct mo mw ma mf m0 m1 mu mv u0 u1 iz mb _) (cm_V 2 hts kc_X11_throwsIf ki_RX11 kl_RX11_328 kv_X11_throwsIf kx_X11_throwsIf kd_X11_throwsIf ⟨Nat.le_of_ble_eq_true rfl, Nat.le_of_ble_eq_true rfl⟩) (cm_preV hP hK hD hS hA hX [0] rfl rfl rfl (q0 := 0) (ci := 11) rfl rfl) rfl rfl hl.1 rfl (lv_room (Nat.le_of_ble_eq_true rfl)) dX11_count_24 ⟨Nat.le_of_ble_eq_true rfl, Nat.le_of_ble_eq_true rfl⟩) hP hD hS hA [0] [1] rfl rfl rfl (by decide) (fun r_6 u H locs hw_7 hP hD hS => ?_)
    have hw_7 : r_6 = 1 := hw_7
    obtain rfl := hw_7
    have hP : va_P D vwCl [(mw, .inl (ct 0, 958, .inl m_w0)), (mo, .inr (11, [.ref mw, .ref ma, .ref mf, .ref m0, .ref m1, .ref mu, .ref mv, .ref u0, .ref u1, .ref iz, .int 1, .ref mb, .int 0, .int 0, .int 0, .int 0, .int 0, .int 0, .int 0]))] H := hP
    have hD : va_D A [(mw, .inl (ct 0, 958, .inl m_w0)), (mo, .inr (11, [.ref mw, .ref ma, .ref mf, .ref m0, .ref m1, .ref mu, .ref mv, .ref u0, .ref u1, .ref iz, .int 1, .ref mb, .int 0, .int 0, .int 0, .int 0, .int 0, .int 0, .int 0]))] := hD
    refine lv_if_eq (tgt := 34) hx hb dX11_count_27 (by decide) (fun hc => absurd hc (by decide)) (fun _ => ?_)
    refine lv_iconst (v := 0) hx hb dX11_count_30 (by decide) ?_
    refine lv_goto (tgt := 43) hx hb dX11_count_31 (by decide) ?_
    have hP9 := hP.sub (ws' := [(mo, .inr (11, [.ref mw, .ref ma, .ref mf, .ref m0, .ref m1, .ref mu, .ref mv, .ref u0, .ref u1, .ref iz, .int 1, .ref mb, .int 0, .int 0, .int 0, .int 0, .int 0, .int 0, .int 0]))]) [1] rfl
    have hD9 := hD.sub (ws' := [(mo, .inr (11, [.ref mw, .ref ma, .ref mf, .ref m0, .ref m1, .ref mu, .ref mv, .ref u0, .ref u1, .ref iz, .int 1, .ref mb, .int 0, .int 0, .int 0, .int 0, .int 0, .int 0, .int 0]))]) [1] (by decide) rfl
    exact W.iret (v := 0) hx hb hr (fun t ht hW => ⟨⟨0, 1, rfl, (Or.inr ⟨rfl, cm_inF (by decide) (by decide) hc_3⟩), by rw [ht]; exact hP9, by rw [hAe]; exact hD9⟩, hS.F ht⟩) hS.2.2 dX11_count_43
theorem dX11_setting_0 : decode cX11_setting 0 = .ok (.aload_n 0, 1) := by decide +kernel
theorem dX11_setting_1 : decode cX11_setting 1 = .ok (.iconst 0, 1) := by decide +kernel
theorem dX11_setting_2 : decode cX11_setting 2 = .ok (.putfield 49, 3) := by decide +kernel
theorem dX11_setting_5 : decode cX11_setting 5 = .ok (.aload_n 0, 1) := by decide +kernel
theorem dX11_setting_6 : decode cX11_setting 6 = .ok (.iload_n 1, 1) := by decide +kernel
theorem dX11_setting_7 : decode cX11_setting 7 = .ok (.i2l, 1) := by decide +kernel
theorem dX11_setting_8 : decode cX11_setting 8 = .ok (.lconst 0, 1) := by decide +kernel
theorem dX11_setting_9 : decode cX11_setting 9 = .ok (.ldc2_w 332, 3) := by decide +kernel
theorem dX11_setting_12 : decode cX11_setting 12 = .ok (.invokestatic 70, 3) := by decide +kernel
theorem dX11_setting_15 : decode cX11_setting 15 = .ok (.ifCond .ne 7, 3) := by decide +kernel
theorem dX11_setting_18 : decode cX11_setting 18 = .ok (.iconst 1, 1) := by decide +kernel
theorem dX11_setting_19 : decode cX11_setting 19 = .ok (.goto 4, 3) := by decide +kernel
theorem dX11_setting_22 : decode cX11_setting 22 = .ok (.iconst 0, 1) := by decide +kernel
theorem dX11_setting_23 : decode cX11_setting 23 = .ok (.iconst 1, 1) := by decide +kernel
theorem dX11_setting_24 : decode cX11_setting 24 = .ok (.invokevirtual 328, 3) := by decide +kernel
theorem dX11_setting_27 : decode cX11_setting 27 = .ok (.ifCond .eq 7, 3) := by decide +kernel
theorem dX11_setting_30 : decode cX11_setting 30 = .ok (.iconst 0, 1) := by decide +kernel
theorem dX11_setting_31 : decode cX11_setting 31 = .ok (.goto 9, 3) := by decide +kernel
theorem dX11_setting_34 : decode cX11_setting 34 = .ok (.aload_n 0, 1) := by decide +kernel
theorem dX11_setting_35 : decode cX11_setting 35 = .ok (.getfield 9, 3) := by decide +kernel
theorem dX11_setting_38 : decode cX11_setting 38 = .ok (.iload_n 1, 1) := by decide +kernel
theorem dX11_setting_39 : decode cX11_setting 39 = .ok (.iaload, 1) := by decide +kernel
theorem dX11_setting_40 : decode cX11_setting 40 = .ok (.ireturn, 1) := by decide +kernel
set_option maxRecDepth 100000 in
set_option maxHeartbeats 4000000 in
theorem m_setting_0 (l : Launch) (D : va_G) (ct : Nat → ClassId) (mo : Nat) (mw : Nat) (ma : Nat) (mf : Nat) (m0 : Nat) (m1 : Nat) (mu : Nat) (mv : Nat) (u0 : Nat) (u1 : Nat) (iz : Nat) (mb : Nat) (p1 : Int32) (sz : Nat) : Met l yX11_setting (ws_ yX11_setting cX11_setting 2 (some .int)) ({ frames := 1, cells := 0, slots := 0, locals := 25 } : Room) (va_Pc [.ref mo, .int p1] (cmP D ct sz [(mo, .inr (11, [.ref mw, .ref ma, .ref mf, .ref m0, .ref m1, .ref mu, .ref mv, .ref u0, .ref u1, .ref iz, .int 0, .ref mb, .int 0, .int 0, .int 0, .int 0, .int 0, .int 0, .int 0])), (mw, .inl (ct 0, 958, .inl m_w0))])) (va_Qi (fun (r : Int32) (th : Int32) => (th = 0 ∧ (0 ≤ p1 ∧ p1 ≤ 7) ∧ r = (cm_set0 p1)) ∨ (th = 1 ∧ (p1 < 0 ∨ 7 < p1))) (cmB D [(mo, .inr (11, [.ref mw, .ref ma, .ref mf, .ref m0, .ref m1, .ref mu, .ref mv, .ref u0, .ref u1, .ref iz, .int 0, .ref mb, .int 0, .int 0, .int 0, .int 0, .int 0, .int 0, .int 0])), (mw, .inl (ct 0, 958, .inl m_w0))] sz (fun th : Int32 => [(mo, .inr (11, [.ref mw, .ref ma, .ref mf, .ref m0, .ref m1, .ref mu, .ref mv, .ref u0, .ref u1, .ref iz, .int th, .ref mb, .int 0, .int 0, .int 0, .int 0, .int 0, .int 0, .int 0]))])) (va_A [(mo, .inr (11, [.ref mw, .ref ma, .ref mf, .ref m0, .ref m1, .ref mu, .ref mv, .ref u0, .ref u1, .ref iz, .int 0, .ref mb, .int 0, .int 0, .int 0, .int 0, .int 0, .int 0, .int 0])), (mw, .inl (ct 0, 958, .inl m_w0))] sz)) 0 0 (va_A [(mo, .inr (11, [.ref mw, .ref ma, .ref mf, .ref m0, .ref m1, .ref mu, .ref mv, .ref u0, .ref u1, .ref iz, .int 0, .ref mb, .int 0, .int 0, .int 0, .int 0, .int 0, .int 0, .int 0])), (mw, .inl (ct 0, 958, .inl m_w0))] sz) := by
  refine Met.ofW (cc := cX11_setting) (maxL := 2) (ret := (some .int)) (by decide) rfl ?_
  intro p e s m args below meth c s₁ B hml hv
  obtain ⟨rfl, hsz, hP, hK, hD0, hX⟩ := hv
  have hx := B.exec
  have hb := B.bytes
  have hr := B.returns
  have hts := ws_all (atoms_spec (ws := ws_ yX11_setting cX11_setting 2 (some .int)) B.pre)
  have hown : s.vm.findClass RX11 = some m.cls := findClass_of_methodNamed B.named
  have hlocks := B.notSynchronized
  subst hsz
  have hD := hD0.self (sz := s.heap.size)
  generalize hAe : va_A [(mo, .inr (11, [.ref mw, .ref ma, .ref mf, .ref m0, .ref m1, .ref mu, .ref mv, .ref u0, .ref u1, .ref iz, .int 0, .ref mb, .int 0, .int 0, .int 0, .int 0, .int 0, .int 0, .int 0])), (mw, .inl (ct 0, 958, .inl m_w0))] s.heap.size = A at hD hX ⊢
  have hA : ∀ q : Nat, s.heap.size ≤ q → A q := fun q h => by rw [← hAe]; exact Or.inr h
  have hS : va_S A s.heap s.heap [] := va_S.rf
  have hl := lv_entry ([.ref mo, .int p1]) (n := 2) (Nat.le_of_ble_eq_true rfl)
  rw [lg_entry_eq]
  generalize (lg_sl ([.ref mo, .int p1]) ++ List.replicate (2 - (lg_sl ([.ref mo, .int p1])).length) Slot.unset).toArray = ls at hl ⊢
  have hl : lv_has ls 2 [(0, .ref mo), (1, .int p1)] := hl
  refine lv_aload_n hx hb dX11_setting_0 rfl (lv_at hl 0 rfl) ?_
  refine lv_iconst (v := 0) hx hb dX11_setting_1 (by decide) ?_
  refine va_put (v := .int 0) (ty := .int) (D := D) (ci := 11) (C := RX11) (T := TX11) (N := 19) hx hb hts in_X11 tyX11 tyX11_ok nmX11 hown hK hP hD hS 0 rfl rfl 10 (by decide) (hts _ kl_RX11_49) (fun _ h9 => h9) rfl (by decide +kernel) rfl rfl (Nat.le_of_ble_eq_true rfl) dX11_setting_2 (fun H locs hP hD hS => ?_)
  have hP : va_P D vwCl [(mo, .inr (11, [.ref mw, .ref ma, .ref mf, .ref m0, .ref m1, .ref mu, .ref mv, .ref u0, .ref u1, .ref iz, .int 0, .ref mb, .int 0, .int 0, .int 0, .int 0, .int 0, .int 0, .int 0])), (mw, .inl (ct 0, 958, .inl m_w0))] H := hP
  have hD : va_D A [(mo, .inr (11, [.ref mw, .ref ma, .ref mf, .ref m0, .ref m1, .ref mu, .ref mv, .ref u0, .ref u1, .ref iz, .int 0, .ref mb, .int 0, .int 0, .int 0, .int 0, .int 0, .int 0, .int 0])), (mw, .inl (ct 0, 958, .inl m_w0))] := hD
  refine lv_aload_n hx hb dX11_setting_5 rfl (lv_at hl 0 rfl) ?_
  refine lv_iload_n hx hb dX11_setting_6 rfl (lv_at hl 1 rfl) ?_
  refine lv_i2l hx hb dX11_setting_7 rfl ?_
  refine lv_lconst (v := 0) hx hb dX11_setting_8 (by decide) ?_
  refine lv_ldc2 hx hb hown (hts _ kl_RX11_332) dX11_setting_9 ?_
  refine cm_ki (wr := [(mo, .inr (11, [.ref mw, .ref ma, .ref mf, .ref m0, .ref m1, .ref mu, .ref mv, .ref u0, .ref u1, .ref iz, .int 0, .ref mb, .int 0, .int 0, .int 0, .int 0, .int 0, .int 0, .int 0])), (mw, .inl (ct 0, 958, .inl m_w0))]) (va_runS (As := [.long p1.toInt64, .long 0, .long 7]) (rest := [.ref mo]) ⟨hx, hb, hml, hown, hts⟩ (m_in l D ct p1.toInt64 0 7 _) (cm_S 3 hts kc_X11_in ki_RX11 kl_RX11_70 ks_X11_in kd_X11_in ⟨Nat.le_of_ble_eq_true rfl, Nat.le_of_ble_eq_true rfl⟩) (cm_preS hP hK hD hS hA hX [] rfl rfl rfl) rfl rfl hl.1 rfl (lv_room (Nat.le_of_ble_eq_true rfl)) dX11_setting_12 ⟨Nat.le_of_ble_eq_true rfl, Nat.le_of_ble_eq_true rfl⟩) hP hD hS hA [] [0, 1] rfl rfl rfl (by decide) (fun r_1 u H locs hw_2 hP hD hS => ?_)
  have hw_2 : r_1 = (cm_rng p1.toInt64 0 7) := hw_2
  obtain rfl := hw_2
  have hP : va_P D vwCl [(mo, .inr (11, [.ref mw, .ref ma, .ref mf, .ref m0, .ref m1, .ref mu, .ref mv, .ref u0, .ref u1, .ref iz, .int 0, .ref mb, .int 0, .int 0, .int 0, .int 0, .int 0, .int 0, .int 0])), (mw, .inl (ct 0, 958, .inl m_w0))] H := hP
  have hD : va_D A [(mo, .inr (11, [.ref mw, .ref ma, .ref mf, .ref m0, .ref m1, .ref mu, .ref mv, .ref u0, .ref u1, .ref iz, .int 0, .ref mb, .int 0, .int 0, .int 0, .int 0, .int 0, .int 0, .int 0])), (mw, .inl (ct 0, 958, .inl m_w0))] := hD
  refine lv_if_ne (tgt := 22) hx hb dX11_setting_15 (by decide) (fun hc_3 => ?_) (fun hc_3 => ?_)
  · refine lv_iconst (v := 0) hx hb dX11_setting_22 (by decide) ?_
    refine lv_iconst (v := 1) hx hb dX11_setting_23 (by decide) ?_
    refine cm_ki (wr := [(mw, .inl (ct 0, 958, .inl m_w0))]) (va_runV (As := [.int 0, .int 1]) (rest := []) ⟨hx, hb, hml, hown, hts⟩ (m_throwsIf_01 l D ct mo mw ma mf m0 m1 mu mv u0 u1 iz mb _) (cm_V 2 hts kc_X11_throwsIf ki_RX11 kl_RX11_328 kv_X11_throwsIf kx_X11_throwsIf kd_X11_throwsIf ⟨Nat.le_of_ble_eq_true rfl, Nat.le_of_ble_eq_true rfl⟩) (cm_preV hP hK hD hS hA hX [0] rfl rfl rfl (q0 := 0) (ci := 11) rfl rfl) rfl rfl hl.1 rfl (lv_room (Nat.le_of_ble_eq_true rfl)) dX11_setting_24 ⟨Nat.le_of_ble_eq_true rfl, Nat.le_of_ble_eq_true rfl⟩) hP hD hS hA [0] [1] rfl rfl rfl (by decide) (fun r_4 u H locs hw_5 hP hD hS => ?_)
    have hw_5 : r_4 = 0 := hw_5
    obtain rfl := hw_5
    have hP : va_P D vwCl [(mw, .inl (ct 0, 958, .inl m_w0)), (mo, .inr (11, [.ref mw, .ref ma, .ref mf, .ref m0, .ref m1, .ref mu, .ref mv, .ref u0, .ref u1, .ref iz, .int 0, .ref mb, .int 0, .int 0, .int 0, .int 0, .int 0, .int 0, .int 0]))] H := hP
    have hD : va_D A [(mw, .inl (ct 0, 958, .inl m_w0)), (mo, .inr (11, [.ref mw, .ref ma, .ref mf, .ref m0, .ref m1, .ref mu, .ref mv, .ref u0, .ref u1, .ref iz, .int 0, .ref mb, .int 0, .int 0, .int 0, .int 0, .int 0, .int 0, .int 0]))] := hD
    refine lv_if_eq (tgt := 34) hx hb dX11_setting_27 (by decide) (fun _ => ?_) (fun hc => absurd (by decide) hc)
    rcases cm_upto7 (cm_inT2 (by decide) (by decide) hc_3) with rfl | rfl | rfl | rfl | rfl | rfl | rfl | rfl
    · refine lv_aload_n hx hb dX11_setting_34 rfl (lv_at hl 0 rfl) ?_
      refine va_get (v := .ref mw) (D := D) (ci := 11) (C := RX11) (T := TX11) (N := 19) hx hb hts in_X11 hown hK hP 1 rfl rfl 0 (by decide) (hts _ kl_RX11_9) (fun _ h9 => h9) rfl dX11_setting_35 ?_
      refine lv_iload_n hx hb dX11_setting_38 rfl (lv_at hl 1 rfl) ?_
      refine va_iald hx hb hK hP 0 0 rfl rfl (cm_vin (by decide)) dX11_setting_39 ?_
      refine cm_cst (y := 990) (by first | rfl | decide +kernel) ?_
      have hP9 := hP.sub (ws' := [(mo, .inr (11, [.ref mw, .ref ma, .ref mf, .ref m0, .ref m1, .ref mu, .ref mv, .ref u0, .ref u1, .ref iz, .int 0, .ref mb, .int 0, .int 0, .int 0, .int 0, .int 0, .int 0, .int 0]))]) [1] rfl
      have hD9 := hD.sub (ws' := [(mo, .inr (11, [.ref mw, .ref ma, .ref mf, .ref m0, .ref m1, .ref mu, .ref mv, .ref u0, .ref u1, .ref iz, .int 0, .ref mb, .int 0, .int 0, .int 0, .int 0, .int 0, .int 0, .int 0]))]) [1] (by decide) rfl
      exact W.iret (v := 990) hx hb hr (fun t ht hW => ⟨⟨990, 0, rfl, (Or.inl ⟨rfl, cm_inT2 (by decide) (by decide) hc_3, rfl⟩), by rw [ht]; exact hP9, by rw [hAe]; exact hD9⟩, hS.F ht⟩) hS.2.2 dX11_setting_40
    · refine lv_aload_n hx hb dX11_setting_34 rfl (lv_at hl 0 rfl) ?_
      refine va_get (v := .ref mw) (D := D) (ci := 11) (C := RX11) (T := TX11) (N := 19) hx hb hts in_X11 hown hK hP 1 rfl rfl 0 (by decide) (hts _ kl_RX11_9) (fun _ h9 => h9) rfl dX11_setting_35 ?_
      refine lv_iload_n hx hb dX11_setting_38 rfl (lv_at hl 1 rfl) ?_
      refine va_iald hx hb hK hP 0 0 rfl rfl (cm_vin (by decide)) dX11_setting_39 ?_
      refine cm_cst (y := 100000) (by first | rfl | decide +kernel) ?_
      have hP9 := hP.sub (ws' := [(mo, .inr (11, [.ref mw, .ref ma, .ref mf, .ref m0, .ref m1, .ref mu, .ref mv, .ref u0, .ref u1, .ref iz, .int 0, .ref mb, .int 0, .int 0, .int 0, .int 0, .int 0, .int 0, .int 0]))]) [1] rfl
      have hD9 := hD.sub (ws' := [(mo, .inr (11, [.ref mw, .ref ma, .ref mf, .ref m0, .ref m1, .ref mu, .ref mv, .ref u0, .ref u1, .ref iz, .int 0, .ref mb, .int 0, .int 0, .int 0, .int 0, .int 0, .int 0, .int 0]))]) [1] (by decide) rfl
      exact W.iret (v := 100000) hx hb hr (fun t ht hW => ⟨⟨100000, 0, rfl, (Or.inl ⟨rfl, cm_inT2 (by decide) (by decide) hc_3, rfl⟩), by rw [ht]; exact hP9, by rw [hAe]; exact hD9⟩, hS.F ht⟩) hS.2.2 dX11_setting_40
    · refine lv_aload_n hx hb dX11_setting_34 rfl (lv_at hl 0 rfl) ?_
      refine va_get (v := .ref mw) (D := D) (ci := 11) (C := RX11) (T := TX11) (N := 19) hx hb hts in_X11 hown hK hP 1 rfl rfl 0 (by decide) (hts _ kl_RX11_9) (fun _ h9 => h9) rfl dX11_setting_35 ?_
      refine lv_iload_n hx hb dX11_setting_38 rfl (lv_at hl 1 rfl) ?_
      refine va_iald hx hb hK hP 0 0 rfl rfl (cm_vin (by decide)) dX11_setting_39 ?_
      refine cm_cst (y := 100) (by first | rfl | decide +kernel) ?_
      have hP9 := hP.sub (ws' := [(mo, .inr (11, [.ref mw, .ref ma, .ref mf, .ref m0, .ref m1, .ref mu, .ref mv, .ref u0, .ref u1, .ref iz, .int 0, .ref mb, .int 0, .int 0, .int 0, .int 0, .int 0, .int 0, .int 0]))]) [1] rfl
      have hD9 := hD.sub (ws' := [(mo, .inr (11, [.ref mw, .ref ma, .ref mf, .ref m0, .ref m1, .ref mu, .ref mv, .ref u0, .ref u1, .ref iz, .int 0, .ref mb, .int 0, .int 0, .int 0, .int 0, .int 0, .int 0, .int 0]))]) [1] (by decide) rfl
      exact W.iret (v := 100) hx hb hr (fun t ht hW => ⟨⟨100, 0, rfl, (Or.inl ⟨rfl, cm_inT2 (by decide) (by decide) hc_3, rfl⟩), by rw [ht]; exact hP9, by rw [hAe]; exact hD9⟩, hS.F ht⟩) hS.2.2 dX11_setting_40
    · refine lv_aload_n hx hb dX11_setting_34 rfl (lv_at hl 0 rfl) ?_
      refine va_get (v := .ref mw) (D := D) (ci := 11) (C := RX11) (T := TX11) (N := 19) hx hb hts in_X11 hown hK hP 1 rfl rfl 0 (by decide) (hts _ kl_RX11_9) (fun _ h9 => h9) rfl dX11_setting_35 ?_
      refine lv_iload_n hx hb dX11_setting_38 rfl (lv_at hl 1 rfl) ?_
      refine va_iald hx hb hK hP 0 0 rfl rfl (cm_vin (by decide)) dX11_setting_39 ?_
      refine cm_cst (y := 5) (by first | rfl | decide +kernel) ?_
      have hP9 := hP.sub (ws' := [(mo, .inr (11, [.ref mw, .ref ma, .ref mf, .ref m0, .ref m1, .ref mu, .ref mv, .ref u0, .ref u1, .ref iz, .int 0, .ref mb, .int 0, .int 0, .int 0, .int 0, .int 0, .int 0, .int 0]))]) [1] rfl
      have hD9 := hD.sub (ws' := [(mo, .inr (11, [.ref mw, .ref ma, .ref mf, .ref m0, .ref m1, .ref mu, .ref mv, .ref u0, .ref u1, .ref iz, .int 0, .ref mb, .int 0, .int 0, .int 0, .int 0, .int 0, .int 0, .int 0]))]) [1] (by decide) rfl
      exact W.iret (v := 5) hx hb hr (fun t ht hW => ⟨⟨5, 0, rfl, (Or.inl ⟨rfl, cm_inT2 (by decide) (by decide) hc_3, rfl⟩), by rw [ht]; exact hP9, by rw [hAe]; exact hD9⟩, hS.F ht⟩) hS.2.2 dX11_setting_40
    · refine lv_aload_n hx hb dX11_setting_34 rfl (lv_at hl 0 rfl) ?_
      refine va_get (v := .ref mw) (D := D) (ci := 11) (C := RX11) (T := TX11) (N := 19) hx hb hts in_X11 hown hK hP 1 rfl rfl 0 (by decide) (hts _ kl_RX11_9) (fun _ h9 => h9) rfl dX11_setting_35 ?_
      refine lv_iload_n hx hb dX11_setting_38 rfl (lv_at hl 1 rfl) ?_
      refine va_iald hx hb hK hP 0 0 rfl rfl (cm_vin (by decide)) dX11_setting_39 ?_
      refine cm_cst (y := 0) (by first | rfl | decide +kernel) ?_
      have hP9 := hP.sub (ws' := [(mo, .inr (11, [.ref mw, .ref ma, .ref mf, .ref m0, .ref m1, .ref mu, .ref mv, .ref u0, .ref u1, .ref iz, .int 0, .ref mb, .int 0, .int 0, .int 0, .int 0, .int 0, .int 0, .int 0]))]) [1] rfl
      have hD9 := hD.sub (ws' := [(mo, .inr (11, [.ref mw, .ref ma, .ref mf, .ref m0, .ref m1, .ref mu, .ref mv, .ref u0, .ref u1, .ref iz, .int 0, .ref mb, .int 0, .int 0, .int 0, .int 0, .int 0, .int 0, .int 0]))]) [1] (by decide) rfl
      exact W.iret (v := 0) hx hb hr (fun t ht hW => ⟨⟨0, 0, rfl, (Or.inl ⟨rfl, cm_inT2 (by decide) (by decide) hc_3, rfl⟩), by rw [ht]; exact hP9, by rw [hAe]; exact hD9⟩, hS.F ht⟩) hS.2.2 dX11_setting_40
    · refine lv_aload_n hx hb dX11_setting_34 rfl (lv_at hl 0 rfl) ?_
      refine va_get (v := .ref mw) (D := D) (ci := 11) (C := RX11) (T := TX11) (N := 19) hx hb hts in_X11 hown hK hP 1 rfl rfl 0 (by decide) (hts _ kl_RX11_9) (fun _ h9 => h9) rfl dX11_setting_35 ?_
      refine lv_iload_n hx hb dX11_setting_38 rfl (lv_at hl 1 rfl) ?_
      refine va_iald hx hb hK hP 0 0 rfl rfl (cm_vin (by decide)) dX11_setting_39 ?_
      refine cm_cst (y := 5000) (by first | rfl | decide +kernel) ?_
      have hP9 := hP.sub (ws' := [(mo, .inr (11, [.ref mw, .ref ma, .ref mf, .ref m0, .ref m1, .ref mu, .ref mv, .ref u0, .ref u1, .ref iz, .int 0, .ref mb, .int 0, .int 0, .int 0, .int 0, .int 0, .int 0, .int 0]))]) [1] rfl
      have hD9 := hD.sub (ws' := [(mo, .inr (11, [.ref mw, .ref ma, .ref mf, .ref m0, .ref m1, .ref mu, .ref mv, .ref u0, .ref u1, .ref iz, .int 0, .ref mb, .int 0, .int 0, .int 0, .int 0, .int 0, .int 0, .int 0]))]) [1] (by decide) rfl
      exact W.iret (v := 5000) hx hb hr (fun t ht hW => ⟨⟨5000, 0, rfl, (Or.inl ⟨rfl, cm_inT2 (by decide) (by decide) hc_3, rfl⟩), by rw [ht]; exact hP9, by rw [hAe]; exact hD9⟩, hS.F ht⟩) hS.2.2 dX11_setting_40
    · refine lv_aload_n hx hb dX11_setting_34 rfl (lv_at hl 0 rfl) ?_
      refine va_get (v := .ref mw) (D := D) (ci := 11) (C := RX11) (T := TX11) (N := 19) hx hb hts in_X11 hown hK hP 1 rfl rfl 0 (by decide) (hts _ kl_RX11_9) (fun _ h9 => h9) rfl dX11_setting_35 ?_
      refine lv_iload_n hx hb dX11_setting_38 rfl (lv_at hl 1 rfl) ?_
      refine va_iald hx hb hK hP 0 0 rfl rfl (cm_vin (by decide)) dX11_setting_39 ?_
      refine cm_cst (y := 600) (by first | rfl | decide +kernel) ?_
      have hP9 := hP.sub (ws' := [(mo, .inr (11, [.ref mw, .ref ma, .ref mf, .ref m0, .ref m1, .ref mu, .ref mv, .ref u0, .ref u1, .ref iz, .int 0, .ref mb, .int 0, .int 0, .int 0, .int 0, .int 0, .int 0, .int 0]))]) [1] rfl
      have hD9 := hD.sub (ws' := [(mo, .inr (11, [.ref mw, .ref ma, .ref mf, .ref m0, .ref m1, .ref mu, .ref mv, .ref u0, .ref u1, .ref iz, .int 0, .ref mb, .int 0, .int 0, .int 0, .int 0, .int 0, .int 0, .int 0]))]) [1] (by decide) rfl
      exact W.iret (v := 600) hx hb hr (fun t ht hW => ⟨⟨600, 0, rfl, (Or.inl ⟨rfl, cm_inT2 (by decide) (by decide) hc_3, rfl⟩), by rw [ht]; exact hP9, by rw [hAe]; exact hD9⟩, hS.F ht⟩) hS.2.2 dX11_setting_40
    · refine lv_aload_n hx hb dX11_setting_34 rfl (lv_at hl 0 rfl) ?_
      refine va_get (v := .ref mw) (D := D) (ci := 11) (C := RX11) (T := TX11) (N := 19) hx hb hts in_X11 hown hK hP 1 rfl rfl 0 (by decide) (hts _ kl_RX11_9) (fun _ h9 => h9) rfl dX11_setting_35 ?_
      refine lv_iload_n hx hb dX11_setting_38 rfl (lv_at hl 1 rfl) ?_
      refine va_iald hx hb hK hP 0 0 rfl rfl (cm_vin (by decide)) dX11_setting_39 ?_
      refine cm_cst (y := 250) (by first | rfl | decide +kernel) ?_
      have hP9 := hP.sub (ws' := [(mo, .inr (11, [.ref mw, .ref ma, .ref mf, .ref m0, .ref m1, .ref mu, .ref mv, .ref u0, .ref u1, .ref iz, .int 0, .ref mb, .int 0, .int 0, .int 0, .int 0, .int 0, .int 0, .int 0]))]) [1] rfl
      have hD9 := hD.sub (ws' := [(mo, .inr (11, [.ref mw, .ref ma, .ref mf, .ref m0, .ref m1, .ref mu, .ref mv, .ref u0, .ref u1, .ref iz, .int 0, .ref mb, .int 0, .int 0, .int 0, .int 0, .int 0, .int 0, .int 0]))]) [1] (by decide) rfl
      exact W.iret (v := 250) hx hb hr (fun t ht hW => ⟨⟨250, 0, rfl, (Or.inl ⟨rfl, cm_inT2 (by decide) (by decide) hc_3, rfl⟩), by rw [ht]; exact hP9, by rw [hAe]; exact hD9⟩, hS.F ht⟩) hS.2.2 dX11_setting_40
  · refine lv_iconst (v := 1) hx hb dX11_setting_18 (by decide) ?_
    refine lv_goto (tgt := 23) hx hb dX11_setting_19 (by decide) ?_
    refine lv_iconst (v := 1) hx hb dX11_setting_23 (by decide) ?_
    refine cm_ki (wr := [(mw, .inl (ct 0, 958, .inl m_w0))]) (va_runV (As := [.int 1, .int 1]) (rest := []) ⟨hx, hb, hml, hown, hts⟩ (m_throwsIf_11 l D ct mo mw ma mf m0 m1 mu mv u0 u1 iz mb _) (cm_V 2 hts kc_X11_throwsIf ki_RX11 kl_RX11_328 kv_X11_throwsIf kx_X11_throwsIf kd_X11_throwsIf ⟨Nat.le_of_ble_eq_true rfl, Nat.le_of_ble_eq_true rfl⟩) (cm_preV hP hK hD hS hA hX [0] rfl rfl rfl (q0 := 0) (ci := 11) rfl rfl) rfl rfl hl.1 rfl (lv_room (Nat.le_of_ble_eq_true rfl)) dX11_setting_24 ⟨Nat.le_of_ble_eq_true rfl, Nat.le_of_ble_eq_true rfl⟩) hP hD hS hA [0] [1] rfl rfl rfl (by decide) (fun r_6 u H locs hw_7 hP hD hS => ?_)
    have hw_7 : r_6 = 1 := hw_7
    obtain rfl := hw_7
    have hP : va_P D vwCl [(mw, .inl (ct 0, 958, .inl m_w0)), (mo, .inr (11, [.ref mw, .ref ma, .ref mf, .ref m0, .ref m1, .ref mu, .ref mv, .ref u0, .ref u1, .ref iz, .int 1, .ref mb, .int 0, .int 0, .int 0, .int 0, .int 0, .int 0, .int 0]))] H := hP
    have hD : va_D A [(mw, .inl (ct 0, 958, .inl m_w0)), (mo, .inr (11, [.ref mw, .ref ma, .ref mf, .ref m0, .ref m1, .ref mu, .ref mv, .ref u0, .ref u1, .ref iz, .int 1, .ref mb, .int 0, .int 0, .int 0, .int 0, .int 0, .int 0, .int 0]))] := hD
    refine lv_if_eq (tgt := 34) hx hb dX11_setting_27 (by decide) (fun hc => absurd hc (by decide)) (fun _ => ?_)
    refine lv_iconst (v := 0) hx hb dX11_setting_30 (by decide) ?_
    refine lv_goto (tgt := 40) hx hb dX11_setting_31 (by decide) ?_
    have hP9 := hP.sub (ws' := [(mo, .inr (11, [.ref mw, .ref ma, .ref mf, .ref m0, .ref m1, .ref mu, .ref mv, .ref u0, .ref u1, .ref iz, .int 1, .ref mb, .int 0, .int 0, .int 0, .int 0, .int 0, .int 0, .int 0]))]) [1] rfl
    have hD9 := hD.sub (ws' := [(mo, .inr (11, [.ref mw, .ref ma, .ref mf, .ref m0, .ref m1, .ref mu, .ref mv, .ref u0, .ref u1, .ref iz, .int 1, .ref mb, .int 0, .int 0, .int 0, .int 0, .int 0, .int 0, .int 0]))]) [1] (by decide) rfl
    exact W.iret (v := 0) hx hb hr (fun t ht hW => ⟨⟨0, 1, rfl, (Or.inr ⟨rfl, cm_inF (by decide) (by decide) hc_3⟩), by rw [ht]; exact hP9, by rw [hAe]; exact hD9⟩, hS.F ht⟩) hS.2.2 dX11_setting_40
theorem dX11_setAmbient_0 : decode cX11_setAmbient 0 = .ok (.aload_n 0, 1) := by decide +kernel
theorem dX11_setAmbient_1 : decode cX11_setAmbient 1 = .ok (.iconst 0, 1) := by decide +kernel
theorem dX11_setAmbient_2 : decode cX11_setAmbient 2 = .ok (.putfield 49, 3) := by decide +kernel
theorem dX11_setAmbient_5 : decode cX11_setAmbient 5 = .ok (.aload_n 0, 1) := by decide +kernel
theorem dX11_setAmbient_6 : decode cX11_setAmbient 6 = .ok (.iload_n 1, 1) := by decide +kernel
theorem dX11_setAmbient_7 : decode cX11_setAmbient 7 = .ok (.i2l, 1) := by decide +kernel
theorem dX11_setAmbient_8 : decode cX11_setAmbient 8 = .ok (.lconst 0, 1) := by decide +kernel
theorem dX11_setAmbient_9 : decode cX11_setAmbient 9 = .ok (.ldc2_w 334, 3) := by decide +kernel
theorem dX11_setAmbient_12 : decode cX11_setAmbient 12 = .ok (.invokestatic 70, 3) := by decide +kernel
theorem dX11_setAmbient_15 : decode cX11_setAmbient 15 = .ok (.ifCond .ne 7, 3) := by decide +kernel
theorem dX11_setAmbient_18 : decode cX11_setAmbient 18 = .ok (.iconst 1, 1) := by decide +kernel
theorem dX11_setAmbient_19 : decode cX11_setAmbient 19 = .ok (.goto 4, 3) := by decide +kernel
theorem dX11_setAmbient_22 : decode cX11_setAmbient 22 = .ok (.iconst 0, 1) := by decide +kernel
theorem dX11_setAmbient_23 : decode cX11_setAmbient 23 = .ok (.iconst 1, 1) := by decide +kernel
theorem dX11_setAmbient_24 : decode cX11_setAmbient 24 = .ok (.invokevirtual 328, 3) := by decide +kernel
theorem dX11_setAmbient_27 : decode cX11_setAmbient 27 = .ok (.ifCond .eq 5, 3) := by decide +kernel
theorem dX11_setAmbient_30 : decode cX11_setAmbient 30 = .ok (.iconst 0, 1) := by decide +kernel
theorem dX11_setAmbient_31 : decode cX11_setAmbient 31 = .ok (.ireturn, 1) := by decide +kernel
theorem dX11_setAmbient_32 : decode cX11_setAmbient 32 = .ok (.aload_n 0, 1) := by decide +kernel
theorem dX11_setAmbient_33 : decode cX11_setAmbient 33 = .ok (.getfield 9, 3) := by decide +kernel
theorem dX11_setAmbient_36 : decode cX11_setAmbient 36 = .ok (.bipush 7, 2) := by decide +kernel
theorem dX11_setAmbient_38 : decode cX11_setAmbient 38 = .ok (.iaload, 1) := by decide +kernel
theorem dX11_setAmbient_39 : decode cX11_setAmbient 39 = .ok (.istore_n 2, 1) := by decide +kernel
theorem dX11_setAmbient_40 : decode cX11_setAmbient 40 = .ok (.aload_n 0, 1) := by decide +kernel
theorem dX11_setAmbient_41 : decode cX11_setAmbient 41 = .ok (.getfield 9, 3) := by decide +kernel
theorem dX11_setAmbient_44 : decode cX11_setAmbient 44 = .ok (.bipush 7, 2) := by decide +kernel
theorem dX11_setAmbient_46 : decode cX11_setAmbient 46 = .ok (.iload_n 1, 1) := by decide +kernel
theorem dX11_setAmbient_47 : decode cX11_setAmbient 47 = .ok (.iastore, 1) := by decide +kernel
theorem dX11_setAmbient_48 : decode cX11_setAmbient 48 = .ok (.iload_n 2, 1) := by decide +kernel
theorem dX11_setAmbient_49 : decode cX11_setAmbient 49 = .ok (.ireturn, 1) := by decide +kernel
set_option maxRecDepth 100000 in
set_option maxHeartbeats 4000000 in
theorem m_setAmbient_0 (l : Launch) (D : va_G) (ct : Nat → ClassId) (mo : Nat) (mw : Nat) (ma : Nat) (mf : Nat) (m0 : Nat) (m1 : Nat) (mu : Nat) (mv : Nat) (u0 : Nat) (u1 : Nat) (iz : Nat) (mb : Nat) (p1 : Int32) (sz : Nat) : Met l yX11_setAmbient (ws_ yX11_setAmbient cX11_setAmbient 3 (some .int)) ({ frames := 1, cells := 0, slots := 0, locals := 25 } : Room) (va_Pc [.ref mo, .int p1] (cmP D ct sz [(mo, .inr (11, [.ref mw, .ref ma, .ref mf, .ref m0, .ref m1, .ref mu, .ref mv, .ref u0, .ref u1, .ref iz, .int 0, .ref mb, .int 0, .int 0, .int 0, .int 0, .int 0, .int 0, .int 0])), (mw, .inl (ct 0, 958, .inl m_w0))])) (va_Qi (fun (r : Int32) (th : Int32) => (th = 0 ∧ (0 ≤ p1 ∧ p1 ≤ 500) ∧ r = 250) ∨ (th = 1 ∧ (p1 < 0 ∨ 500 < p1))) (cmB D [(mo, .inr (11, [.ref mw, .ref ma, .ref mf, .ref m0, .ref m1, .ref mu, .ref mv, .ref u0, .ref u1, .ref iz, .int 0, .ref mb, .int 0, .int 0, .int 0, .int 0, .int 0, .int 0, .int 0])), (mw, .inl (ct 0, 958, .inl m_w0))] sz (fun th : Int32 => [(mo, .inr (11, [.ref mw, .ref ma, .ref mf, .ref m0, .ref m1, .ref mu, .ref mv, .ref u0, .ref u1, .ref iz, .int th, .ref mb, .int 0, .int 0, .int 0, .int 0, .int 0, .int 0, .int 0]))])) (va_A [(mo, .inr (11, [.ref mw, .ref ma, .ref mf, .ref m0, .ref m1, .ref mu, .ref mv, .ref u0, .ref u1, .ref iz, .int 0, .ref mb, .int 0, .int 0, .int 0, .int 0, .int 0, .int 0, .int 0])), (mw, .inl (ct 0, 958, .inl m_w0))] sz)) 0 0 (va_A [(mo, .inr (11, [.ref mw, .ref ma, .ref mf, .ref m0, .ref m1, .ref mu, .ref mv, .ref u0, .ref u1, .ref iz, .int 0, .ref mb, .int 0, .int 0, .int 0, .int 0, .int 0, .int 0, .int 0])), (mw, .inl (ct 0, 958, .inl m_w0))] sz) := by
  refine Met.ofW (cc := cX11_setAmbient) (maxL := 3) (ret := (some .int)) (by decide) rfl ?_
  intro p e s m args below meth c s₁ B hml hv
  obtain ⟨rfl, hsz, hP, hK, hD0, hX⟩ := hv
  have hx := B.exec
  have hb := B.bytes
  have hr := B.returns
  have hts := ws_all (atoms_spec (ws := ws_ yX11_setAmbient cX11_setAmbient 3 (some .int)) B.pre)
  have hown : s.vm.findClass RX11 = some m.cls := findClass_of_methodNamed B.named
  have hlocks := B.notSynchronized
  subst hsz
  have hD := hD0.self (sz := s.heap.size)
  generalize hAe : va_A [(mo, .inr (11, [.ref mw, .ref ma, .ref mf, .ref m0, .ref m1, .ref mu, .ref mv, .ref u0, .ref u1, .ref iz, .int 0, .ref mb, .int 0, .int 0, .int 0, .int 0, .int 0, .int 0, .int 0])), (mw, .inl (ct 0, 958, .inl m_w0))] s.heap.size = A at hD hX ⊢
  have hA : ∀ q : Nat, s.heap.size ≤ q → A q := fun q h => by rw [← hAe]; exact Or.inr h
  have hS : va_S A s.heap s.heap [] := va_S.rf
  have hl := lv_entry ([.ref mo, .int p1]) (n := 3) (Nat.le_of_ble_eq_true rfl)
  rw [lg_entry_eq]
  generalize (lg_sl ([.ref mo, .int p1]) ++ List.replicate (3 - (lg_sl ([.ref mo, .int p1])).length) Slot.unset).toArray = ls at hl ⊢
  have hl : lv_has ls 3 [(0, .ref mo), (1, .int p1)] := hl
  refine lv_aload_n hx hb dX11_setAmbient_0 rfl (lv_at hl 0 rfl) ?_
  refine lv_iconst (v := 0) hx hb dX11_setAmbient_1 (by decide) ?_
  refine va_put (v := .int 0) (ty := .int) (D := D) (ci := 11) (C := RX11) (T := TX11) (N := 19) hx hb hts in_X11 tyX11 tyX11_ok nmX11 hown hK hP hD hS 0 rfl rfl 10 (by decide) (hts _ kl_RX11_49) (fun _ h9 => h9) rfl (by decide +kernel) rfl rfl (Nat.le_of_ble_eq_true rfl) dX11_setAmbient_2 (fun H locs hP hD hS => ?_)
  have hP : va_P D vwCl [(mo, .inr (11, [.ref mw, .ref ma, .ref mf, .ref m0, .ref m1, .ref mu, .ref mv, .ref u0, .ref u1, .ref iz, .int 0, .ref mb, .int 0, .int 0, .int 0, .int 0, .int 0, .int 0, .int 0])), (mw, .inl (ct 0, 958, .inl m_w0))] H := hP
  have hD : va_D A [(mo, .inr (11, [.ref mw, .ref ma, .ref mf, .ref m0, .ref m1, .ref mu, .ref mv, .ref u0, .ref u1, .ref iz, .int 0, .ref mb, .int 0, .int 0, .int 0, .int 0, .int 0, .int 0, .int 0])), (mw, .inl (ct 0, 958, .inl m_w0))] := hD
  refine lv_aload_n hx hb dX11_setAmbient_5 rfl (lv_at hl 0 rfl) ?_
  refine lv_iload_n hx hb dX11_setAmbient_6 rfl (lv_at hl 1 rfl) ?_
  refine lv_i2l hx hb dX11_setAmbient_7 rfl ?_
  refine lv_lconst (v := 0) hx hb dX11_setAmbient_8 (by decide) ?_
  refine lv_ldc2 hx hb hown (hts _ kl_RX11_334) dX11_setAmbient_9 ?_
  refine cm_ki (wr := [(mo, .inr (11, [.ref mw, .ref ma, .ref mf, .ref m0, .ref m1, .ref mu, .ref mv, .ref u0, .ref u1, .ref iz, .int 0, .ref mb, .int 0, .int 0, .int 0, .int 0, .int 0, .int 0, .int 0])), (mw, .inl (ct 0, 958, .inl m_w0))]) (va_runS (As := [.long p1.toInt64, .long 0, .long 500]) (rest := [.ref mo]) ⟨hx, hb, hml, hown, hts⟩ (m_in l D ct p1.toInt64 0 500 _) (cm_S 3 hts kc_X11_in ki_RX11 kl_RX11_70 ks_X11_in kd_X11_in ⟨Nat.le_of_ble_eq_true rfl, Nat.le_of_ble_eq_true rfl⟩) (cm_preS hP hK hD hS hA hX [] rfl rfl rfl) rfl rfl hl.1 rfl (lv_room (Nat.le_of_ble_eq_true rfl)) dX11_setAmbient_12 ⟨Nat.le_of_ble_eq_true rfl, Nat.le_of_ble_eq_true rfl⟩) hP hD hS hA [] [0, 1] rfl rfl rfl (by decide) (fun r_1 u H locs hw_2 hP hD hS => ?_)
  have hw_2 : r_1 = (cm_rng p1.toInt64 0 500) := hw_2
  obtain rfl := hw_2
  have hP : va_P D vwCl [(mo, .inr (11, [.ref mw, .ref ma, .ref mf, .ref m0, .ref m1, .ref mu, .ref mv, .ref u0, .ref u1, .ref iz, .int 0, .ref mb, .int 0, .int 0, .int 0, .int 0, .int 0, .int 0, .int 0])), (mw, .inl (ct 0, 958, .inl m_w0))] H := hP
  have hD : va_D A [(mo, .inr (11, [.ref mw, .ref ma, .ref mf, .ref m0, .ref m1, .ref mu, .ref mv, .ref u0, .ref u1, .ref iz, .int 0, .ref mb, .int 0, .int 0, .int 0, .int 0, .int 0, .int 0, .int 0])), (mw, .inl (ct 0, 958, .inl m_w0))] := hD
  refine lv_if_ne (tgt := 22) hx hb dX11_setAmbient_15 (by decide) (fun hc_3 => ?_) (fun hc_3 => ?_)
  · refine lv_iconst (v := 0) hx hb dX11_setAmbient_22 (by decide) ?_
    refine lv_iconst (v := 1) hx hb dX11_setAmbient_23 (by decide) ?_
    refine cm_ki (wr := [(mw, .inl (ct 0, 958, .inl m_w0))]) (va_runV (As := [.int 0, .int 1]) (rest := []) ⟨hx, hb, hml, hown, hts⟩ (m_throwsIf_01 l D ct mo mw ma mf m0 m1 mu mv u0 u1 iz mb _) (cm_V 2 hts kc_X11_throwsIf ki_RX11 kl_RX11_328 kv_X11_throwsIf kx_X11_throwsIf kd_X11_throwsIf ⟨Nat.le_of_ble_eq_true rfl, Nat.le_of_ble_eq_true rfl⟩) (cm_preV hP hK hD hS hA hX [0] rfl rfl rfl (q0 := 0) (ci := 11) rfl rfl) rfl rfl hl.1 rfl (lv_room (Nat.le_of_ble_eq_true rfl)) dX11_setAmbient_24 ⟨Nat.le_of_ble_eq_true rfl, Nat.le_of_ble_eq_true rfl⟩) hP hD hS hA [0] [1] rfl rfl rfl (by decide) (fun r_4 u H locs hw_5 hP hD hS => ?_)
    have hw_5 : r_4 = 0 := hw_5
    obtain rfl := hw_5
    have hP : va_P D vwCl [(mw, .inl (ct 0, 958, .inl m_w0)), (mo, .inr (11, [.ref mw, .ref ma, .ref mf, .ref m0, .ref m1, .ref mu, .ref mv, .ref u0, .ref u1, .ref iz, .int 0, .ref mb, .int 0, .int 0, .int 0, .int 0, .int 0, .int 0, .int 0]))] H := hP
    have hD : va_D A [(mw, .inl (ct 0, 958, .inl m_w0)), (mo, .inr (11, [.ref mw, .ref ma, .ref mf, .ref m0, .ref m1, .ref mu, .ref mv, .ref u0, .ref u1, .ref iz, .int 0, .ref mb, .int 0, .int 0, .int 0, .int 0, .int 0, .int 0, .int 0]))] := hD
    refine lv_if_eq (tgt := 32) hx hb dX11_setAmbient_27 (by decide) (fun _ => ?_) (fun hc => absurd (by decide) hc)
    refine lv_aload_n hx hb dX11_setAmbient_32 rfl (lv_at hl 0 rfl) ?_
    refine va_get (v := .ref mw) (D := D) (ci := 11) (C := RX11) (T := TX11) (N := 19) hx hb hts in_X11 hown hK hP 1 rfl rfl 0 (by decide) (hts _ kl_RX11_9) (fun _ h9 => h9) rfl dX11_setAmbient_33 ?_
    refine lv_bipush (v := 7) hx hb dX11_setAmbient_36 (by decide) ?_
    refine va_iald hx hb hK hP 0 0 rfl rfl (cm_vin (by decide)) dX11_setAmbient_38 ?_
    refine cm_cst (y := 250) (by first | rfl | decide +kernel) ?_
    refine lv_istore_n (lv' := [(2, .int 250), (0, .ref mo), (1, .int p1)]) hx hb dX11_setAmbient_39 rfl hl (by decide) rfl (fun ls hl => ?_)
    refine lv_aload_n hx hb dX11_setAmbient_40 rfl (lv_at hl 1 rfl) ?_
    refine va_get (v := .ref mw) (D := D) (ci := 11) (C := RX11) (T := TX11) (N := 19) hx hb hts in_X11 hown hK hP 1 rfl rfl 0 (by decide) (hts _ kl_RX11_9) (fun _ h9 => h9) rfl dX11_setAmbient_41 ?_
    refine lv_bipush (v := 7) hx hb dX11_setAmbient_44 (by decide) ?_
    refine lv_iload_n hx hb dX11_setAmbient_46 rfl (lv_at hl 2 rfl) ?_
    refine va_iast hx hb hK hP hD hS 0 0 rfl rfl (cm_vin (by decide)) dX11_setAmbient_47 (fun H locs hP hD hS => ?_)
    have hP : va_P D vwCl [(mw, .inl (ct 0, 958, .inl (upd m_w0 (7 : Int32).toNatClampNeg p1))), (mo, .inr (11, [.ref mw, .ref ma, .ref mf, .ref m0, .ref m1, .ref mu, .ref mv, .ref u0, .ref u1, .ref iz, .int 0, .ref mb, .int 0, .int 0, .int 0, .int 0, .int 0, .int 0, .int 0]))] H := hP
    have hD : va_D A [(mw, .inl (ct 0, 958, .inl (upd m_w0 (7 : Int32).toNatClampNeg p1))), (mo, .inr (11, [.ref mw, .ref ma, .ref mf, .ref m0, .ref m1, .ref mu, .ref mv, .ref u0, .ref u1, .ref iz, .int 0, .ref mb, .int 0, .int 0, .int 0, .int 0, .int 0, .int 0, .int 0]))] := hD
    refine lv_iload_n hx hb dX11_setAmbient_48 rfl (lv_at hl 0 rfl) ?_
    have hP9 := hP.sub (ws' := [(mo, .inr (11, [.ref mw, .ref ma, .ref mf, .ref m0, .ref m1, .ref mu, .ref mv, .ref u0, .ref u1, .ref iz, .int 0, .ref mb, .int 0, .int 0, .int 0, .int 0, .int 0, .int 0, .int 0]))]) [1] rfl
    have hD9 := hD.sub (ws' := [(mo, .inr (11, [.ref mw, .ref ma, .ref mf, .ref m0, .ref m1, .ref mu, .ref mv, .ref u0, .ref u1, .ref iz, .int 0, .ref mb, .int 0, .int 0, .int 0, .int 0, .int 0, .int 0, .int 0]))]) [1] (by decide) rfl
    exact W.iret (v := 250) hx hb hr (fun t ht hW => ⟨⟨250, 0, rfl, (Or.inl ⟨rfl, cm_inT2 (by decide) (by decide) hc_3, rfl⟩), by rw [ht]; exact hP9, by rw [hAe]; exact hD9⟩, hS.F ht⟩) hS.2.2 dX11_setAmbient_49
  · refine lv_iconst (v := 1) hx hb dX11_setAmbient_18 (by decide) ?_
    refine lv_goto (tgt := 23) hx hb dX11_setAmbient_19 (by decide) ?_
    refine lv_iconst (v := 1) hx hb dX11_setAmbient_23 (by decide) ?_
    refine cm_ki (wr := [(mw, .inl (ct 0, 958, .inl m_w0))]) (va_runV (As := [.int 1, .int 1]) (rest := []) ⟨hx, hb, hml, hown, hts⟩ (m_throwsIf_11 l D ct mo mw ma mf m0 m1 mu mv u0 u1 iz mb _) (cm_V 2 hts kc_X11_throwsIf ki_RX11 kl_RX11_328 kv_X11_throwsIf kx_X11_throwsIf kd_X11_throwsIf ⟨Nat.le_of_ble_eq_true rfl, Nat.le_of_ble_eq_true rfl⟩) (cm_preV hP hK hD hS hA hX [0] rfl rfl rfl (q0 := 0) (ci := 11) rfl rfl) rfl rfl hl.1 rfl (lv_room (Nat.le_of_ble_eq_true rfl)) dX11_setAmbient_24 ⟨Nat.le_of_ble_eq_true rfl, Nat.le_of_ble_eq_true rfl⟩) hP hD hS hA [0] [1] rfl rfl rfl (by decide) (fun r_6 u H locs hw_7 hP hD hS => ?_)
    have hw_7 : r_6 = 1 := hw_7
    obtain rfl := hw_7
    have hP : va_P D vwCl [(mw, .inl (ct 0, 958, .inl m_w0)), (mo, .inr (11, [.ref mw, .ref ma, .ref mf, .ref m0, .ref m1, .ref mu, .ref mv, .ref u0, .ref u1, .ref iz, .int 1, .ref mb, .int 0, .int 0, .int 0, .int 0, .int 0, .int 0, .int 0]))] H := hP
    have hD : va_D A [(mw, .inl (ct 0, 958, .inl m_w0)), (mo, .inr (11, [.ref mw, .ref ma, .ref mf, .ref m0, .ref m1, .ref mu, .ref mv, .ref u0, .ref u1, .ref iz, .int 1, .ref mb, .int 0, .int 0, .int 0, .int 0, .int 0, .int 0, .int 0]))] := hD
    refine lv_if_eq (tgt := 32) hx hb dX11_setAmbient_27 (by decide) (fun hc => absurd hc (by decide)) (fun _ => ?_)
    refine lv_iconst (v := 0) hx hb dX11_setAmbient_30 (by decide) ?_
    have hP9 := hP.sub (ws' := [(mo, .inr (11, [.ref mw, .ref ma, .ref mf, .ref m0, .ref m1, .ref mu, .ref mv, .ref u0, .ref u1, .ref iz, .int 1, .ref mb, .int 0, .int 0, .int 0, .int 0, .int 0, .int 0, .int 0]))]) [1] rfl
    have hD9 := hD.sub (ws' := [(mo, .inr (11, [.ref mw, .ref ma, .ref mf, .ref m0, .ref m1, .ref mu, .ref mv, .ref u0, .ref u1, .ref iz, .int 1, .ref mb, .int 0, .int 0, .int 0, .int 0, .int 0, .int 0, .int 0]))]) [1] (by decide) rfl
    exact W.iret (v := 0) hx hb hr (fun t ht hW => ⟨⟨0, 1, rfl, (Or.inr ⟨rfl, cm_inF (by decide) (by decide) hc_3⟩), by rw [ht]; exact hP9, by rw [hAe]; exact hD9⟩, hS.F ht⟩) hS.2.2 dX11_setAmbient_31
theorem dX11_setDerate_0 : decode cX11_setDerate 0 = .ok (.aload_n 0, 1) := by decide +kernel
theorem dX11_setDerate_1 : decode cX11_setDerate 1 = .ok (.iconst 0, 1) := by decide +kernel
theorem dX11_setDerate_2 : decode cX11_setDerate 2 = .ok (.putfield 49, 3) := by decide +kernel
theorem dX11_setDerate_5 : decode cX11_setDerate 5 = .ok (.aload_n 0, 1) := by decide +kernel
theorem dX11_setDerate_6 : decode cX11_setDerate 6 = .ok (.iload_n 1, 1) := by decide +kernel
theorem dX11_setDerate_7 : decode cX11_setDerate 7 = .ok (.i2l, 1) := by decide +kernel
theorem dX11_setDerate_8 : decode cX11_setDerate 8 = .ok (.lconst 0, 1) := by decide +kernel
theorem dX11_setDerate_9 : decode cX11_setDerate 9 = .ok (.ldc2_w 336, 3) := by decide +kernel
theorem dX11_setDerate_12 : decode cX11_setDerate 12 = .ok (.invokestatic 70, 3) := by decide +kernel
theorem dX11_setDerate_15 : decode cX11_setDerate 15 = .ok (.ifCond .ne 7, 3) := by decide +kernel
theorem dX11_setDerate_18 : decode cX11_setDerate 18 = .ok (.iconst 1, 1) := by decide +kernel
theorem dX11_setDerate_19 : decode cX11_setDerate 19 = .ok (.goto 4, 3) := by decide +kernel
theorem dX11_setDerate_22 : decode cX11_setDerate 22 = .ok (.iconst 0, 1) := by decide +kernel
theorem dX11_setDerate_23 : decode cX11_setDerate 23 = .ok (.iconst 1, 1) := by decide +kernel
theorem dX11_setDerate_24 : decode cX11_setDerate 24 = .ok (.invokevirtual 328, 3) := by decide +kernel
theorem dX11_setDerate_27 : decode cX11_setDerate 27 = .ok (.ifCond .eq 5, 3) := by decide +kernel
theorem dX11_setDerate_30 : decode cX11_setDerate 30 = .ok (.iconst 0, 1) := by decide +kernel
theorem dX11_setDerate_31 : decode cX11_setDerate 31 = .ok (.ireturn, 1) := by decide +kernel
theorem dX11_setDerate_32 : decode cX11_setDerate 32 = .ok (.aload_n 0, 1) := by decide +kernel
theorem dX11_setDerate_33 : decode cX11_setDerate 33 = .ok (.getfield 9, 3) := by decide +kernel
theorem dX11_setDerate_36 : decode cX11_setDerate 36 = .ok (.bipush 16, 2) := by decide +kernel
theorem dX11_setDerate_38 : decode cX11_setDerate 38 = .ok (.iaload, 1) := by decide +kernel
theorem dX11_setDerate_39 : decode cX11_setDerate 39 = .ok (.istore_n 2, 1) := by decide +kernel
theorem dX11_setDerate_40 : decode cX11_setDerate 40 = .ok (.aload_n 0, 1) := by decide +kernel
theorem dX11_setDerate_41 : decode cX11_setDerate 41 = .ok (.getfield 9, 3) := by decide +kernel
theorem dX11_setDerate_44 : decode cX11_setDerate 44 = .ok (.bipush 16, 2) := by decide +kernel
theorem dX11_setDerate_46 : decode cX11_setDerate 46 = .ok (.iload_n 1, 1) := by decide +kernel
theorem dX11_setDerate_47 : decode cX11_setDerate 47 = .ok (.iastore, 1) := by decide +kernel
theorem dX11_setDerate_48 : decode cX11_setDerate 48 = .ok (.iload_n 2, 1) := by decide +kernel
theorem dX11_setDerate_49 : decode cX11_setDerate 49 = .ok (.ireturn, 1) := by decide +kernel
set_option maxRecDepth 100000 in
set_option maxHeartbeats 4000000 in
theorem m_setDerate_0 (l : Launch) (D : va_G) (ct : Nat → ClassId) (mo : Nat) (mw : Nat) (ma : Nat) (mf : Nat) (m0 : Nat) (m1 : Nat) (mu : Nat) (mv : Nat) (u0 : Nat) (u1 : Nat) (iz : Nat) (mb : Nat) (p1 : Int32) (sz : Nat) : Met l yX11_setDerate (ws_ yX11_setDerate cX11_setDerate 3 (some .int)) ({ frames := 1, cells := 0, slots := 0, locals := 25 } : Room) (va_Pc [.ref mo, .int p1] (cmP D ct sz [(mo, .inr (11, [.ref mw, .ref ma, .ref mf, .ref m0, .ref m1, .ref mu, .ref mv, .ref u0, .ref u1, .ref iz, .int 0, .ref mb, .int 0, .int 0, .int 0, .int 0, .int 0, .int 0, .int 0])), (mw, .inl (ct 0, 958, .inl m_w0))])) (va_Qi (fun (r : Int32) (th : Int32) => (th = 0 ∧ (0 ≤ p1 ∧ p1 ≤ 200) ∧ r = 0) ∨ (th = 1 ∧ (p1 < 0 ∨ 200 < p1))) (cmB D [(mo, .inr (11, [.ref mw, .ref ma, .ref mf, .ref m0, .ref m1, .ref mu, .ref mv, .ref u0, .ref u1, .ref iz, .int 0, .ref mb, .int 0, .int 0, .int 0, .int 0, .int 0, .int 0, .int 0])), (mw, .inl (ct 0, 958, .inl m_w0))] sz (fun th : Int32 => [(mo, .inr (11, [.ref mw, .ref ma, .ref mf, .ref m0, .ref m1, .ref mu, .ref mv, .ref u0, .ref u1, .ref iz, .int th, .ref mb, .int 0, .int 0, .int 0, .int 0, .int 0, .int 0, .int 0]))])) (va_A [(mo, .inr (11, [.ref mw, .ref ma, .ref mf, .ref m0, .ref m1, .ref mu, .ref mv, .ref u0, .ref u1, .ref iz, .int 0, .ref mb, .int 0, .int 0, .int 0, .int 0, .int 0, .int 0, .int 0])), (mw, .inl (ct 0, 958, .inl m_w0))] sz)) 0 0 (va_A [(mo, .inr (11, [.ref mw, .ref ma, .ref mf, .ref m0, .ref m1, .ref mu, .ref mv, .ref u0, .ref u1, .ref iz, .int 0, .ref mb, .int 0, .int 0, .int 0, .int 0, .int 0, .int 0, .int 0])), (mw, .inl (ct 0, 958, .inl m_w0))] sz) := by
  refine Met.ofW (cc := cX11_setDerate) (maxL := 3) (ret := (some .int)) (by decide) rfl ?_
  intro p e s m args below meth c s₁ B hml hv
  obtain ⟨rfl, hsz, hP, hK, hD0, hX⟩ := hv
  have hx := B.exec
  have hb := B.bytes
  have hr := B.returns
  have hts := ws_all (atoms_spec (ws := ws_ yX11_setDerate cX11_setDerate 3 (some .int)) B.pre)
  have hown : s.vm.findClass RX11 = some m.cls := findClass_of_methodNamed B.named
  have hlocks := B.notSynchronized
  subst hsz
  have hD := hD0.self (sz := s.heap.size)
  generalize hAe : va_A [(mo, .inr (11, [.ref mw, .ref ma, .ref mf, .ref m0, .ref m1, .ref mu, .ref mv, .ref u0, .ref u1, .ref iz, .int 0, .ref mb, .int 0, .int 0, .int 0, .int 0, .int 0, .int 0, .int 0])), (mw, .inl (ct 0, 958, .inl m_w0))] s.heap.size = A at hD hX ⊢
  have hA : ∀ q : Nat, s.heap.size ≤ q → A q := fun q h => by rw [← hAe]; exact Or.inr h
  have hS : va_S A s.heap s.heap [] := va_S.rf
  have hl := lv_entry ([.ref mo, .int p1]) (n := 3) (Nat.le_of_ble_eq_true rfl)
  rw [lg_entry_eq]
  generalize (lg_sl ([.ref mo, .int p1]) ++ List.replicate (3 - (lg_sl ([.ref mo, .int p1])).length) Slot.unset).toArray = ls at hl ⊢
  have hl : lv_has ls 3 [(0, .ref mo), (1, .int p1)] := hl
  refine lv_aload_n hx hb dX11_setDerate_0 rfl (lv_at hl 0 rfl) ?_
  refine lv_iconst (v := 0) hx hb dX11_setDerate_1 (by decide) ?_
  refine va_put (v := .int 0) (ty := .int) (D := D) (ci := 11) (C := RX11) (T := TX11) (N := 19) hx hb hts in_X11 tyX11 tyX11_ok nmX11 hown hK hP hD hS 0 rfl rfl 10 (by decide) (hts _ kl_RX11_49) (fun _ h9 => h9) rfl (by decide +kernel) rfl rfl (Nat.le_of_ble_eq_true rfl) dX11_setDerate_2 (fun H locs hP hD hS => ?_)
  have hP : va_P D vwCl [(mo, .inr (11, [.ref mw, .ref ma, .ref mf, .ref m0, .ref m1, .ref mu, .ref mv, .ref u0, .ref u1, .ref iz, .int 0, .ref mb, .int 0, .int 0, .int 0, .int 0, .int 0, .int 0, .int 0])), (mw, .inl (ct 0, 958, .inl m_w0))] H := hP
  have hD : va_D A [(mo, .inr (11, [.ref mw, .ref ma, .ref mf, .ref m0, .ref m1, .ref mu, .ref mv, .ref u0, .ref u1, .ref iz, .int 0, .ref mb, .int 0, .int 0, .int 0, .int 0, .int 0, .int 0, .int 0])), (mw, .inl (ct 0, 958, .inl m_w0))] := hD
  refine lv_aload_n hx hb dX11_setDerate_5 rfl (lv_at hl 0 rfl) ?_
  refine lv_iload_n hx hb dX11_setDerate_6 rfl (lv_at hl 1 rfl) ?_
  refine lv_i2l hx hb dX11_setDerate_7 rfl ?_
  refine lv_lconst (v := 0) hx hb dX11_setDerate_8 (by decide) ?_
  refine lv_ldc2 hx hb hown (hts _ kl_RX11_336) dX11_setDerate_9 ?_
  refine cm_ki (wr := [(mo, .inr (11, [.ref mw, .ref ma, .ref mf, .ref m0, .ref m1, .ref mu, .ref mv, .ref u0, .ref u1, .ref iz, .int 0, .ref mb, .int 0, .int 0, .int 0, .int 0, .int 0, .int 0, .int 0])), (mw, .inl (ct 0, 958, .inl m_w0))]) (va_runS (As := [.long p1.toInt64, .long 0, .long 200]) (rest := [.ref mo]) ⟨hx, hb, hml, hown, hts⟩ (m_in l D ct p1.toInt64 0 200 _) (cm_S 3 hts kc_X11_in ki_RX11 kl_RX11_70 ks_X11_in kd_X11_in ⟨Nat.le_of_ble_eq_true rfl, Nat.le_of_ble_eq_true rfl⟩) (cm_preS hP hK hD hS hA hX [] rfl rfl rfl) rfl rfl hl.1 rfl (lv_room (Nat.le_of_ble_eq_true rfl)) dX11_setDerate_12 ⟨Nat.le_of_ble_eq_true rfl, Nat.le_of_ble_eq_true rfl⟩) hP hD hS hA [] [0, 1] rfl rfl rfl (by decide) (fun r_1 u H locs hw_2 hP hD hS => ?_)
  have hw_2 : r_1 = (cm_rng p1.toInt64 0 200) := hw_2
  obtain rfl := hw_2
  have hP : va_P D vwCl [(mo, .inr (11, [.ref mw, .ref ma, .ref mf, .ref m0, .ref m1, .ref mu, .ref mv, .ref u0, .ref u1, .ref iz, .int 0, .ref mb, .int 0, .int 0, .int 0, .int 0, .int 0, .int 0, .int 0])), (mw, .inl (ct 0, 958, .inl m_w0))] H := hP
  have hD : va_D A [(mo, .inr (11, [.ref mw, .ref ma, .ref mf, .ref m0, .ref m1, .ref mu, .ref mv, .ref u0, .ref u1, .ref iz, .int 0, .ref mb, .int 0, .int 0, .int 0, .int 0, .int 0, .int 0, .int 0])), (mw, .inl (ct 0, 958, .inl m_w0))] := hD
  refine lv_if_ne (tgt := 22) hx hb dX11_setDerate_15 (by decide) (fun hc_3 => ?_) (fun hc_3 => ?_)
  · refine lv_iconst (v := 0) hx hb dX11_setDerate_22 (by decide) ?_
    refine lv_iconst (v := 1) hx hb dX11_setDerate_23 (by decide) ?_
    refine cm_ki (wr := [(mw, .inl (ct 0, 958, .inl m_w0))]) (va_runV (As := [.int 0, .int 1]) (rest := []) ⟨hx, hb, hml, hown, hts⟩ (m_throwsIf_01 l D ct mo mw ma mf m0 m1 mu mv u0 u1 iz mb _) (cm_V 2 hts kc_X11_throwsIf ki_RX11 kl_RX11_328 kv_X11_throwsIf kx_X11_throwsIf kd_X11_throwsIf ⟨Nat.le_of_ble_eq_true rfl, Nat.le_of_ble_eq_true rfl⟩) (cm_preV hP hK hD hS hA hX [0] rfl rfl rfl (q0 := 0) (ci := 11) rfl rfl) rfl rfl hl.1 rfl (lv_room (Nat.le_of_ble_eq_true rfl)) dX11_setDerate_24 ⟨Nat.le_of_ble_eq_true rfl, Nat.le_of_ble_eq_true rfl⟩) hP hD hS hA [0] [1] rfl rfl rfl (by decide) (fun r_4 u H locs hw_5 hP hD hS => ?_)
    have hw_5 : r_4 = 0 := hw_5
    obtain rfl := hw_5
    have hP : va_P D vwCl [(mw, .inl (ct 0, 958, .inl m_w0)), (mo, .inr (11, [.ref mw, .ref ma, .ref mf, .ref m0, .ref m1, .ref mu, .ref mv, .ref u0, .ref u1, .ref iz, .int 0, .ref mb, .int 0, .int 0, .int 0, .int 0, .int 0, .int 0, .int 0]))] H := hP
    have hD : va_D A [(mw, .inl (ct 0, 958, .inl m_w0)), (mo, .inr (11, [.ref mw, .ref ma, .ref mf, .ref m0, .ref m1, .ref mu, .ref mv, .ref u0, .ref u1, .ref iz, .int 0, .ref mb, .int 0, .int 0, .int 0, .int 0, .int 0, .int 0, .int 0]))] := hD
    refine lv_if_eq (tgt := 32) hx hb dX11_setDerate_27 (by decide) (fun _ => ?_) (fun hc => absurd (by decide) hc)
    refine lv_aload_n hx hb dX11_setDerate_32 rfl (lv_at hl 0 rfl) ?_
    refine va_get (v := .ref mw) (D := D) (ci := 11) (C := RX11) (T := TX11) (N := 19) hx hb hts in_X11 hown hK hP 1 rfl rfl 0 (by decide) (hts _ kl_RX11_9) (fun _ h9 => h9) rfl dX11_setDerate_33 ?_
    refine lv_bipush (v := 16) hx hb dX11_setDerate_36 (by decide) ?_
    refine va_iald hx hb hK hP 0 0 rfl rfl (cm_vin (by decide)) dX11_setDerate_38 ?_
    refine cm_cst (y := 0) (by first | rfl | decide +kernel) ?_
    refine lv_istore_n (lv' := [(2, .int 0), (0, .ref mo), (1, .int p1)]) hx hb dX11_setDerate_39 rfl hl (by decide) rfl (fun ls hl => ?_)
    refine lv_aload_n hx hb dX11_setDerate_40 rfl (lv_at hl 1 rfl) ?_
    refine va_get (v := .ref mw) (D := D) (ci := 11) (C := RX11) (T := TX11) (N := 19) hx hb hts in_X11 hown hK hP 1 rfl rfl 0 (by decide) (hts _ kl_RX11_9) (fun _ h9 => h9) rfl dX11_setDerate_41 ?_
    refine lv_bipush (v := 16) hx hb dX11_setDerate_44 (by decide) ?_
    refine lv_iload_n hx hb dX11_setDerate_46 rfl (lv_at hl 2 rfl) ?_
    refine va_iast hx hb hK hP hD hS 0 0 rfl rfl (cm_vin (by decide)) dX11_setDerate_47 (fun H locs hP hD hS => ?_)
    have hP : va_P D vwCl [(mw, .inl (ct 0, 958, .inl (upd m_w0 (16 : Int32).toNatClampNeg p1))), (mo, .inr (11, [.ref mw, .ref ma, .ref mf, .ref m0, .ref m1, .ref mu, .ref mv, .ref u0, .ref u1, .ref iz, .int 0, .ref mb, .int 0, .int 0, .int 0, .int 0, .int 0, .int 0, .int 0]))] H := hP
    have hD : va_D A [(mw, .inl (ct 0, 958, .inl (upd m_w0 (16 : Int32).toNatClampNeg p1))), (mo, .inr (11, [.ref mw, .ref ma, .ref mf, .ref m0, .ref m1, .ref mu, .ref mv, .ref u0, .ref u1, .ref iz, .int 0, .ref mb, .int 0, .int 0, .int 0, .int 0, .int 0, .int 0, .int 0]))] := hD
    refine lv_iload_n hx hb dX11_setDerate_48 rfl (lv_at hl 0 rfl) ?_
    have hP9 := hP.sub (ws' := [(mo, .inr (11, [.ref mw, .ref ma, .ref mf, .ref m0, .ref m1, .ref mu, .ref mv, .ref u0, .ref u1, .ref iz, .int 0, .ref mb, .int 0, .int 0, .int 0, .int 0, .int 0, .int 0, .int 0]))]) [1] rfl
    have hD9 := hD.sub (ws' := [(mo, .inr (11, [.ref mw, .ref ma, .ref mf, .ref m0, .ref m1, .ref mu, .ref mv, .ref u0, .ref u1, .ref iz, .int 0, .ref mb, .int 0, .int 0, .int 0, .int 0, .int 0, .int 0, .int 0]))]) [1] (by decide) rfl
    exact W.iret (v := 0) hx hb hr (fun t ht hW => ⟨⟨0, 0, rfl, (Or.inl ⟨rfl, cm_inT2 (by decide) (by decide) hc_3, rfl⟩), by rw [ht]; exact hP9, by rw [hAe]; exact hD9⟩, hS.F ht⟩) hS.2.2 dX11_setDerate_49
  · refine lv_iconst (v := 1) hx hb dX11_setDerate_18 (by decide) ?_
    refine lv_goto (tgt := 23) hx hb dX11_setDerate_19 (by decide) ?_
    refine lv_iconst (v := 1) hx hb dX11_setDerate_23 (by decide) ?_
    refine cm_ki (wr := [(mw, .inl (ct 0, 958, .inl m_w0))]) (va_runV (As := [.int 1, .int 1]) (rest := []) ⟨hx, hb, hml, hown, hts⟩ (m_throwsIf_11 l D ct mo mw ma mf m0 m1 mu mv u0 u1 iz mb _) (cm_V 2 hts kc_X11_throwsIf ki_RX11 kl_RX11_328 kv_X11_throwsIf kx_X11_throwsIf kd_X11_throwsIf ⟨Nat.le_of_ble_eq_true rfl, Nat.le_of_ble_eq_true rfl⟩) (cm_preV hP hK hD hS hA hX [0] rfl rfl rfl (q0 := 0) (ci := 11) rfl rfl) rfl rfl hl.1 rfl (lv_room (Nat.le_of_ble_eq_true rfl)) dX11_setDerate_24 ⟨Nat.le_of_ble_eq_true rfl, Nat.le_of_ble_eq_true rfl⟩) hP hD hS hA [0] [1] rfl rfl rfl (by decide) (fun r_6 u H locs hw_7 hP hD hS => ?_)
    have hw_7 : r_6 = 1 := hw_7
    obtain rfl := hw_7
    have hP : va_P D vwCl [(mw, .inl (ct 0, 958, .inl m_w0)), (mo, .inr (11, [.ref mw, .ref ma, .ref mf, .ref m0, .ref m1, .ref mu, .ref mv, .ref u0, .ref u1, .ref iz, .int 1, .ref mb, .int 0, .int 0, .int 0, .int 0, .int 0, .int 0, .int 0]))] H := hP
    have hD : va_D A [(mw, .inl (ct 0, 958, .inl m_w0)), (mo, .inr (11, [.ref mw, .ref ma, .ref mf, .ref m0, .ref m1, .ref mu, .ref mv, .ref u0, .ref u1, .ref iz, .int 1, .ref mb, .int 0, .int 0, .int 0, .int 0, .int 0, .int 0, .int 0]))] := hD
    refine lv_if_eq (tgt := 32) hx hb dX11_setDerate_27 (by decide) (fun hc => absurd hc (by decide)) (fun _ => ?_)
    refine lv_iconst (v := 0) hx hb dX11_setDerate_30 (by decide) ?_
    have hP9 := hP.sub (ws' := [(mo, .inr (11, [.ref mw, .ref ma, .ref mf, .ref m0, .ref m1, .ref mu, .ref mv, .ref u0, .ref u1, .ref iz, .int 1, .ref mb, .int 0, .int 0, .int 0, .int 0, .int 0, .int 0, .int 0]))]) [1] rfl
    have hD9 := hD.sub (ws' := [(mo, .inr (11, [.ref mw, .ref ma, .ref mf, .ref m0, .ref m1, .ref mu, .ref mv, .ref u0, .ref u1, .ref iz, .int 1, .ref mb, .int 0, .int 0, .int 0, .int 0, .int 0, .int 0, .int 0]))]) [1] (by decide) rfl
    exact W.iret (v := 0) hx hb hr (fun t ht hW => ⟨⟨0, 1, rfl, (Or.inr ⟨rfl, cm_inF (by decide) (by decide) hc_3⟩), by rw [ht]; exact hP9, by rw [hAe]; exact hD9⟩, hS.F ht⟩) hS.2.2 dX11_setDerate_31
theorem dX11_inState_0 : decode cX11_inState 0 = .ok (.aload_n 0, 1) := by decide +kernel
theorem dX11_inState_1 : decode cX11_inState 1 = .ok (.iconst 0, 1) := by decide +kernel
theorem dX11_inState_2 : decode cX11_inState 2 = .ok (.putfield 49, 3) := by decide +kernel
theorem dX11_inState_5 : decode cX11_inState 5 = .ok (.aload_n 0, 1) := by decide +kernel
theorem dX11_inState_6 : decode cX11_inState 6 = .ok (.iload_n 1, 1) := by decide +kernel
theorem dX11_inState_7 : decode cX11_inState 7 = .ok (.i2l, 1) := by decide +kernel
theorem dX11_inState_8 : decode cX11_inState 8 = .ok (.lconst 0, 1) := by decide +kernel
theorem dX11_inState_9 : decode cX11_inState 9 = .ok (.ldc2_w 364, 3) := by decide +kernel
theorem dX11_inState_12 : decode cX11_inState 12 = .ok (.invokestatic 70, 3) := by decide +kernel
theorem dX11_inState_15 : decode cX11_inState 15 = .ok (.ifCond .ne 7, 3) := by decide +kernel
theorem dX11_inState_18 : decode cX11_inState 18 = .ok (.iconst 1, 1) := by decide +kernel
theorem dX11_inState_19 : decode cX11_inState 19 = .ok (.goto 4, 3) := by decide +kernel
theorem dX11_inState_22 : decode cX11_inState 22 = .ok (.iconst 0, 1) := by decide +kernel
theorem dX11_inState_23 : decode cX11_inState 23 = .ok (.iconst 1, 1) := by decide +kernel
theorem dX11_inState_24 : decode cX11_inState 24 = .ok (.invokevirtual 328, 3) := by decide +kernel
theorem dX11_inState_27 : decode cX11_inState 27 = .ok (.ifCond .eq 5, 3) := by decide +kernel
theorem dX11_inState_30 : decode cX11_inState 30 = .ok (.iconst 0, 1) := by decide +kernel
theorem dX11_inState_31 : decode cX11_inState 31 = .ok (.ireturn, 1) := by decide +kernel
theorem dX11_inState_32 : decode cX11_inState 32 = .ok (.iconst 0, 1) := by decide +kernel
theorem dX11_inState_33 : decode cX11_inState 33 = .ok (.istore_n 2, 1) := by decide +kernel
theorem dX11_inState_34 : decode cX11_inState 34 = .ok (.iconst 0, 1) := by decide +kernel
theorem dX11_inState_35 : decode cX11_inState 35 = .ok (.istore_n 3, 1) := by decide +kernel
theorem dX11_inState_36 : decode cX11_inState 36 = .ok (.iload_n 3, 1) := by decide +kernel
theorem dX11_inState_37 : decode cX11_inState 37 = .ok (.aload_n 0, 1) := by decide +kernel
theorem dX11_inState_38 : decode cX11_inState 38 = .ok (.getfield 9, 3) := by decide +kernel
theorem dX11_inState_41 : decode cX11_inState 41 = .ok (.bipush 9, 2) := by decide +kernel
theorem dX11_inState_43 : decode cX11_inState 43 = .ok (.iaload, 1) := by decide +kernel
theorem dX11_inState_44 : decode cX11_inState 44 = .ok (.if_icmp .ge 28, 3) := by decide +kernel
theorem dX11_inState_72 : decode cX11_inState 72 = .ok (.iload_n 2, 1) := by decide +kernel
theorem dX11_inState_73 : decode cX11_inState 73 = .ok (.ireturn, 1) := by decide +kernel
set_option maxRecDepth 100000 in
set_option maxHeartbeats 4000000 in
theorem m_inState_0 (l : Launch) (D : va_G) (ct : Nat → ClassId) (mo : Nat) (mw : Nat) (ma : Nat) (mf : Nat) (m0 : Nat) (m1 : Nat) (mu : Nat) (mv : Nat) (u0 : Nat) (u1 : Nat) (iz : Nat) (mb : Nat) (p1 : Int32) (sz : Nat) : Met l yX11_inState (ws_ yX11_inState cX11_inState 4 (some .int)) ({ frames := 1, cells := 0, slots := 0, locals := 25 } : Room) (va_Pc [.ref mo, .int p1] (cmP D ct sz [(mo, .inr (11, [.ref mw, .ref ma, .ref mf, .ref m0, .ref m1, .ref mu, .ref mv, .ref u0, .ref u1, .ref iz, .int 0, .ref mb, .int 0, .int 0, .int 0, .int 0, .int 0, .int 0, .int 0])), (mw, .inl (ct 0, 958, .inl m_w0))])) (va_Qi (fun (r : Int32) (th : Int32) => (th = 0 ∧ (0 ≤ p1 ∧ p1 ≤ 4) ∧ r = 0) ∨ (th = 1 ∧ (p1 < 0 ∨ 4 < p1))) (cmB D [(mo, .inr (11, [.ref mw, .ref ma, .ref mf, .ref m0, .ref m1, .ref mu, .ref mv, .ref u0, .ref u1, .ref iz, .int 0, .ref mb, .int 0, .int 0, .int 0, .int 0, .int 0, .int 0, .int 0])), (mw, .inl (ct 0, 958, .inl m_w0))] sz (fun th : Int32 => [(mo, .inr (11, [.ref mw, .ref ma, .ref mf, .ref m0, .ref m1, .ref mu, .ref mv, .ref u0, .ref u1, .ref iz, .int th, .ref mb, .int 0, .int 0, .int 0, .int 0, .int 0, .int 0, .int 0]))])) (va_A [(mo, .inr (11, [.ref mw, .ref ma, .ref mf, .ref m0, .ref m1, .ref mu, .ref mv, .ref u0, .ref u1, .ref iz, .int 0, .ref mb, .int 0, .int 0, .int 0, .int 0, .int 0, .int 0, .int 0])), (mw, .inl (ct 0, 958, .inl m_w0))] sz)) 0 0 (va_A [(mo, .inr (11, [.ref mw, .ref ma, .ref mf, .ref m0, .ref m1, .ref mu, .ref mv, .ref u0, .ref u1, .ref iz, .int 0, .ref mb, .int 0, .int 0, .int 0, .int 0, .int 0, .int 0, .int 0])), (mw, .inl (ct 0, 958, .inl m_w0))] sz) := by
  refine Met.ofW (cc := cX11_inState) (maxL := 4) (ret := (some .int)) (by decide) rfl ?_
  intro p e s m args below meth c s₁ B hml hv
  obtain ⟨rfl, hsz, hP, hK, hD0, hX⟩ := hv
  have hx := B.exec
  have hb := B.bytes
  have hr := B.returns
  have hts := ws_all (atoms_spec (ws := ws_ yX11_inState cX11_inState 4 (some .int)) B.pre)
  have hown : s.vm.findClass RX11 = some m.cls := findClass_of_methodNamed B.named
  have hlocks := B.notSynchronized
  subst hsz
  have hD := hD0.self (sz := s.heap.size)
  generalize hAe : va_A [(mo, .inr (11, [.ref mw, .ref ma, .ref mf, .ref m0, .ref m1, .ref mu, .ref mv, .ref u0, .ref u1, .ref iz, .int 0, .ref mb, .int 0, .int 0, .int 0, .int 0, .int 0, .int 0, .int 0])), (mw, .inl (ct 0, 958, .inl m_w0))] s.heap.size = A at hD hX ⊢
  have hA : ∀ q : Nat, s.heap.size ≤ q → A q := fun q h => by rw [← hAe]; exact Or.inr h
  have hS : va_S A s.heap s.heap [] := va_S.rf
  have hl := lv_entry ([.ref mo, .int p1]) (n := 4) (Nat.le_of_ble_eq_true rfl)
  rw [lg_entry_eq]
  generalize (lg_sl ([.ref mo, .int p1]) ++ List.replicate (4 - (lg_sl ([.ref mo, .int p1])).length) Slot.unset).toArray = ls at hl ⊢
  have hl : lv_has ls 4 [(0, .ref mo), (1, .int p1)] := hl
  refine lv_aload_n hx hb dX11_inState_0 rfl (lv_at hl 0 rfl) ?_
  refine lv_iconst (v := 0) hx hb dX11_inState_1 (by decide) ?_
  refine va_put (v := .int 0) (ty := .int) (D := D) (ci := 11) (C := RX11) (T := TX11) (N := 19) hx hb hts in_X11 tyX11 tyX11_ok nmX11 hown hK hP hD hS 0 rfl rfl 10 (by decide) (hts _ kl_RX11_49) (fun _ h9 => h9) rfl (by decide +kernel) rfl rfl (Nat.le_of_ble_eq_true rfl) dX11_inState_2 (fun H locs hP hD hS => ?_)
  have hP : va_P D vwCl [(mo, .inr (11, [.ref mw, .ref ma, .ref mf, .ref m0, .ref m1, .ref mu, .ref mv, .ref u0, .ref u1, .ref iz, .int 0, .ref mb, .int 0, .int 0, .int 0, .int 0, .int 0, .int 0, .int 0])), (mw, .inl (ct 0, 958, .inl m_w0))] H := hP
  have hD : va_D A [(mo, .inr (11, [.ref mw, .ref ma, .ref mf, .ref m0, .ref m1, .ref mu, .ref mv, .ref u0, .ref u1, .ref iz, .int 0, .ref mb, .int 0, .int 0, .int 0, .int 0, .int 0, .int 0, .int 0])), (mw, .inl (ct 0, 958, .inl m_w0))] := hD
  refine lv_aload_n hx hb dX11_inState_5 rfl (lv_at hl 0 rfl) ?_
  refine lv_iload_n hx hb dX11_inState_6 rfl (lv_at hl 1 rfl) ?_
  refine lv_i2l hx hb dX11_inState_7 rfl ?_
  refine lv_lconst (v := 0) hx hb dX11_inState_8 (by decide) ?_
  refine lv_ldc2 hx hb hown (hts _ kl_RX11_364) dX11_inState_9 ?_
  refine cm_ki (wr := [(mo, .inr (11, [.ref mw, .ref ma, .ref mf, .ref m0, .ref m1, .ref mu, .ref mv, .ref u0, .ref u1, .ref iz, .int 0, .ref mb, .int 0, .int 0, .int 0, .int 0, .int 0, .int 0, .int 0])), (mw, .inl (ct 0, 958, .inl m_w0))]) (va_runS (As := [.long p1.toInt64, .long 0, .long 4]) (rest := [.ref mo]) ⟨hx, hb, hml, hown, hts⟩ (m_in l D ct p1.toInt64 0 4 _) (cm_S 3 hts kc_X11_in ki_RX11 kl_RX11_70 ks_X11_in kd_X11_in ⟨Nat.le_of_ble_eq_true rfl, Nat.le_of_ble_eq_true rfl⟩) (cm_preS hP hK hD hS hA hX [] rfl rfl rfl) rfl rfl hl.1 rfl (lv_room (Nat.le_of_ble_eq_true rfl)) dX11_inState_12 ⟨Nat.le_of_ble_eq_true rfl, Nat.le_of_ble_eq_true rfl⟩) hP hD hS hA [] [0, 1] rfl rfl rfl (by decide) (fun r_1 u H locs hw_2 hP hD hS => ?_)
  have hw_2 : r_1 = (cm_rng p1.toInt64 0 4) := hw_2
  obtain rfl := hw_2
  have hP : va_P D vwCl [(mo, .inr (11, [.ref mw, .ref ma, .ref mf, .ref m0, .ref m1, .ref mu, .ref mv, .ref u0, .ref u1, .ref iz, .int 0, .ref mb, .int 0, .int 0, .int 0, .int 0, .int 0, .int 0, .int 0])), (mw, .inl (ct 0, 958, .inl m_w0))] H := hP
  have hD : va_D A [(mo, .inr (11, [.ref mw, .ref ma, .ref mf, .ref m0, .ref m1, .ref mu, .ref mv, .ref u0, .ref u1, .ref iz, .int 0, .ref mb, .int 0, .int 0, .int 0, .int 0, .int 0, .int 0, .int 0])), (mw, .inl (ct 0, 958, .inl m_w0))] := hD
  refine lv_if_ne (tgt := 22) hx hb dX11_inState_15 (by decide) (fun hc_3 => ?_) (fun hc_3 => ?_)
  · refine lv_iconst (v := 0) hx hb dX11_inState_22 (by decide) ?_
    refine lv_iconst (v := 1) hx hb dX11_inState_23 (by decide) ?_
    refine cm_ki (wr := [(mw, .inl (ct 0, 958, .inl m_w0))]) (va_runV (As := [.int 0, .int 1]) (rest := []) ⟨hx, hb, hml, hown, hts⟩ (m_throwsIf_01 l D ct mo mw ma mf m0 m1 mu mv u0 u1 iz mb _) (cm_V 2 hts kc_X11_throwsIf ki_RX11 kl_RX11_328 kv_X11_throwsIf kx_X11_throwsIf kd_X11_throwsIf ⟨Nat.le_of_ble_eq_true rfl, Nat.le_of_ble_eq_true rfl⟩) (cm_preV hP hK hD hS hA hX [0] rfl rfl rfl (q0 := 0) (ci := 11) rfl rfl) rfl rfl hl.1 rfl (lv_room (Nat.le_of_ble_eq_true rfl)) dX11_inState_24 ⟨Nat.le_of_ble_eq_true rfl, Nat.le_of_ble_eq_true rfl⟩) hP hD hS hA [0] [1] rfl rfl rfl (by decide) (fun r_4 u H locs hw_5 hP hD hS => ?_)
    have hw_5 : r_4 = 0 := hw_5
    obtain rfl := hw_5
    have hP : va_P D vwCl [(mw, .inl (ct 0, 958, .inl m_w0)), (mo, .inr (11, [.ref mw, .ref ma, .ref mf, .ref m0, .ref m1, .ref mu, .ref mv, .ref u0, .ref u1, .ref iz, .int 0, .ref mb, .int 0, .int 0, .int 0, .int 0, .int 0, .int 0, .int 0]))] H := hP
    have hD : va_D A [(mw, .inl (ct 0, 958, .inl m_w0)), (mo, .inr (11, [.ref mw, .ref ma, .ref mf, .ref m0, .ref m1, .ref mu, .ref mv, .ref u0, .ref u1, .ref iz, .int 0, .ref mb, .int 0, .int 0, .int 0, .int 0, .int 0, .int 0, .int 0]))] := hD
    refine lv_if_eq (tgt := 32) hx hb dX11_inState_27 (by decide) (fun _ => ?_) (fun hc => absurd (by decide) hc)
    refine lv_iconst (v := 0) hx hb dX11_inState_32 (by decide) ?_
    refine lv_istore_n (lv' := [(2, .int 0), (0, .ref mo), (1, .int p1)]) hx hb dX11_inState_33 rfl hl (by decide) rfl (fun ls hl => ?_)
    refine lv_iconst (v := 0) hx hb dX11_inState_34 (by decide) ?_
    refine lv_istore_n (lv' := [(3, .int 0), (2, .int 0), (0, .ref mo), (1, .int p1)]) hx hb dX11_inState_35 rfl hl (by decide) rfl (fun ls hl => ?_)
    refine lv_iload_n hx hb dX11_inState_36 rfl (lv_at hl 0 rfl) ?_
    refine lv_aload_n hx hb dX11_inState_37 rfl (lv_at hl 2 rfl) ?_
    refine va_get (v := .ref mw) (D := D) (ci := 11) (C := RX11) (T := TX11) (N := 19) hx hb hts in_X11 hown hK hP 1 rfl rfl 0 (by decide) (hts _ kl_RX11_9) (fun _ h9 => h9) rfl dX11_inState_38 ?_
    refine lv_bipush (v := 9) hx hb dX11_inState_41 (by decide) ?_
    refine va_iald hx hb hK hP 0 0 rfl rfl (cm_vin (by decide)) dX11_inState_43 ?_
    refine cm_cst (y := 0) (by first | rfl | decide +kernel) ?_
    refine lv_icmp_ge (tgt := 72) hx hb dX11_inState_44 (by decide) (fun _ => ?_) (fun hc => absurd (by decide) hc)
    refine lv_iload_n hx hb dX11_inState_72 rfl (lv_at hl 1 rfl) ?_
    have hP9 := hP.sub (ws' := [(mo, .inr (11, [.ref mw, .ref ma, .ref mf, .ref m0, .ref m1, .ref mu, .ref mv, .ref u0, .ref u1, .ref iz, .int 0, .ref mb, .int 0, .int 0, .int 0, .int 0, .int 0, .int 0, .int 0]))]) [1] rfl
    have hD9 := hD.sub (ws' := [(mo, .inr (11, [.ref mw, .ref ma, .ref mf, .ref m0, .ref m1, .ref mu, .ref mv, .ref u0, .ref u1, .ref iz, .int 0, .ref mb, .int 0, .int 0, .int 0, .int 0, .int 0, .int 0, .int 0]))]) [1] (by decide) rfl
    exact W.iret (v := 0) hx hb hr (fun t ht hW => ⟨⟨0, 0, rfl, (Or.inl ⟨rfl, cm_inT2 (by decide) (by decide) hc_3, rfl⟩), by rw [ht]; exact hP9, by rw [hAe]; exact hD9⟩, hS.F ht⟩) hS.2.2 dX11_inState_73
  · refine lv_iconst (v := 1) hx hb dX11_inState_18 (by decide) ?_
    refine lv_goto (tgt := 23) hx hb dX11_inState_19 (by decide) ?_
    refine lv_iconst (v := 1) hx hb dX11_inState_23 (by decide) ?_
    refine cm_ki (wr := [(mw, .inl (ct 0, 958, .inl m_w0))]) (va_runV (As := [.int 1, .int 1]) (rest := []) ⟨hx, hb, hml, hown, hts⟩ (m_throwsIf_11 l D ct mo mw ma mf m0 m1 mu mv u0 u1 iz mb _) (cm_V 2 hts kc_X11_throwsIf ki_RX11 kl_RX11_328 kv_X11_throwsIf kx_X11_throwsIf kd_X11_throwsIf ⟨Nat.le_of_ble_eq_true rfl, Nat.le_of_ble_eq_true rfl⟩) (cm_preV hP hK hD hS hA hX [0] rfl rfl rfl (q0 := 0) (ci := 11) rfl rfl) rfl rfl hl.1 rfl (lv_room (Nat.le_of_ble_eq_true rfl)) dX11_inState_24 ⟨Nat.le_of_ble_eq_true rfl, Nat.le_of_ble_eq_true rfl⟩) hP hD hS hA [0] [1] rfl rfl rfl (by decide) (fun r_6 u H locs hw_7 hP hD hS => ?_)
    have hw_7 : r_6 = 1 := hw_7
    obtain rfl := hw_7
    have hP : va_P D vwCl [(mw, .inl (ct 0, 958, .inl m_w0)), (mo, .inr (11, [.ref mw, .ref ma, .ref mf, .ref m0, .ref m1, .ref mu, .ref mv, .ref u0, .ref u1, .ref iz, .int 1, .ref mb, .int 0, .int 0, .int 0, .int 0, .int 0, .int 0, .int 0]))] H := hP
    have hD : va_D A [(mw, .inl (ct 0, 958, .inl m_w0)), (mo, .inr (11, [.ref mw, .ref ma, .ref mf, .ref m0, .ref m1, .ref mu, .ref mv, .ref u0, .ref u1, .ref iz, .int 1, .ref mb, .int 0, .int 0, .int 0, .int 0, .int 0, .int 0, .int 0]))] := hD
    refine lv_if_eq (tgt := 32) hx hb dX11_inState_27 (by decide) (fun hc => absurd hc (by decide)) (fun _ => ?_)
    refine lv_iconst (v := 0) hx hb dX11_inState_30 (by decide) ?_
    have hP9 := hP.sub (ws' := [(mo, .inr (11, [.ref mw, .ref ma, .ref mf, .ref m0, .ref m1, .ref mu, .ref mv, .ref u0, .ref u1, .ref iz, .int 1, .ref mb, .int 0, .int 0, .int 0, .int 0, .int 0, .int 0, .int 0]))]) [1] rfl
    have hD9 := hD.sub (ws' := [(mo, .inr (11, [.ref mw, .ref ma, .ref mf, .ref m0, .ref m1, .ref mu, .ref mv, .ref u0, .ref u1, .ref iz, .int 1, .ref mb, .int 0, .int 0, .int 0, .int 0, .int 0, .int 0, .int 0]))]) [1] (by decide) rfl
    exact W.iret (v := 0) hx hb hr (fun t ht hW => ⟨⟨0, 1, rfl, (Or.inr ⟨rfl, cm_inF (by decide) (by decide) hc_3⟩), by rw [ht]; exact hP9, by rw [hAe]; exact hD9⟩, hS.F ht⟩) hS.2.2 dX11_inState_31
theorem dX11_record_0 : decode cX11_record 0 = .ok (.aload_n 0, 1) := by decide +kernel
theorem dX11_record_1 : decode cX11_record 1 = .ok (.iconst 0, 1) := by decide +kernel
theorem dX11_record_2 : decode cX11_record 2 = .ok (.putfield 49, 3) := by decide +kernel
theorem dX11_record_5 : decode cX11_record 5 = .ok (.aload_n 0, 1) := by decide +kernel
theorem dX11_record_6 : decode cX11_record 6 = .ok (.iload_n 2, 1) := by decide +kernel
theorem dX11_record_7 : decode cX11_record 7 = .ok (.i2l, 1) := by decide +kernel
theorem dX11_record_8 : decode cX11_record 8 = .ok (.lconst 0, 1) := by decide +kernel
theorem dX11_record_9 : decode cX11_record 9 = .ok (.ldc2_w 360, 3) := by decide +kernel
theorem dX11_record_12 : decode cX11_record 12 = .ok (.invokestatic 70, 3) := by decide +kernel
theorem dX11_record_15 : decode cX11_record 15 = .ok (.ifCond .ne 7, 3) := by decide +kernel
theorem dX11_record_18 : decode cX11_record 18 = .ok (.iconst 1, 1) := by decide +kernel
theorem dX11_record_19 : decode cX11_record 19 = .ok (.goto 4, 3) := by decide +kernel
theorem dX11_record_22 : decode cX11_record 22 = .ok (.iconst 0, 1) := by decide +kernel
theorem dX11_record_23 : decode cX11_record 23 = .ok (.iconst 1, 1) := by decide +kernel
theorem dX11_record_24 : decode cX11_record 24 = .ok (.invokevirtual 328, 3) := by decide +kernel
theorem dX11_record_27 : decode cX11_record 27 = .ok (.ifCond .eq 5, 3) := by decide +kernel
theorem dX11_record_30 : decode cX11_record 30 = .ok (.iconst 0, 1) := by decide +kernel
theorem dX11_record_31 : decode cX11_record 31 = .ok (.ireturn, 1) := by decide +kernel
theorem dX11_record_32 : decode cX11_record 32 = .ok (.iload_n 1, 1) := by decide +kernel
theorem dX11_record_33 : decode cX11_record 33 = .ok (.i2l, 1) := by decide +kernel
theorem dX11_record_34 : decode cX11_record 34 = .ok (.lconst 0, 1) := by decide +kernel
theorem dX11_record_35 : decode cX11_record 35 = .ok (.aload_n 0, 1) := by decide +kernel
theorem dX11_record_36 : decode cX11_record 36 = .ok (.getfield 9, 3) := by decide +kernel
theorem dX11_record_39 : decode cX11_record 39 = .ok (.bipush 12, 2) := by decide +kernel
theorem dX11_record_41 : decode cX11_record 41 = .ok (.iaload, 1) := by decide +kernel
theorem dX11_record_42 : decode cX11_record 42 = .ok (.iconst 1, 1) := by decide +kernel
theorem dX11_record_43 : decode cX11_record 43 = .ok (.isub, 1) := by decide +kernel
theorem dX11_record_44 : decode cX11_record 44 = .ok (.i2l, 1) := by decide +kernel
theorem dX11_record_45 : decode cX11_record 45 = .ok (.invokestatic 70, 3) := by decide +kernel
theorem dX11_record_48 : decode cX11_record 48 = .ok (.ifCond .ne 5, 3) := by decide +kernel
theorem dX11_record_51 : decode cX11_record 51 = .ok (.iconst (-1), 1) := by decide +kernel
theorem dX11_record_52 : decode cX11_record 52 = .ok (.ireturn, 1) := by decide +kernel
set_option maxRecDepth 100000 in
set_option maxHeartbeats 4000000 in
theorem m_record_0 (l : Launch) (D : va_G) (ct : Nat → ClassId) (mo : Nat) (mw : Nat) (ma : Nat) (mf : Nat) (m0 : Nat) (m1 : Nat) (mu : Nat) (mv : Nat) (u0 : Nat) (u1 : Nat) (iz : Nat) (mb : Nat) (p1 : Int32) (p2 : Int32) (sz : Nat) : Met l yX11_record (ws_ yX11_record cX11_record 3 (some .int)) ({ frames := 1, cells := 0, slots := 0, locals := 25 } : Room) (va_Pc [.ref mo, .int p1, .int p2] (cmP D ct sz [(mo, .inr (11, [.ref mw, .ref ma, .ref mf, .ref m0, .ref m1, .ref mu, .ref mv, .ref u0, .ref u1, .ref iz, .int 0, .ref mb, .int 0, .int 0, .int 0, .int 0, .int 0, .int 0, .int 0])), (mw, .inl (ct 0, 958, .inl m_w0))])) (va_Qi (fun (r : Int32) (th : Int32) => (th = 0 ∧ (0 ≤ p2 ∧ p2 ≤ 5) ∧ r = (-1)) ∨ (th = 1 ∧ (p2 < 0 ∨ 5 < p2))) (cmB D [(mo, .inr (11, [.ref mw, .ref ma, .ref mf, .ref m0, .ref m1, .ref mu, .ref mv, .ref u0, .ref u1, .ref iz, .int 0, .ref mb, .int 0, .int 0, .int 0, .int 0, .int 0, .int 0, .int 0])), (mw, .inl (ct 0, 958, .inl m_w0))] sz (fun th : Int32 => [(mo, .inr (11, [.ref mw, .ref ma, .ref mf, .ref m0, .ref m1, .ref mu, .ref mv, .ref u0, .ref u1, .ref iz, .int th, .ref mb, .int 0, .int 0, .int 0, .int 0, .int 0, .int 0, .int 0]))])) (va_A [(mo, .inr (11, [.ref mw, .ref ma, .ref mf, .ref m0, .ref m1, .ref mu, .ref mv, .ref u0, .ref u1, .ref iz, .int 0, .ref mb, .int 0, .int 0, .int 0, .int 0, .int 0, .int 0, .int 0])), (mw, .inl (ct 0, 958, .inl m_w0))] sz)) 0 0 (va_A [(mo, .inr (11, [.ref mw, .ref ma, .ref mf, .ref m0, .ref m1, .ref mu, .ref mv, .ref u0, .ref u1, .ref iz, .int 0, .ref mb, .int 0, .int 0, .int 0, .int 0, .int 0, .int 0, .int 0])), (mw, .inl (ct 0, 958, .inl m_w0))] sz) := by
  refine Met.ofW (cc := cX11_record) (maxL := 3) (ret := (some .int)) (by decide) rfl ?_
  intro p e s m args below meth c s₁ B hml hv
  obtain ⟨rfl, hsz, hP, hK, hD0, hX⟩ := hv
  have hx := B.exec
  have hb := B.bytes
  have hr := B.returns
  have hts := ws_all (atoms_spec (ws := ws_ yX11_record cX11_record 3 (some .int)) B.pre)
  have hown : s.vm.findClass RX11 = some m.cls := findClass_of_methodNamed B.named
  have hlocks := B.notSynchronized
  subst hsz
  have hD := hD0.self (sz := s.heap.size)
  generalize hAe : va_A [(mo, .inr (11, [.ref mw, .ref ma, .ref mf, .ref m0, .ref m1, .ref mu, .ref mv, .ref u0, .ref u1, .ref iz, .int 0, .ref mb, .int 0, .int 0, .int 0, .int 0, .int 0, .int 0, .int 0])), (mw, .inl (ct 0, 958, .inl m_w0))] s.heap.size = A at hD hX ⊢
  have hA : ∀ q : Nat, s.heap.size ≤ q → A q := fun q h => by rw [← hAe]; exact Or.inr h
  have hS : va_S A s.heap s.heap [] := va_S.rf
  have hl := lv_entry ([.ref mo, .int p1, .int p2]) (n := 3) (Nat.le_of_ble_eq_true rfl)
  rw [lg_entry_eq]
  generalize (lg_sl ([.ref mo, .int p1, .int p2]) ++ List.replicate (3 - (lg_sl ([.ref mo, .int p1, .int p2])).length) Slot.unset).toArray = ls at hl ⊢
  have hl : lv_has ls 3 [(0, .ref mo), (1, .int p1), (2, .int p2)] := hl
  refine lv_aload_n hx hb dX11_record_0 rfl (lv_at hl 0 rfl) ?_
  refine lv_iconst (v := 0) hx hb dX11_record_1 (by decide) ?_
  refine va_put (v := .int 0) (ty := .int) (D := D) (ci := 11) (C := RX11) (T := TX11) (N := 19) hx hb hts in_X11 tyX11 tyX11_ok nmX11 hown hK hP hD hS 0 rfl rfl 10 (by decide) (hts _ kl_RX11_49) (fun _ h9 => h9) rfl (by decide +kernel) rfl rfl (Nat.le_of_ble_eq_true rfl) dX11_record_2 (fun H locs hP hD hS => ?_)
  have hP : va_P D vwCl [(mo, .inr (11, [.ref mw, .ref ma, .ref mf, .ref m0, .ref m1, .ref mu, .ref mv, .ref u0, .ref u1, .ref iz, .int 0, .ref mb, .int 0, .int 0, .int 0, .int 0, .int 0, .int 0, .int 0])), (mw, .inl (ct 0, 958, .inl m_w0))] H := hP
  have hD : va_D A [(mo, .inr (11, [.ref mw, .ref ma, .ref mf, .ref m0, .ref m1, .ref mu, .ref mv, .ref u0, .ref u1, .ref iz, .int 0, .ref mb, .int 0, .int 0, .int 0, .int 0, .int 0, .int 0, .int 0])), (mw, .inl (ct 0, 958, .inl m_w0))] := hD
  refine lv_aload_n hx hb dX11_record_5 rfl (lv_at hl 0 rfl) ?_
  refine lv_iload_n hx hb dX11_record_6 rfl (lv_at hl 2 rfl) ?_
  refine lv_i2l hx hb dX11_record_7 rfl ?_
  refine lv_lconst (v := 0) hx hb dX11_record_8 (by decide) ?_
  refine lv_ldc2 hx hb hown (hts _ kl_RX11_360) dX11_record_9 ?_
  refine cm_ki (wr := [(mo, .inr (11, [.ref mw, .ref ma, .ref mf, .ref m0, .ref m1, .ref mu, .ref mv, .ref u0, .ref u1, .ref iz, .int 0, .ref mb, .int 0, .int 0, .int 0, .int 0, .int 0, .int 0, .int 0])), (mw, .inl (ct 0, 958, .inl m_w0))]) (va_runS (As := [.long p2.toInt64, .long 0, .long 5]) (rest := [.ref mo]) ⟨hx, hb, hml, hown, hts⟩ (m_in l D ct p2.toInt64 0 5 _) (cm_S 3 hts kc_X11_in ki_RX11 kl_RX11_70 ks_X11_in kd_X11_in ⟨Nat.le_of_ble_eq_true rfl, Nat.le_of_ble_eq_true rfl⟩) (cm_preS hP hK hD hS hA hX [] rfl rfl rfl) rfl rfl hl.1 rfl (lv_room (Nat.le_of_ble_eq_true rfl)) dX11_record_12 ⟨Nat.le_of_ble_eq_true rfl, Nat.le_of_ble_eq_true rfl⟩) hP hD hS hA [] [0, 1] rfl rfl rfl (by decide) (fun r_1 u H locs hw_2 hP hD hS => ?_)
  have hw_2 : r_1 = (cm_rng p2.toInt64 0 5) := hw_2
  obtain rfl := hw_2
  have hP : va_P D vwCl [(mo, .inr (11, [.ref mw, .ref ma, .ref mf, .ref m0, .ref m1, .ref mu, .ref mv, .ref u0, .ref u1, .ref iz, .int 0, .ref mb, .int 0, .int 0, .int 0, .int 0, .int 0, .int 0, .int 0])), (mw, .inl (ct 0, 958, .inl m_w0))] H := hP
  have hD : va_D A [(mo, .inr (11, [.ref mw, .ref ma, .ref mf, .ref m0, .ref m1, .ref mu, .ref mv, .ref u0, .ref u1, .ref iz, .int 0, .ref mb, .int 0, .int 0, .int 0, .int 0, .int 0, .int 0, .int 0])), (mw, .inl (ct 0, 958, .inl m_w0))] := hD
  refine lv_if_ne (tgt := 22) hx hb dX11_record_15 (by decide) (fun hc_3 => ?_) (fun hc_3 => ?_)
  · refine lv_iconst (v := 0) hx hb dX11_record_22 (by decide) ?_
    refine lv_iconst (v := 1) hx hb dX11_record_23 (by decide) ?_
    refine cm_ki (wr := [(mw, .inl (ct 0, 958, .inl m_w0))]) (va_runV (As := [.int 0, .int 1]) (rest := []) ⟨hx, hb, hml, hown, hts⟩ (m_throwsIf_01 l D ct mo mw ma mf m0 m1 mu mv u0 u1 iz mb _) (cm_V 2 hts kc_X11_throwsIf ki_RX11 kl_RX11_328 kv_X11_throwsIf kx_X11_throwsIf kd_X11_throwsIf ⟨Nat.le_of_ble_eq_true rfl, Nat.le_of_ble_eq_true rfl⟩) (cm_preV hP hK hD hS hA hX [0] rfl rfl rfl (q0 := 0) (ci := 11) rfl rfl) rfl rfl hl.1 rfl (lv_room (Nat.le_of_ble_eq_true rfl)) dX11_record_24 ⟨Nat.le_of_ble_eq_true rfl, Nat.le_of_ble_eq_true rfl⟩) hP hD hS hA [0] [1] rfl rfl rfl (by decide) (fun r_4 u H locs hw_5 hP hD hS => ?_)
    have hw_5 : r_4 = 0 := hw_5
    obtain rfl := hw_5
    have hP : va_P D vwCl [(mw, .inl (ct 0, 958, .inl m_w0)), (mo, .inr (11, [.ref mw, .ref ma, .ref mf, .ref m0, .ref m1, .ref mu, .ref mv, .ref u0, .ref u1, .ref iz, .int 0, .ref mb, .int 0, .int 0, .int 0, .int 0, .int 0, .int 0, .int 0]))] H := hP
    have hD : va_D A [(mw, .inl (ct 0, 958, .inl m_w0)), (mo, .inr (11, [.ref mw, .ref ma, .ref mf, .ref m0, .ref m1, .ref mu, .ref mv, .ref u0, .ref u1, .ref iz, .int 0, .ref mb, .int 0, .int 0, .int 0, .int 0, .int 0, .int 0, .int 0]))] := hD
    refine lv_if_eq (tgt := 32) hx hb dX11_record_27 (by decide) (fun _ => ?_) (fun hc => absurd (by decide) hc)
    refine lv_iload_n hx hb dX11_record_32 rfl (lv_at hl 1 rfl) ?_
    refine lv_i2l hx hb dX11_record_33 rfl ?_
    refine lv_lconst (v := 0) hx hb dX11_record_34 (by decide) ?_
    refine lv_aload_n hx hb dX11_record_35 rfl (lv_at hl 0 rfl) ?_
    refine va_get (v := .ref mw) (D := D) (ci := 11) (C := RX11) (T := TX11) (N := 19) hx hb hts in_X11 hown hK hP 1 rfl rfl 0 (by decide) (hts _ kl_RX11_9) (fun _ h9 => h9) rfl dX11_record_36 ?_
    refine lv_bipush (v := 12) hx hb dX11_record_39 (by decide) ?_
    refine va_iald hx hb hK hP 0 0 rfl rfl (cm_vin (by decide)) dX11_record_41 ?_
    refine cm_cst (y := 0) (by first | rfl | decide +kernel) ?_
    refine lv_iconst (v := 1) hx hb dX11_record_42 (by decide) ?_
    refine lv_isub hx hb dX11_record_43 ?_
    refine cm_cst (y := (-1)) (by decide) ?_
    refine lv_i2l (v := (-1)) hx hb dX11_record_44 (by decide) ?_
    refine cm_ki (wr := [(mw, .inl (ct 0, 958, .inl m_w0)), (mo, .inr (11, [.ref mw, .ref ma, .ref mf, .ref m0, .ref m1, .ref mu, .ref mv, .ref u0, .ref u1, .ref iz, .int 0, .ref mb, .int 0, .int 0, .int 0, .int 0, .int 0, .int 0, .int 0]))]) (va_runS (As := [.long p1.toInt64, .long 0, .long (-1)]) (rest := []) ⟨hx, hb, hml, hown, hts⟩ (m_in l D ct p1.toInt64 0 (-1) _) (cm_S 3 hts kc_X11_in ki_RX11 kl_RX11_70 ks_X11_in kd_X11_in ⟨Nat.le_of_ble_eq_true rfl, Nat.le_of_ble_eq_true rfl⟩) (cm_preS hP hK hD hS hA hX [] rfl rfl rfl) rfl rfl hl.1 rfl (lv_room (Nat.le_of_ble_eq_true rfl)) dX11_record_45 ⟨Nat.le_of_ble_eq_true rfl, Nat.le_of_ble_eq_true rfl⟩) hP hD hS hA [] [0, 1] rfl rfl rfl (by decide) (fun r_6 u H locs hw_7 hP hD hS => ?_)
    have hw_7 : r_6 = (cm_rng p1.toInt64 0 (-1)) := hw_7
    obtain rfl := hw_7
    have hP : va_P D vwCl [(mw, .inl (ct 0, 958, .inl m_w0)), (mo, .inr (11, [.ref mw, .ref ma, .ref mf, .ref m0, .ref m1, .ref mu, .ref mv, .ref u0, .ref u1, .ref iz, .int 0, .ref mb, .int 0, .int 0, .int 0, .int 0, .int 0, .int 0, .int 0]))] H := hP
    have hD : va_D A [(mw, .inl (ct 0, 958, .inl m_w0)), (mo, .inr (11, [.ref mw, .ref ma, .ref mf, .ref m0, .ref m1, .ref mu, .ref mv, .ref u0, .ref u1, .ref iz, .int 0, .ref mb, .int 0, .int 0, .int 0, .int 0, .int 0, .int 0, .int 0]))] := hD
    refine lv_if_ne (tgt := 53) hx hb dX11_record_48 (by decide) (fun hc => absurd (cm_in_m _) hc) (fun _ => ?_)
    refine lv_iconst (v := (-1)) hx hb dX11_record_51 (by decide) ?_
    have hP9 := hP.sub (ws' := [(mo, .inr (11, [.ref mw, .ref ma, .ref mf, .ref m0, .ref m1, .ref mu, .ref mv, .ref u0, .ref u1, .ref iz, .int 0, .ref mb, .int 0, .int 0, .int 0, .int 0, .int 0, .int 0, .int 0]))]) [1] rfl
    have hD9 := hD.sub (ws' := [(mo, .inr (11, [.ref mw, .ref ma, .ref mf, .ref m0, .ref m1, .ref mu, .ref mv, .ref u0, .ref u1, .ref iz, .int 0, .ref mb, .int 0, .int 0, .int 0, .int 0, .int 0, .int 0, .int 0]))]) [1] (by decide) rfl
    exact W.iret (v := (-1)) hx hb hr (fun t ht hW => ⟨⟨(-1), 0, rfl, (Or.inl ⟨rfl, cm_inT2 (by decide) (by decide) hc_3, rfl⟩), by rw [ht]; exact hP9, by rw [hAe]; exact hD9⟩, hS.F ht⟩) hS.2.2 dX11_record_52
  · refine lv_iconst (v := 1) hx hb dX11_record_18 (by decide) ?_
    refine lv_goto (tgt := 23) hx hb dX11_record_19 (by decide) ?_
    refine lv_iconst (v := 1) hx hb dX11_record_23 (by decide) ?_
    refine cm_ki (wr := [(mw, .inl (ct 0, 958, .inl m_w0))]) (va_runV (As := [.int 1, .int 1]) (rest := []) ⟨hx, hb, hml, hown, hts⟩ (m_throwsIf_11 l D ct mo mw ma mf m0 m1 mu mv u0 u1 iz mb _) (cm_V 2 hts kc_X11_throwsIf ki_RX11 kl_RX11_328 kv_X11_throwsIf kx_X11_throwsIf kd_X11_throwsIf ⟨Nat.le_of_ble_eq_true rfl, Nat.le_of_ble_eq_true rfl⟩) (cm_preV hP hK hD hS hA hX [0] rfl rfl rfl (q0 := 0) (ci := 11) rfl rfl) rfl rfl hl.1 rfl (lv_room (Nat.le_of_ble_eq_true rfl)) dX11_record_24 ⟨Nat.le_of_ble_eq_true rfl, Nat.le_of_ble_eq_true rfl⟩) hP hD hS hA [0] [1] rfl rfl rfl (by decide) (fun r_8 u H locs hw_9 hP hD hS => ?_)
    have hw_9 : r_8 = 1 := hw_9
    obtain rfl := hw_9
    have hP : va_P D vwCl [(mw, .inl (ct 0, 958, .inl m_w0)), (mo, .inr (11, [.ref mw, .ref ma, .ref mf, .ref m0, .ref m1, .ref mu, .ref mv, .ref u0, .ref u1, .ref iz, .int 1, .ref mb, .int 0, .int 0, .int 0, .int 0, .int 0, .int 0, .int 0]))] H := hP
    have hD : va_D A [(mw, .inl (ct 0, 958, .inl m_w0)), (mo, .inr (11, [.ref mw, .ref ma, .ref mf, .ref m0, .ref m1, .ref mu, .ref mv, .ref u0, .ref u1, .ref iz, .int 1, .ref mb, .int 0, .int 0, .int 0, .int 0, .int 0, .int 0, .int 0]))] := hD
    refine lv_if_eq (tgt := 32) hx hb dX11_record_27 (by decide) (fun hc => absurd hc (by decide)) (fun _ => ?_)
    refine lv_iconst (v := 0) hx hb dX11_record_30 (by decide) ?_
    have hP9 := hP.sub (ws' := [(mo, .inr (11, [.ref mw, .ref ma, .ref mf, .ref m0, .ref m1, .ref mu, .ref mv, .ref u0, .ref u1, .ref iz, .int 1, .ref mb, .int 0, .int 0, .int 0, .int 0, .int 0, .int 0, .int 0]))]) [1] rfl
    have hD9 := hD.sub (ws' := [(mo, .inr (11, [.ref mw, .ref ma, .ref mf, .ref m0, .ref m1, .ref mu, .ref mv, .ref u0, .ref u1, .ref iz, .int 1, .ref mb, .int 0, .int 0, .int 0, .int 0, .int 0, .int 0, .int 0]))]) [1] (by decide) rfl
    exact W.iret (v := 0) hx hb hr (fun t ht hW => ⟨⟨0, 1, rfl, (Or.inr ⟨rfl, cm_inF (by decide) (by decide) hc_3⟩), by rw [ht]; exact hP9, by rw [hAe]; exact hD9⟩, hS.F ht⟩) hS.2.2 dX11_record_31
theorem dX11_logEntry_0 : decode cX11_logEntry 0 = .ok (.aload_n 0, 1) := by decide +kernel
theorem dX11_logEntry_1 : decode cX11_logEntry 1 = .ok (.iconst 0, 1) := by decide +kernel
theorem dX11_logEntry_2 : decode cX11_logEntry 2 = .ok (.putfield 49, 3) := by decide +kernel
theorem dX11_logEntry_5 : decode cX11_logEntry 5 = .ok (.aload_n 0, 1) := by decide +kernel
theorem dX11_logEntry_6 : decode cX11_logEntry 6 = .ok (.iload_n 2, 1) := by decide +kernel
theorem dX11_logEntry_7 : decode cX11_logEntry 7 = .ok (.i2l, 1) := by decide +kernel
theorem dX11_logEntry_8 : decode cX11_logEntry 8 = .ok (.lconst 0, 1) := by decide +kernel
theorem dX11_logEntry_9 : decode cX11_logEntry 9 = .ok (.ldc2_w 358, 3) := by decide +kernel
theorem dX11_logEntry_12 : decode cX11_logEntry 12 = .ok (.invokestatic 70, 3) := by decide +kernel
theorem dX11_logEntry_15 : decode cX11_logEntry 15 = .ok (.ifCond .ne 7, 3) := by decide +kernel
theorem dX11_logEntry_18 : decode cX11_logEntry 18 = .ok (.iconst 1, 1) := by decide +kernel
theorem dX11_logEntry_19 : decode cX11_logEntry 19 = .ok (.goto 4, 3) := by decide +kernel
theorem dX11_logEntry_22 : decode cX11_logEntry 22 = .ok (.iconst 0, 1) := by decide +kernel
theorem dX11_logEntry_23 : decode cX11_logEntry 23 = .ok (.iconst 1, 1) := by decide +kernel
theorem dX11_logEntry_24 : decode cX11_logEntry 24 = .ok (.invokevirtual 328, 3) := by decide +kernel
theorem dX11_logEntry_27 : decode cX11_logEntry 27 = .ok (.ifCond .eq 5, 3) := by decide +kernel
theorem dX11_logEntry_30 : decode cX11_logEntry 30 = .ok (.iconst 0, 1) := by decide +kernel
theorem dX11_logEntry_31 : decode cX11_logEntry 31 = .ok (.ireturn, 1) := by decide +kernel
theorem dX11_logEntry_32 : decode cX11_logEntry 32 = .ok (.iload_n 1, 1) := by decide +kernel
theorem dX11_logEntry_33 : decode cX11_logEntry 33 = .ok (.i2l, 1) := by decide +kernel
theorem dX11_logEntry_34 : decode cX11_logEntry 34 = .ok (.lconst 0, 1) := by decide +kernel
theorem dX11_logEntry_35 : decode cX11_logEntry 35 = .ok (.aload_n 0, 1) := by decide +kernel
theorem dX11_logEntry_36 : decode cX11_logEntry 36 = .ok (.getfield 9, 3) := by decide +kernel
theorem dX11_logEntry_39 : decode cX11_logEntry 39 = .ok (.bipush 17, 2) := by decide +kernel
theorem dX11_logEntry_41 : decode cX11_logEntry 41 = .ok (.iaload, 1) := by decide +kernel
theorem dX11_logEntry_42 : decode cX11_logEntry 42 = .ok (.iconst 1, 1) := by decide +kernel
theorem dX11_logEntry_43 : decode cX11_logEntry 43 = .ok (.isub, 1) := by decide +kernel
theorem dX11_logEntry_44 : decode cX11_logEntry 44 = .ok (.i2l, 1) := by decide +kernel
theorem dX11_logEntry_45 : decode cX11_logEntry 45 = .ok (.invokestatic 70, 3) := by decide +kernel
theorem dX11_logEntry_48 : decode cX11_logEntry 48 = .ok (.ifCond .eq 20, 3) := by decide +kernel
theorem dX11_logEntry_68 : decode cX11_logEntry 68 = .ok (.iconst (-1), 1) := by decide +kernel
theorem dX11_logEntry_69 : decode cX11_logEntry 69 = .ok (.ireturn, 1) := by decide +kernel
set_option maxRecDepth 100000 in
set_option maxHeartbeats 4000000 in
theorem m_logEntry_0 (l : Launch) (D : va_G) (ct : Nat → ClassId) (mo : Nat) (mw : Nat) (ma : Nat) (mf : Nat) (m0 : Nat) (m1 : Nat) (mu : Nat) (mv : Nat) (u0 : Nat) (u1 : Nat) (iz : Nat) (mb : Nat) (p1 : Int32) (p2 : Int32) (sz : Nat) : Met l yX11_logEntry (ws_ yX11_logEntry cX11_logEntry 3 (some .int)) ({ frames := 1, cells := 0, slots := 0, locals := 25 } : Room) (va_Pc [.ref mo, .int p1, .int p2] (cmP D ct sz [(mo, .inr (11, [.ref mw, .ref ma, .ref mf, .ref m0, .ref m1, .ref mu, .ref mv, .ref u0, .ref u1, .ref iz, .int 0, .ref mb, .int 0, .int 0, .int 0, .int 0, .int 0, .int 0, .int 0])), (mw, .inl (ct 0, 958, .inl m_w0))])) (va_Qi (fun (r : Int32) (th : Int32) => (th = 0 ∧ (0 ≤ p2 ∧ p2 ≤ 3) ∧ r = (-1)) ∨ (th = 1 ∧ (p2 < 0 ∨ 3 < p2))) (cmB D [(mo, .inr (11, [.ref mw, .ref ma, .ref mf, .ref m0, .ref m1, .ref mu, .ref mv, .ref u0, .ref u1, .ref iz, .int 0, .ref mb, .int 0, .int 0, .int 0, .int 0, .int 0, .int 0, .int 0])), (mw, .inl (ct 0, 958, .inl m_w0))] sz (fun th : Int32 => [(mo, .inr (11, [.ref mw, .ref ma, .ref mf, .ref m0, .ref m1, .ref mu, .ref mv, .ref u0, .ref u1, .ref iz, .int th, .ref mb, .int 0, .int 0, .int 0, .int 0, .int 0, .int 0, .int 0]))])) (va_A [(mo, .inr (11, [.ref mw, .ref ma, .ref mf, .ref m0, .ref m1, .ref mu, .ref mv, .ref u0, .ref u1, .ref iz, .int 0, .ref mb, .int 0, .int 0, .int 0, .int 0, .int 0, .int 0, .int 0])), (mw, .inl (ct 0, 958, .inl m_w0))] sz)) 0 0 (va_A [(mo, .inr (11, [.ref mw, .ref ma, .ref mf, .ref m0, .ref m1, .ref mu, .ref mv, .ref u0, .ref u1, .ref iz, .int 0, .ref mb, .int 0, .int 0, .int 0, .int 0, .int 0, .int 0, .int 0])), (mw, .inl (ct 0, 958, .inl m_w0))] sz) := by
  refine Met.ofW (cc := cX11_logEntry) (maxL := 3) (ret := (some .int)) (by decide) rfl ?_
  intro p e s m args below meth c s₁ B hml hv
  obtain ⟨rfl, hsz, hP, hK, hD0, hX⟩ := hv
  have hx := B.exec
  have hb := B.bytes
  have hr := B.returns
  have hts := ws_all (atoms_spec (ws := ws_ yX11_logEntry cX11_logEntry 3 (some .int)) B.pre)
  have hown : s.vm.findClass RX11 = some m.cls := findClass_of_methodNamed B.named
  have hlocks := B.notSynchronized
  subst hsz
  have hD := hD0.self (sz := s.heap.size)
  generalize hAe : va_A [(mo, .inr (11, [.ref mw, .ref ma, .ref mf, .ref m0, .ref m1, .ref mu, .ref mv, .ref u0, .ref u1, .ref iz, .int 0, .ref mb, .int 0, .int 0, .int 0, .int 0, .int 0, .int 0, .int 0])), (mw, .inl (ct 0, 958, .inl m_w0))] s.heap.size = A at hD hX ⊢
  have hA : ∀ q : Nat, s.heap.size ≤ q → A q := fun q h => by rw [← hAe]; exact Or.inr h
  have hS : va_S A s.heap s.heap [] := va_S.rf
  have hl := lv_entry ([.ref mo, .int p1, .int p2]) (n := 3) (Nat.le_of_ble_eq_true rfl)
  rw [lg_entry_eq]
  generalize (lg_sl ([.ref mo, .int p1, .int p2]) ++ List.replicate (3 - (lg_sl ([.ref mo, .int p1, .int p2])).length) Slot.unset).toArray = ls at hl ⊢
  have hl : lv_has ls 3 [(0, .ref mo), (1, .int p1), (2, .int p2)] := hl
  refine lv_aload_n hx hb dX11_logEntry_0 rfl (lv_at hl 0 rfl) ?_
  refine lv_iconst (v := 0) hx hb dX11_logEntry_1 (by decide) ?_
  refine va_put (v := .int 0) (ty := .int) (D := D) (ci := 11) (C := RX11) (T := TX11) (N := 19) hx hb hts in_X11 tyX11 tyX11_ok nmX11 hown hK hP hD hS 0 rfl rfl 10 (by decide) (hts _ kl_RX11_49) (fun _ h9 => h9) rfl (by decide +kernel) rfl rfl (Nat.le_of_ble_eq_true rfl) dX11_logEntry_2 (fun H locs hP hD hS => ?_)
  have hP : va_P D vwCl [(mo, .inr (11, [.ref mw, .ref ma, .ref mf, .ref m0, .ref m1, .ref mu, .ref mv, .ref u0, .ref u1, .ref iz, .int 0, .ref mb, .int 0, .int 0, .int 0, .int 0, .int 0, .int 0, .int 0])), (mw, .inl (ct 0, 958, .inl m_w0))] H := hP
  have hD : va_D A [(mo, .inr (11, [.ref mw, .ref ma, .ref mf, .ref m0, .ref m1, .ref mu, .ref mv, .ref u0, .ref u1, .ref iz, .int 0, .ref mb, .int 0, .int 0, .int 0, .int 0, .int 0, .int 0, .int 0])), (mw, .inl (ct 0, 958, .inl m_w0))] := hD
  refine lv_aload_n hx hb dX11_logEntry_5 rfl (lv_at hl 0 rfl) ?_
  refine lv_iload_n hx hb dX11_logEntry_6 rfl (lv_at hl 2 rfl) ?_
  refine lv_i2l hx hb dX11_logEntry_7 rfl ?_
  refine lv_lconst (v := 0) hx hb dX11_logEntry_8 (by decide) ?_
  refine lv_ldc2 hx hb hown (hts _ kl_RX11_358) dX11_logEntry_9 ?_
  refine cm_ki (wr := [(mo, .inr (11, [.ref mw, .ref ma, .ref mf, .ref m0, .ref m1, .ref mu, .ref mv, .ref u0, .ref u1, .ref iz, .int 0, .ref mb, .int 0, .int 0, .int 0, .int 0, .int 0, .int 0, .int 0])), (mw, .inl (ct 0, 958, .inl m_w0))]) (va_runS (As := [.long p2.toInt64, .long 0, .long 3]) (rest := [.ref mo]) ⟨hx, hb, hml, hown, hts⟩ (m_in l D ct p2.toInt64 0 3 _) (cm_S 3 hts kc_X11_in ki_RX11 kl_RX11_70 ks_X11_in kd_X11_in ⟨Nat.le_of_ble_eq_true rfl, Nat.le_of_ble_eq_true rfl⟩) (cm_preS hP hK hD hS hA hX [] rfl rfl rfl) rfl rfl hl.1 rfl (lv_room (Nat.le_of_ble_eq_true rfl)) dX11_logEntry_12 ⟨Nat.le_of_ble_eq_true rfl, Nat.le_of_ble_eq_true rfl⟩) hP hD hS hA [] [0, 1] rfl rfl rfl (by decide) (fun r_1 u H locs hw_2 hP hD hS => ?_)
  have hw_2 : r_1 = (cm_rng p2.toInt64 0 3) := hw_2
  obtain rfl := hw_2
  have hP : va_P D vwCl [(mo, .inr (11, [.ref mw, .ref ma, .ref mf, .ref m0, .ref m1, .ref mu, .ref mv, .ref u0, .ref u1, .ref iz, .int 0, .ref mb, .int 0, .int 0, .int 0, .int 0, .int 0, .int 0, .int 0])), (mw, .inl (ct 0, 958, .inl m_w0))] H := hP
  have hD : va_D A [(mo, .inr (11, [.ref mw, .ref ma, .ref mf, .ref m0, .ref m1, .ref mu, .ref mv, .ref u0, .ref u1, .ref iz, .int 0, .ref mb, .int 0, .int 0, .int 0, .int 0, .int 0, .int 0, .int 0])), (mw, .inl (ct 0, 958, .inl m_w0))] := hD
  refine lv_if_ne (tgt := 22) hx hb dX11_logEntry_15 (by decide) (fun hc_3 => ?_) (fun hc_3 => ?_)
  · refine lv_iconst (v := 0) hx hb dX11_logEntry_22 (by decide) ?_
    refine lv_iconst (v := 1) hx hb dX11_logEntry_23 (by decide) ?_
    refine cm_ki (wr := [(mw, .inl (ct 0, 958, .inl m_w0))]) (va_runV (As := [.int 0, .int 1]) (rest := []) ⟨hx, hb, hml, hown, hts⟩ (m_throwsIf_01 l D ct mo mw ma mf m0 m1 mu mv u0 u1 iz mb _) (cm_V 2 hts kc_X11_throwsIf ki_RX11 kl_RX11_328 kv_X11_throwsIf kx_X11_throwsIf kd_X11_throwsIf ⟨Nat.le_of_ble_eq_true rfl, Nat.le_of_ble_eq_true rfl⟩) (cm_preV hP hK hD hS hA hX [0] rfl rfl rfl (q0 := 0) (ci := 11) rfl rfl) rfl rfl hl.1 rfl (lv_room (Nat.le_of_ble_eq_true rfl)) dX11_logEntry_24 ⟨Nat.le_of_ble_eq_true rfl, Nat.le_of_ble_eq_true rfl⟩) hP hD hS hA [0] [1] rfl rfl rfl (by decide) (fun r_4 u H locs hw_5 hP hD hS => ?_)
    have hw_5 : r_4 = 0 := hw_5
    obtain rfl := hw_5
    have hP : va_P D vwCl [(mw, .inl (ct 0, 958, .inl m_w0)), (mo, .inr (11, [.ref mw, .ref ma, .ref mf, .ref m0, .ref m1, .ref mu, .ref mv, .ref u0, .ref u1, .ref iz, .int 0, .ref mb, .int 0, .int 0, .int 0, .int 0, .int 0, .int 0, .int 0]))] H := hP
    have hD : va_D A [(mw, .inl (ct 0, 958, .inl m_w0)), (mo, .inr (11, [.ref mw, .ref ma, .ref mf, .ref m0, .ref m1, .ref mu, .ref mv, .ref u0, .ref u1, .ref iz, .int 0, .ref mb, .int 0, .int 0, .int 0, .int 0, .int 0, .int 0, .int 0]))] := hD
    refine lv_if_eq (tgt := 32) hx hb dX11_logEntry_27 (by decide) (fun _ => ?_) (fun hc => absurd (by decide) hc)
    refine lv_iload_n hx hb dX11_logEntry_32 rfl (lv_at hl 1 rfl) ?_
    refine lv_i2l hx hb dX11_logEntry_33 rfl ?_
    refine lv_lconst (v := 0) hx hb dX11_logEntry_34 (by decide) ?_
    refine lv_aload_n hx hb dX11_logEntry_35 rfl (lv_at hl 0 rfl) ?_
    refine va_get (v := .ref mw) (D := D) (ci := 11) (C := RX11) (T := TX11) (N := 19) hx hb hts in_X11 hown hK hP 1 rfl rfl 0 (by decide) (hts _ kl_RX11_9) (fun _ h9 => h9) rfl dX11_logEntry_36 ?_
    refine lv_bipush (v := 17) hx hb dX11_logEntry_39 (by decide) ?_
    refine va_iald hx hb hK hP 0 0 rfl rfl (cm_vin (by decide)) dX11_logEntry_41 ?_
    refine cm_cst (y := 0) (by first | rfl | decide +kernel) ?_
    refine lv_iconst (v := 1) hx hb dX11_logEntry_42 (by decide) ?_
    refine lv_isub hx hb dX11_logEntry_43 ?_
    refine cm_cst (y := (-1)) (by decide) ?_
    refine lv_i2l (v := (-1)) hx hb dX11_logEntry_44 (by decide) ?_
    refine cm_ki (wr := [(mw, .inl (ct 0, 958, .inl m_w0)), (mo, .inr (11, [.ref mw, .ref ma, .ref mf, .ref m0, .ref m1, .ref mu, .ref mv, .ref u0, .ref u1, .ref iz, .int 0, .ref mb, .int 0, .int 0, .int 0, .int 0, .int 0, .int 0, .int 0]))]) (va_runS (As := [.long p1.toInt64, .long 0, .long (-1)]) (rest := []) ⟨hx, hb, hml, hown, hts⟩ (m_in l D ct p1.toInt64 0 (-1) _) (cm_S 3 hts kc_X11_in ki_RX11 kl_RX11_70 ks_X11_in kd_X11_in ⟨Nat.le_of_ble_eq_true rfl, Nat.le_of_ble_eq_true rfl⟩) (cm_preS hP hK hD hS hA hX [] rfl rfl rfl) rfl rfl hl.1 rfl (lv_room (Nat.le_of_ble_eq_true rfl)) dX11_logEntry_45 ⟨Nat.le_of_ble_eq_true rfl, Nat.le_of_ble_eq_true rfl⟩) hP hD hS hA [] [0, 1] rfl rfl rfl (by decide) (fun r_6 u H locs hw_7 hP hD hS => ?_)
    have hw_7 : r_6 = (cm_rng p1.toInt64 0 (-1)) := hw_7
    obtain rfl := hw_7
    have hP : va_P D vwCl [(mw, .inl (ct 0, 958, .inl m_w0)), (mo, .inr (11, [.ref mw, .ref ma, .ref mf, .ref m0, .ref m1, .ref mu, .ref mv, .ref u0, .ref u1, .ref iz, .int 0, .ref mb, .int 0, .int 0, .int 0, .int 0, .int 0, .int 0, .int 0]))] H := hP
    have hD : va_D A [(mw, .inl (ct 0, 958, .inl m_w0)), (mo, .inr (11, [.ref mw, .ref ma, .ref mf, .ref m0, .ref m1, .ref mu, .ref mv, .ref u0, .ref u1, .ref iz, .int 0, .ref mb, .int 0, .int 0, .int 0, .int 0, .int 0, .int 0, .int 0]))] := hD
    refine lv_if_eq (tgt := 68) hx hb dX11_logEntry_48 (by decide) (fun _ => ?_) (fun hc => absurd (cm_in_m _) hc)
    refine lv_iconst (v := (-1)) hx hb dX11_logEntry_68 (by decide) ?_
    have hP9 := hP.sub (ws' := [(mo, .inr (11, [.ref mw, .ref ma, .ref mf, .ref m0, .ref m1, .ref mu, .ref mv, .ref u0, .ref u1, .ref iz, .int 0, .ref mb, .int 0, .int 0, .int 0, .int 0, .int 0, .int 0, .int 0]))]) [1] rfl
    have hD9 := hD.sub (ws' := [(mo, .inr (11, [.ref mw, .ref ma, .ref mf, .ref m0, .ref m1, .ref mu, .ref mv, .ref u0, .ref u1, .ref iz, .int 0, .ref mb, .int 0, .int 0, .int 0, .int 0, .int 0, .int 0, .int 0]))]) [1] (by decide) rfl
    exact W.iret (v := (-1)) hx hb hr (fun t ht hW => ⟨⟨(-1), 0, rfl, (Or.inl ⟨rfl, cm_inT2 (by decide) (by decide) hc_3, rfl⟩), by rw [ht]; exact hP9, by rw [hAe]; exact hD9⟩, hS.F ht⟩) hS.2.2 dX11_logEntry_69
  · refine lv_iconst (v := 1) hx hb dX11_logEntry_18 (by decide) ?_
    refine lv_goto (tgt := 23) hx hb dX11_logEntry_19 (by decide) ?_
    refine lv_iconst (v := 1) hx hb dX11_logEntry_23 (by decide) ?_
    refine cm_ki (wr := [(mw, .inl (ct 0, 958, .inl m_w0))]) (va_runV (As := [.int 1, .int 1]) (rest := []) ⟨hx, hb, hml, hown, hts⟩ (m_throwsIf_11 l D ct mo mw ma mf m0 m1 mu mv u0 u1 iz mb _) (cm_V 2 hts kc_X11_throwsIf ki_RX11 kl_RX11_328 kv_X11_throwsIf kx_X11_throwsIf kd_X11_throwsIf ⟨Nat.le_of_ble_eq_true rfl, Nat.le_of_ble_eq_true rfl⟩) (cm_preV hP hK hD hS hA hX [0] rfl rfl rfl (q0 := 0) (ci := 11) rfl rfl) rfl rfl hl.1 rfl (lv_room (Nat.le_of_ble_eq_true rfl)) dX11_logEntry_24 ⟨Nat.le_of_ble_eq_true rfl, Nat.le_of_ble_eq_true rfl⟩) hP hD hS hA [0] [1] rfl rfl rfl (by decide) (fun r_8 u H locs hw_9 hP hD hS => ?_)
    have hw_9 : r_8 = 1 := hw_9
    obtain rfl := hw_9
    have hP : va_P D vwCl [(mw, .inl (ct 0, 958, .inl m_w0)), (mo, .inr (11, [.ref mw, .ref ma, .ref mf, .ref m0, .ref m1, .ref mu, .ref mv, .ref u0, .ref u1, .ref iz, .int 1, .ref mb, .int 0, .int 0, .int 0, .int 0, .int 0, .int 0, .int 0]))] H := hP
    have hD : va_D A [(mw, .inl (ct 0, 958, .inl m_w0)), (mo, .inr (11, [.ref mw, .ref ma, .ref mf, .ref m0, .ref m1, .ref mu, .ref mv, .ref u0, .ref u1, .ref iz, .int 1, .ref mb, .int 0, .int 0, .int 0, .int 0, .int 0, .int 0, .int 0]))] := hD
    refine lv_if_eq (tgt := 32) hx hb dX11_logEntry_27 (by decide) (fun hc => absurd hc (by decide)) (fun _ => ?_)
    refine lv_iconst (v := 0) hx hb dX11_logEntry_30 (by decide) ?_
    have hP9 := hP.sub (ws' := [(mo, .inr (11, [.ref mw, .ref ma, .ref mf, .ref m0, .ref m1, .ref mu, .ref mv, .ref u0, .ref u1, .ref iz, .int 1, .ref mb, .int 0, .int 0, .int 0, .int 0, .int 0, .int 0, .int 0]))]) [1] rfl
    have hD9 := hD.sub (ws' := [(mo, .inr (11, [.ref mw, .ref ma, .ref mf, .ref m0, .ref m1, .ref mu, .ref mv, .ref u0, .ref u1, .ref iz, .int 1, .ref mb, .int 0, .int 0, .int 0, .int 0, .int 0, .int 0, .int 0]))]) [1] (by decide) rfl
    exact W.iret (v := 0) hx hb hr (fun t ht hW => ⟨⟨0, 1, rfl, (Or.inr ⟨rfl, cm_inF (by decide) (by decide) hc_3⟩), by rw [ht]; exact hP9, by rw [hAe]; exact hD9⟩, hS.F ht⟩) hS.2.2 dX11_logEntry_31
theorem dX11_stepValue_0 : decode cX11_stepValue 0 = .ok (.aload_n 0, 1) := by decide +kernel
theorem dX11_stepValue_1 : decode cX11_stepValue 1 = .ok (.iconst 0, 1) := by decide +kernel
theorem dX11_stepValue_2 : decode cX11_stepValue 2 = .ok (.putfield 49, 3) := by decide +kernel
theorem dX11_stepValue_5 : decode cX11_stepValue 5 = .ok (.aload_n 0, 1) := by decide +kernel
theorem dX11_stepValue_6 : decode cX11_stepValue 6 = .ok (.iload_n 1, 1) := by decide +kernel
theorem dX11_stepValue_7 : decode cX11_stepValue 7 = .ok (.i2l, 1) := by decide +kernel
theorem dX11_stepValue_8 : decode cX11_stepValue 8 = .ok (.lconst 0, 1) := by decide +kernel
theorem dX11_stepValue_9 : decode cX11_stepValue 9 = .ok (.aload_n 0, 1) := by decide +kernel
theorem dX11_stepValue_10 : decode cX11_stepValue 10 = .ok (.getfield 9, 3) := by decide +kernel
theorem dX11_stepValue_13 : decode cX11_stepValue 13 = .ok (.bipush 10, 2) := by decide +kernel
theorem dX11_stepValue_15 : decode cX11_stepValue 15 = .ok (.iaload, 1) := by decide +kernel
theorem dX11_stepValue_16 : decode cX11_stepValue 16 = .ok (.iconst 1, 1) := by decide +kernel
theorem dX11_stepValue_17 : decode cX11_stepValue 17 = .ok (.isub, 1) := by decide +kernel
theorem dX11_stepValue_18 : decode cX11_stepValue 18 = .ok (.i2l, 1) := by decide +kernel
theorem dX11_stepValue_19 : decode cX11_stepValue 19 = .ok (.invokestatic 70, 3) := by decide +kernel
theorem dX11_stepValue_22 : decode cX11_stepValue 22 = .ok (.ifCond .ne 7, 3) := by decide +kernel
theorem dX11_stepValue_25 : decode cX11_stepValue 25 = .ok (.iconst 1, 1) := by decide +kernel
theorem dX11_stepValue_26 : decode cX11_stepValue 26 = .ok (.goto 4, 3) := by decide +kernel
theorem dX11_stepValue_30 : decode cX11_stepValue 30 = .ok (.iconst 1, 1) := by decide +kernel
theorem dX11_stepValue_31 : decode cX11_stepValue 31 = .ok (.invokevirtual 328, 3) := by decide +kernel
theorem dX11_stepValue_34 : decode cX11_stepValue 34 = .ok (.ifCond .ne 28, 3) := by decide +kernel
theorem dX11_stepValue_62 : decode cX11_stepValue 62 = .ok (.iconst 0, 1) := by decide +kernel
theorem dX11_stepValue_63 : decode cX11_stepValue 63 = .ok (.ireturn, 1) := by decide +kernel
set_option maxRecDepth 100000 in
set_option maxHeartbeats 4000000 in
theorem m_stepValue_0 (l : Launch) (D : va_G) (ct : Nat → ClassId) (mo : Nat) (mw : Nat) (ma : Nat) (mf : Nat) (m0 : Nat) (m1 : Nat) (mu : Nat) (mv : Nat) (u0 : Nat) (u1 : Nat) (iz : Nat) (mb : Nat) (p1 : Int32) (p2 : Int32) (p3 : Int32) (sz : Nat) : Met l yX11_stepValue (ws_ yX11_stepValue cX11_stepValue 4 (some .int)) ({ frames := 1, cells := 0, slots := 0, locals := 25 } : Room) (va_Pc [.ref mo, .int p1, .int p2, .int p3] (cmP D ct sz [(mo, .inr (11, [.ref mw, .ref ma, .ref mf, .ref m0, .ref m1, .ref mu, .ref mv, .ref u0, .ref u1, .ref iz, .int 0, .ref mb, .int 0, .int 0, .int 0, .int 0, .int 0, .int 0, .int 0])), (mw, .inl (ct 0, 958, .inl m_w0))])) (va_Qi (fun (r : Int32) (_ : Unit) => True) (cmB D [(mo, .inr (11, [.ref mw, .ref ma, .ref mf, .ref m0, .ref m1, .ref mu, .ref mv, .ref u0, .ref u1, .ref iz, .int 0, .ref mb, .int 0, .int 0, .int 0, .int 0, .int 0, .int 0, .int 0])), (mw, .inl (ct 0, 958, .inl m_w0))] sz (fun _ : Unit => [(mo, .inr (11, [.ref mw, .ref ma, .ref mf, .ref m0, .ref m1, .ref mu, .ref mv, .ref u0, .ref u1, .ref iz, .int 1, .ref mb, .int 0, .int 0, .int 0, .int 0, .int 0, .int 0, .int 0])), (mw, .inl (ct 0, 958, .inl m_w0))])) (va_A [(mo, .inr (11, [.ref mw, .ref ma, .ref mf, .ref m0, .ref m1, .ref mu, .ref mv, .ref u0, .ref u1, .ref iz, .int 0, .ref mb, .int 0, .int 0, .int 0, .int 0, .int 0, .int 0, .int 0])), (mw, .inl (ct 0, 958, .inl m_w0))] sz)) 0 0 (va_A [(mo, .inr (11, [.ref mw, .ref ma, .ref mf, .ref m0, .ref m1, .ref mu, .ref mv, .ref u0, .ref u1, .ref iz, .int 0, .ref mb, .int 0, .int 0, .int 0, .int 0, .int 0, .int 0, .int 0])), (mw, .inl (ct 0, 958, .inl m_w0))] sz) := by
  refine Met.ofW (cc := cX11_stepValue) (maxL := 4) (ret := (some .int)) (by decide) rfl ?_
  intro p e s m args below meth c s₁ B hml hv
  obtain ⟨rfl, hsz, hP, hK, hD0, hX⟩ := hv
  have hx := B.exec
  have hb := B.bytes
  have hr := B.returns
  have hts := ws_all (atoms_spec (ws := ws_ yX11_stepValue cX11_stepValue 4 (some .int)) B.pre)
  have hown : s.vm.findClass RX11 = some m.cls := findClass_of_methodNamed B.named
  have hlocks := B.notSynchronized
  subst hsz
  have hD := hD0.self (sz := s.heap.size)
  generalize hAe : va_A [(mo, .inr (11, [.ref mw, .ref ma, .ref mf, .ref m0, .ref m1, .ref mu, .ref mv, .ref u0, .ref u1, .ref iz, .int 0, .ref mb, .int 0, .int 0, .int 0, .int 0, .int 0, .int 0, .int 0])), (mw, .inl (ct 0, 958, .inl m_w0))] s.heap.size = A at hD hX ⊢
  have hA : ∀ q : Nat, s.heap.size ≤ q → A q := fun q h => by rw [← hAe]; exact Or.inr h
  have hS : va_S A s.heap s.heap [] := va_S.rf
  have hl := lv_entry ([.ref mo, .int p1, .int p2, .int p3]) (n := 4) (Nat.le_of_ble_eq_true rfl)
  rw [lg_entry_eq]
  generalize (lg_sl ([.ref mo, .int p1, .int p2, .int p3]) ++ List.replicate (4 - (lg_sl ([.ref mo, .int p1, .int p2, .int p3])).length) Slot.unset).toArray = ls at hl ⊢
  have hl : lv_has ls 4 [(0, .ref mo), (1, .int p1), (2, .int p2), (3, .int p3)] := hl
  refine lv_aload_n hx hb dX11_stepValue_0 rfl (lv_at hl 0 rfl) ?_
  refine lv_iconst (v := 0) hx hb dX11_stepValue_1 (by decide) ?_
  refine va_put (v := .int 0) (ty := .int) (D := D) (ci := 11) (C := RX11) (T := TX11) (N := 19) hx hb hts in_X11 tyX11 tyX11_ok nmX11 hown hK hP hD hS 0 rfl rfl 10 (by decide) (hts _ kl_RX11_49) (fun _ h9 => h9) rfl (by decide +kernel) rfl rfl (Nat.le_of_ble_eq_true rfl) dX11_stepValue_2 (fun H locs hP hD hS => ?_)
  have hP : va_P D vwCl [(mo, .inr (11, [.ref mw, .ref ma, .ref mf, .ref m0, .ref m1, .ref mu, .ref mv, .ref u0, .ref u1, .ref iz, .int 0, .ref mb, .int 0, .int 0, .int 0, .int 0, .int 0, .int 0, .int 0])), (mw, .inl (ct 0, 958, .inl m_w0))] H := hP
  have hD : va_D A [(mo, .inr (11, [.ref mw, .ref ma, .ref mf, .ref m0, .ref m1, .ref mu, .ref mv, .ref u0, .ref u1, .ref iz, .int 0, .ref mb, .int 0, .int 0, .int 0, .int 0, .int 0, .int 0, .int 0])), (mw, .inl (ct 0, 958, .inl m_w0))] := hD
  refine lv_aload_n hx hb dX11_stepValue_5 rfl (lv_at hl 0 rfl) ?_
  refine lv_iload_n hx hb dX11_stepValue_6 rfl (lv_at hl 1 rfl) ?_
  refine lv_i2l hx hb dX11_stepValue_7 rfl ?_
  refine lv_lconst (v := 0) hx hb dX11_stepValue_8 (by decide) ?_
  refine lv_aload_n hx hb dX11_stepValue_9 rfl (lv_at hl 0 rfl) ?_
  refine va_get (v := .ref mw) (D := D) (ci := 11) (C := RX11) (T := TX11) (N := 19) hx hb hts in_X11 hown hK hP 0 rfl rfl 0 (by decide) (hts _ kl_RX11_9) (fun _ h9 => h9) rfl dX11_stepValue_10 ?_
  refine lv_bipush (v := 10) hx hb dX11_stepValue_13 (by decide) ?_
  refine va_iald hx hb hK hP 1 0 rfl rfl (cm_vin (by decide)) dX11_stepValue_15 ?_
  refine cm_cst (y := 0) (by first | rfl | decide +kernel) ?_
  refine lv_iconst (v := 1) hx hb dX11_stepValue_16 (by decide) ?_
  refine lv_isub hx hb dX11_stepValue_17 ?_
  refine cm_cst (y := (-1)) (by decide) ?_
  refine lv_i2l (v := (-1)) hx hb dX11_stepValue_18 (by decide) ?_
  refine cm_ki (wr := [(mo, .inr (11, [.ref mw, .ref ma, .ref mf, .ref m0, .ref m1, .ref mu, .ref mv, .ref u0, .ref u1, .ref iz, .int 0, .ref mb, .int 0, .int 0, .int 0, .int 0, .int 0, .int 0, .int 0])), (mw, .inl (ct 0, 958, .inl m_w0))]) (va_runS (As := [.long p1.toInt64, .long 0, .long (-1)]) (rest := [.ref mo]) ⟨hx, hb, hml, hown, hts⟩ (m_in l D ct p1.toInt64 0 (-1) _) (cm_S 3 hts kc_X11_in ki_RX11 kl_RX11_70 ks_X11_in kd_X11_in ⟨Nat.le_of_ble_eq_true rfl, Nat.le_of_ble_eq_true rfl⟩) (cm_preS hP hK hD hS hA hX [] rfl rfl rfl) rfl rfl hl.1 rfl (lv_room (Nat.le_of_ble_eq_true rfl)) dX11_stepValue_19 ⟨Nat.le_of_ble_eq_true rfl, Nat.le_of_ble_eq_true rfl⟩) hP hD hS hA [] [0, 1] rfl rfl rfl (by decide) (fun r_1 u H locs hw_2 hP hD hS => ?_)
  have hw_2 : r_1 = (cm_rng p1.toInt64 0 (-1)) := hw_2
  obtain rfl := hw_2
  have hP : va_P D vwCl [(mo, .inr (11, [.ref mw, .ref ma, .ref mf, .ref m0, .ref m1, .ref mu, .ref mv, .ref u0, .ref u1, .ref iz, .int 0, .ref mb, .int 0, .int 0, .int 0, .int 0, .int 0, .int 0, .int 0])), (mw, .inl (ct 0, 958, .inl m_w0))] H := hP
  have hD : va_D A [(mo, .inr (11, [.ref mw, .ref ma, .ref mf, .ref m0, .ref m1, .ref mu, .ref mv, .ref u0, .ref u1, .ref iz, .int 0, .ref mb, .int 0, .int 0, .int 0, .int 0, .int 0, .int 0, .int 0])), (mw, .inl (ct 0, 958, .inl m_w0))] := hD
  refine lv_if_ne (tgt := 29) hx hb dX11_stepValue_22 (by decide) (fun hc => absurd (cm_in_m _) hc) (fun _ => ?_)
  refine lv_iconst (v := 1) hx hb dX11_stepValue_25 (by decide) ?_
  refine lv_goto (tgt := 30) hx hb dX11_stepValue_26 (by decide) ?_
  refine lv_iconst (v := 1) hx hb dX11_stepValue_30 (by decide) ?_
  refine cm_ki (wr := [(mw, .inl (ct 0, 958, .inl m_w0))]) (va_runV (As := [.int 1, .int 1]) (rest := []) ⟨hx, hb, hml, hown, hts⟩ (m_throwsIf_11 l D ct mo mw ma mf m0 m1 mu mv u0 u1 iz mb _) (cm_V 2 hts kc_X11_throwsIf ki_RX11 kl_RX11_328 kv_X11_throwsIf kx_X11_throwsIf kd_X11_throwsIf ⟨Nat.le_of_ble_eq_true rfl, Nat.le_of_ble_eq_true rfl⟩) (cm_preV hP hK hD hS hA hX [0] rfl rfl rfl (q0 := 0) (ci := 11) rfl rfl) rfl rfl hl.1 rfl (lv_room (Nat.le_of_ble_eq_true rfl)) dX11_stepValue_31 ⟨Nat.le_of_ble_eq_true rfl, Nat.le_of_ble_eq_true rfl⟩) hP hD hS hA [0] [1] rfl rfl rfl (by decide) (fun r_3 u H locs hw_4 hP hD hS => ?_)
  have hw_4 : r_3 = 1 := hw_4
  obtain rfl := hw_4
  have hP : va_P D vwCl [(mw, .inl (ct 0, 958, .inl m_w0)), (mo, .inr (11, [.ref mw, .ref ma, .ref mf, .ref m0, .ref m1, .ref mu, .ref mv, .ref u0, .ref u1, .ref iz, .int 1, .ref mb, .int 0, .int 0, .int 0, .int 0, .int 0, .int 0, .int 0]))] H := hP
  have hD : va_D A [(mw, .inl (ct 0, 958, .inl m_w0)), (mo, .inr (11, [.ref mw, .ref ma, .ref mf, .ref m0, .ref m1, .ref mu, .ref mv, .ref u0, .ref u1, .ref iz, .int 1, .ref mb, .int 0, .int 0, .int 0, .int 0, .int 0, .int 0, .int 0]))] := hD
  refine lv_if_ne (tgt := 62) hx hb dX11_stepValue_34 (by decide) (fun _ => ?_) (fun hc => absurd hc (by decide))
  refine lv_iconst (v := 0) hx hb dX11_stepValue_62 (by decide) ?_
  have hP9 := hP.sub (ws' := [(mo, .inr (11, [.ref mw, .ref ma, .ref mf, .ref m0, .ref m1, .ref mu, .ref mv, .ref u0, .ref u1, .ref iz, .int 1, .ref mb, .int 0, .int 0, .int 0, .int 0, .int 0, .int 0, .int 0])), (mw, .inl (ct 0, 958, .inl m_w0))]) [1, 0] rfl
  have hD9 := hD.sub (ws' := [(mo, .inr (11, [.ref mw, .ref ma, .ref mf, .ref m0, .ref m1, .ref mu, .ref mv, .ref u0, .ref u1, .ref iz, .int 1, .ref mb, .int 0, .int 0, .int 0, .int 0, .int 0, .int 0, .int 0])), (mw, .inl (ct 0, 958, .inl m_w0))]) [1, 0] (by decide) rfl
  exact W.iret (v := 0) hx hb hr (fun t ht hW => ⟨⟨0, (), rfl, trivial, by rw [ht]; exact hP9, by rw [hAe]; exact hD9⟩, hS.F ht⟩) hS.2.2 dX11_stepValue_63
theorem dX11_setLimits_0 : decode cX11_setLimits 0 = .ok (.aload_n 0, 1) := by decide +kernel
theorem dX11_setLimits_1 : decode cX11_setLimits 1 = .ok (.iconst 0, 1) := by decide +kernel
theorem dX11_setLimits_2 : decode cX11_setLimits 2 = .ok (.putfield 49, 3) := by decide +kernel
theorem dX11_setLimits_5 : decode cX11_setLimits 5 = .ok (.aload_n 0, 1) := by decide +kernel
theorem dX11_setLimits_6 : decode cX11_setLimits 6 = .ok (.iload_n 1, 1) := by decide +kernel
theorem dX11_setLimits_7 : decode cX11_setLimits 7 = .ok (.i2l, 1) := by decide +kernel
theorem dX11_setLimits_8 : decode cX11_setLimits 8 = .ok (.lconst 0, 1) := by decide +kernel
theorem dX11_setLimits_9 : decode cX11_setLimits 9 = .ok (.ldc2_w 338, 3) := by decide +kernel
theorem dX11_setLimits_12 : decode cX11_setLimits 12 = .ok (.invokestatic 70, 3) := by decide +kernel
theorem dX11_setLimits_15 : decode cX11_setLimits 15 = .ok (.ifCond .eq 16, 3) := by decide +kernel
theorem dX11_setLimits_18 : decode cX11_setLimits 18 = .ok (.iload_n 2, 1) := by decide +kernel
theorem dX11_setLimits_19 : decode cX11_setLimits 19 = .ok (.i2l, 1) := by decide +kernel
theorem dX11_setLimits_20 : decode cX11_setLimits 20 = .ok (.iload_n 1, 1) := by decide +kernel
theorem dX11_setLimits_21 : decode cX11_setLimits 21 = .ok (.i2l, 1) := by decide +kernel
theorem dX11_setLimits_22 : decode cX11_setLimits 22 = .ok (.ldc2_w 338, 3) := by decide +kernel
theorem dX11_setLimits_25 : decode cX11_setLimits 25 = .ok (.invokestatic 70, 3) := by decide +kernel
theorem dX11_setLimits_28 : decode cX11_setLimits 28 = .ok (.ifCond .ne 7, 3) := by decide +kernel
theorem dX11_setLimits_31 : decode cX11_setLimits 31 = .ok (.iconst 1, 1) := by decide +kernel
theorem dX11_setLimits_32 : decode cX11_setLimits 32 = .ok (.goto 4, 3) := by decide +kernel
theorem dX11_setLimits_35 : decode cX11_setLimits 35 = .ok (.iconst 0, 1) := by decide +kernel
theorem dX11_setLimits_36 : decode cX11_setLimits 36 = .ok (.iconst 1, 1) := by decide +kernel
theorem dX11_setLimits_37 : decode cX11_setLimits 37 = .ok (.invokevirtual 328, 3) := by decide +kernel
theorem dX11_setLimits_40 : decode cX11_setLimits 40 = .ok (.ifCond .eq 5, 3) := by decide +kernel
theorem dX11_setLimits_43 : decode cX11_setLimits 43 = .ok (.iconst 0, 1) := by decide +kernel
theorem dX11_setLimits_44 : decode cX11_setLimits 44 = .ok (.ireturn, 1) := by decide +kernel
theorem dX11_setLimits_45 : decode cX11_setLimits 45 = .ok (.aload_n 0, 1) := by decide +kernel
theorem dX11_setLimits_46 : decode cX11_setLimits 46 = .ok (.getfield 9, 3) := by decide +kernel
theorem dX11_setLimits_49 : decode cX11_setLimits 49 = .ok (.iconst 4, 1) := by decide +kernel
theorem dX11_setLimits_50 : decode cX11_setLimits 50 = .ok (.iload_n 1, 1) := by decide +kernel
theorem dX11_setLimits_51 : decode cX11_setLimits 51 = .ok (.iastore, 1) := by decide +kernel
theorem dX11_setLimits_52 : decode cX11_setLimits 52 = .ok (.aload_n 0, 1) := by decide +kernel
theorem dX11_setLimits_53 : decode cX11_setLimits 53 = .ok (.getfield 9, 3) := by decide +kernel
theorem dX11_setLimits_56 : decode cX11_setLimits 56 = .ok (.iconst 5, 1) := by decide +kernel
theorem dX11_setLimits_57 : decode cX11_setLimits 57 = .ok (.iload_n 2, 1) := by decide +kernel
theorem dX11_setLimits_58 : decode cX11_setLimits 58 = .ok (.iastore, 1) := by decide +kernel
theorem dX11_setLimits_59 : decode cX11_setLimits 59 = .ok (.iconst 0, 1) := by decide +kernel
theorem dX11_setLimits_60 : decode cX11_setLimits 60 = .ok (.istore_n 3, 1) := by decide +kernel
theorem dX11_setLimits_61 : decode cX11_setLimits 61 = .ok (.iconst 0, 1) := by decide +kernel
theorem dX11_setLimits_62 : decode cX11_setLimits 62 = .ok (.istore 4, 2) := by decide +kernel
theorem dX11_setLimits_64 : decode cX11_setLimits 64 = .ok (.iload 4, 2) := by decide +kernel
theorem dX11_setLimits_66 : decode cX11_setLimits 66 = .ok (.aload_n 0, 1) := by decide +kernel
theorem dX11_setLimits_67 : decode cX11_setLimits 67 = .ok (.getfield 9, 3) := by decide +kernel
theorem dX11_setLimits_70 : decode cX11_setLimits 70 = .ok (.bipush 9, 2) := by decide +kernel
theorem dX11_setLimits_72 : decode cX11_setLimits 72 = .ok (.iaload, 1) := by decide +kernel
theorem dX11_setLimits_73 : decode cX11_setLimits 73 = .ok (.if_icmp .ge 46, 3) := by decide +kernel
theorem dX11_setLimits_119 : decode cX11_setLimits 119 = .ok (.iload_n 3, 1) := by decide +kernel
theorem dX11_setLimits_120 : decode cX11_setLimits 120 = .ok (.ireturn, 1) := by decide +kernel
set_option maxRecDepth 100000 in
set_option maxHeartbeats 4000000 in
theorem m_setLimits_0 (l : Launch) (D : va_G) (ct : Nat → ClassId) (mo : Nat) (mw : Nat) (ma : Nat) (mf : Nat) (m0 : Nat) (m1 : Nat) (mu : Nat) (mv : Nat) (u0 : Nat) (u1 : Nat) (iz : Nat) (mb : Nat) (p1 : Int32) (p2 : Int32) (sz : Nat) : Met l yX11_setLimits (ws_ yX11_setLimits cX11_setLimits 5 (some .int)) ({ frames := 1, cells := 0, slots := 0, locals := 25 } : Room) (va_Pc [.ref mo, .int p1, .int p2] (cmP D ct sz [(mo, .inr (11, [.ref mw, .ref ma, .ref mf, .ref m0, .ref m1, .ref mu, .ref mv, .ref u0, .ref u1, .ref iz, .int 0, .ref mb, .int 0, .int 0, .int 0, .int 0, .int 0, .int 0, .int 0])), (mw, .inl (ct 0, 958, .inl m_w0))])) (va_Qi (fun (r : Int32) (th : Int32) => (th = 0 ∧ ((0 ≤ p1 ∧ p1 ≤ 5000) ∧ (p1 ≤ p2 ∧ p2 ≤ 5000)) ∧ r = 0) ∨ (th = 1 ∧ (p1 < 0 ∨ 5000 < p1 ∨ p2 < p1 ∨ 5000 < p2))) (cmB D [(mo, .inr (11, [.ref mw, .ref ma, .ref mf, .ref m0, .ref m1, .ref mu, .ref mv, .ref u0, .ref u1, .ref iz, .int 0, .ref mb, .int 0, .int 0, .int 0, .int 0, .int 0, .int 0, .int 0])), (mw, .inl (ct 0, 958, .inl m_w0))] sz (fun th : Int32 => [(mo, .inr (11, [.ref mw, .ref ma, .ref mf, .ref m0, .ref m1, .ref mu, .ref mv, .ref u0, .ref u1, .ref iz, .int th, .ref mb, .int 0, .int 0, .int 0, .int 0, .int 0, .int 0, .int 0]))])) (va_A [(mo, .inr (11, [.ref mw, .ref ma, .ref mf, .ref m0, .ref m1, .ref mu, .ref mv, .ref u0, .ref u1, .ref iz, .int 0, .ref mb, .int 0, .int 0, .int 0, .int 0, .int 0, .int 0, .int 0])), (mw, .inl (ct 0, 958, .inl m_w0))] sz)) 0 0 (va_A [(mo, .inr (11, [.ref mw, .ref ma, .ref mf, .ref m0, .ref m1, .ref mu, .ref mv, .ref u0, .ref u1, .ref iz, .int 0, .ref mb, .int 0, .int 0, .int 0, .int 0, .int 0, .int 0, .int 0])), (mw, .inl (ct 0, 958, .inl m_w0))] sz) := by
  refine Met.ofW (cc := cX11_setLimits) (maxL := 5) (ret := (some .int)) (by decide) rfl ?_
  intro p e s m args below meth c s₁ B hml hv
  obtain ⟨rfl, hsz, hP, hK, hD0, hX⟩ := hv
  have hx := B.exec
  have hb := B.bytes
  have hr := B.returns
  have hts := ws_all (atoms_spec (ws := ws_ yX11_setLimits cX11_setLimits 5 (some .int)) B.pre)
  have hown : s.vm.findClass RX11 = some m.cls := findClass_of_methodNamed B.named
  have hlocks := B.notSynchronized
  subst hsz
  have hD := hD0.self (sz := s.heap.size)
  generalize hAe : va_A [(mo, .inr (11, [.ref mw, .ref ma, .ref mf, .ref m0, .ref m1, .ref mu, .ref mv, .ref u0, .ref u1, .ref iz, .int 0, .ref mb, .int 0, .int 0, .int 0, .int 0, .int 0, .int 0, .int 0])), (mw, .inl (ct 0, 958, .inl m_w0))] s.heap.size = A at hD hX ⊢
  have hA : ∀ q : Nat, s.heap.size ≤ q → A q := fun q h => by rw [← hAe]; exact Or.inr h
  have hS : va_S A s.heap s.heap [] := va_S.rf
  have hl := lv_entry ([.ref mo, .int p1, .int p2]) (n := 5) (Nat.le_of_ble_eq_true rfl)
  rw [lg_entry_eq]
  generalize (lg_sl ([.ref mo, .int p1, .int p2]) ++ List.replicate (5 - (lg_sl ([.ref mo, .int p1, .int p2])).length) Slot.unset).toArray = ls at hl ⊢
  have hl : lv_has ls 5 [(0, .ref mo), (1, .int p1), (2, .int p2)] := hl
  refine lv_aload_n hx hb dX11_setLimits_0 rfl (lv_at hl 0 rfl) ?_
  refine lv_iconst (v := 0) hx hb dX11_setLimits_1 (by decide) ?_
  refine va_put (v := .int 0) (ty := .int) (D := D) (ci := 11) (C := RX11) (T := TX11) (N := 19) hx hb hts in_X11 tyX11 tyX11_ok nmX11 hown hK hP hD hS 0 rfl rfl 10 (by decide) (hts _ kl_RX11_49) (fun _ h9 => h9) rfl (by decide +kernel) rfl rfl (Nat.le_of_ble_eq_true rfl) dX11_setLimits_2 (fun H locs hP hD hS => ?_)
  have hP : va_P D vwCl [(mo, .inr (11, [.ref mw, .ref ma, .ref mf, .ref m0, .ref m1, .ref mu, .ref mv, .ref u0, .ref u1, .ref iz, .int 0, .ref mb, .int 0, .int 0, .int 0, .int 0, .int 0, .int 0, .int 0])), (mw, .inl (ct 0, 958, .inl m_w0))] H := hP
  have hD : va_D A [(mo, .inr (11, [.ref mw, .ref ma, .ref mf, .ref m0, .ref m1, .ref mu, .ref mv, .ref u0, .ref u1, .ref iz, .int 0, .ref mb, .int 0, .int 0, .int 0, .int 0, .int 0, .int 0, .int 0])), (mw, .inl (ct 0, 958, .inl m_w0))] := hD
  refine lv_aload_n hx hb dX11_setLimits_5 rfl (lv_at hl 0 rfl) ?_
  refine lv_iload_n hx hb dX11_setLimits_6 rfl (lv_at hl 1 rfl) ?_
  refine lv_i2l hx hb dX11_setLimits_7 rfl ?_
  refine lv_lconst (v := 0) hx hb dX11_setLimits_8 (by decide) ?_
  refine lv_ldc2 hx hb hown (hts _ kl_RX11_338) dX11_setLimits_9 ?_
  refine cm_ki (wr := [(mo, .inr (11, [.ref mw, .ref ma, .ref mf, .ref m0, .ref m1, .ref mu, .ref mv, .ref u0, .ref u1, .ref iz, .int 0, .ref mb, .int 0, .int 0, .int 0, .int 0, .int 0, .int 0, .int 0])), (mw, .inl (ct 0, 958, .inl m_w0))]) (va_runS (As := [.long p1.toInt64, .long 0, .long 5000]) (rest := [.ref mo]) ⟨hx, hb, hml, hown, hts⟩ (m_in l D ct p1.toInt64 0 5000 _) (cm_S 3 hts kc_X11_in ki_RX11 kl_RX11_70 ks_X11_in kd_X11_in ⟨Nat.le_of_ble_eq_true rfl, Nat.le_of_ble_eq_true rfl⟩) (cm_preS hP hK hD hS hA hX [] rfl rfl rfl) rfl rfl hl.1 rfl (lv_room (Nat.le_of_ble_eq_true rfl)) dX11_setLimits_12 ⟨Nat.le_of_ble_eq_true rfl, Nat.le_of_ble_eq_true rfl⟩) hP hD hS hA [] [0, 1] rfl rfl rfl (by decide) (fun r_1 u H locs hw_2 hP hD hS => ?_)
  have hw_2 : r_1 = (cm_rng p1.toInt64 0 5000) := hw_2
  obtain rfl := hw_2
  have hP : va_P D vwCl [(mo, .inr (11, [.ref mw, .ref ma, .ref mf, .ref m0, .ref m1, .ref mu, .ref mv, .ref u0, .ref u1, .ref iz, .int 0, .ref mb, .int 0, .int 0, .int 0, .int 0, .int 0, .int 0, .int 0])), (mw, .inl (ct 0, 958, .inl m_w0))] H := hP
  have hD : va_D A [(mo, .inr (11, [.ref mw, .ref ma, .ref mf, .ref m0, .ref m1, .ref mu, .ref mv, .ref u0, .ref u1, .ref iz, .int 0, .ref mb, .int 0, .int 0, .int 0, .int 0, .int 0, .int 0, .int 0])), (mw, .inl (ct 0, 958, .inl m_w0))] := hD
  refine lv_if_eq (tgt := 31) hx hb dX11_setLimits_15 (by decide) (fun hc_3 => ?_) (fun hc_3 => ?_)
  · refine lv_iconst (v := 1) hx hb dX11_setLimits_31 (by decide) ?_
    refine lv_goto (tgt := 36) hx hb dX11_setLimits_32 (by decide) ?_
    refine lv_iconst (v := 1) hx hb dX11_setLimits_36 (by decide) ?_
    refine cm_ki (wr := [(mw, .inl (ct 0, 958, .inl m_w0))]) (va_runV (As := [.int 1, .int 1]) (rest := []) ⟨hx, hb, hml, hown, hts⟩ (m_throwsIf_11 l D ct mo mw ma mf m0 m1 mu mv u0 u1 iz mb _) (cm_V 2 hts kc_X11_throwsIf ki_RX11 kl_RX11_328 kv_X11_throwsIf kx_X11_throwsIf kd_X11_throwsIf ⟨Nat.le_of_ble_eq_true rfl, Nat.le_of_ble_eq_true rfl⟩) (cm_preV hP hK hD hS hA hX [0] rfl rfl rfl (q0 := 0) (ci := 11) rfl rfl) rfl rfl hl.1 rfl (lv_room (Nat.le_of_ble_eq_true rfl)) dX11_setLimits_37 ⟨Nat.le_of_ble_eq_true rfl, Nat.le_of_ble_eq_true rfl⟩) hP hD hS hA [0] [1] rfl rfl rfl (by decide) (fun r_4 u H locs hw_5 hP hD hS => ?_)
    have hw_5 : r_4 = 1 := hw_5
    obtain rfl := hw_5
    have hP : va_P D vwCl [(mw, .inl (ct 0, 958, .inl m_w0)), (mo, .inr (11, [.ref mw, .ref ma, .ref mf, .ref m0, .ref m1, .ref mu, .ref mv, .ref u0, .ref u1, .ref iz, .int 1, .ref mb, .int 0, .int 0, .int 0, .int 0, .int 0, .int 0, .int 0]))] H := hP
    have hD : va_D A [(mw, .inl (ct 0, 958, .inl m_w0)), (mo, .inr (11, [.ref mw, .ref ma, .ref mf, .ref m0, .ref m1, .ref mu, .ref mv, .ref u0, .ref u1, .ref iz, .int 1, .ref mb, .int 0, .int 0, .int 0, .int 0, .int 0, .int 0, .int 0]))] := hD
    refine lv_if_eq (tgt := 45) hx hb dX11_setLimits_40 (by decide) (fun hc => absurd hc (by decide)) (fun _ => ?_)
    refine lv_iconst (v := 0) hx hb dX11_setLimits_43 (by decide) ?_
    have hP9 := hP.sub (ws' := [(mo, .inr (11, [.ref mw, .ref ma, .ref mf, .ref m0, .ref m1, .ref mu, .ref mv, .ref u0, .ref u1, .ref iz, .int 1, .ref mb, .int 0, .int 0, .int 0, .int 0, .int 0, .int 0, .int 0]))]) [1] rfl
    have hD9 := hD.sub (ws' := [(mo, .inr (11, [.ref mw, .ref ma, .ref mf, .ref m0, .ref m1, .ref mu, .ref mv, .ref u0, .ref u1, .ref iz, .int 1, .ref mb, .int 0, .int 0, .int 0, .int 0, .int 0, .int 0, .int 0]))]) [1] (by decide) rfl
    exact W.iret (v := 0) hx hb hr (fun t ht hW => ⟨⟨0, 1, rfl, (Or.inr ⟨rfl, (cm_inF (by decide) (by decide) hc_3).elim Or.inl (fun q => Or.inr (Or.inl q))⟩), by rw [ht]; exact hP9, by rw [hAe]; exact hD9⟩, hS.F ht⟩) hS.2.2 dX11_setLimits_44
  · refine lv_iload_n hx hb dX11_setLimits_18 rfl (lv_at hl 2 rfl) ?_
    refine lv_i2l hx hb dX11_setLimits_19 rfl ?_
    refine lv_iload_n hx hb dX11_setLimits_20 rfl (lv_at hl 1 rfl) ?_
    refine lv_i2l hx hb dX11_setLimits_21 rfl ?_
    refine lv_ldc2 hx hb hown (hts _ kl_RX11_338) dX11_setLimits_22 ?_
    refine cm_ki (wr := [(mo, .inr (11, [.ref mw, .ref ma, .ref mf, .ref m0, .ref m1, .ref mu, .ref mv, .ref u0, .ref u1, .ref iz, .int 0, .ref mb, .int 0, .int 0, .int 0, .int 0, .int 0, .int 0, .int 0])), (mw, .inl (ct 0, 958, .inl m_w0))]) (va_runS (As := [.long p2.toInt64, .long p1.toInt64, .long 5000]) (rest := [.ref mo]) ⟨hx, hb, hml, hown, hts⟩ (m_in l D ct p2.toInt64 p1.toInt64 5000 _) (cm_S 3 hts kc_X11_in ki_RX11 kl_RX11_70 ks_X11_in kd_X11_in ⟨Nat.le_of_ble_eq_true rfl, Nat.le_of_ble_eq_true rfl⟩) (cm_preS hP hK hD hS hA hX [] rfl rfl rfl) rfl rfl hl.1 rfl (lv_room (Nat.le_of_ble_eq_true rfl)) dX11_setLimits_25 ⟨Nat.le_of_ble_eq_true rfl, Nat.le_of_ble_eq_true rfl⟩) hP hD hS hA [] [0, 1] rfl rfl rfl (by decide) (fun r_6 u H locs hw_7 hP hD hS => ?_)
    have hw_7 : r_6 = (cm_rng p2.toInt64 p1.toInt64 5000) := hw_7
    obtain rfl := hw_7
    have hP : va_P D vwCl [(mo, .inr (11, [.ref mw, .ref ma, .ref mf, .ref m0, .ref m1, .ref mu, .ref mv, .ref u0, .ref u1, .ref iz, .int 0, .ref mb, .int 0, .int 0, .int 0, .int 0, .int 0, .int 0, .int 0])), (mw, .inl (ct 0, 958, .inl m_w0))] H := hP
    have hD : va_D A [(mo, .inr (11, [.ref mw, .ref ma, .ref mf, .ref m0, .ref m1, .ref mu, .ref mv, .ref u0, .ref u1, .ref iz, .int 0, .ref mb, .int 0, .int 0, .int 0, .int 0, .int 0, .int 0, .int 0])), (mw, .inl (ct 0, 958, .inl m_w0))] := hD
    refine lv_if_ne (tgt := 35) hx hb dX11_setLimits_28 (by decide) (fun hc_8 => ?_) (fun hc_8 => ?_)
    · refine lv_iconst (v := 0) hx hb dX11_setLimits_35 (by decide) ?_
      refine lv_iconst (v := 1) hx hb dX11_setLimits_36 (by decide) ?_
      refine cm_ki (wr := [(mw, .inl (ct 0, 958, .inl m_w0))]) (va_runV (As := [.int 0, .int 1]) (rest := []) ⟨hx, hb, hml, hown, hts⟩ (m_throwsIf_01 l D ct mo mw ma mf m0 m1 mu mv u0 u1 iz mb _) (cm_V 2 hts kc_X11_throwsIf ki_RX11 kl_RX11_328 kv_X11_throwsIf kx_X11_throwsIf kd_X11_throwsIf ⟨Nat.le_of_ble_eq_true rfl, Nat.le_of_ble_eq_true rfl⟩) (cm_preV hP hK hD hS hA hX [0] rfl rfl rfl (q0 := 0) (ci := 11) rfl rfl) rfl rfl hl.1 rfl (lv_room (Nat.le_of_ble_eq_true rfl)) dX11_setLimits_37 ⟨Nat.le_of_ble_eq_true rfl, Nat.le_of_ble_eq_true rfl⟩) hP hD hS hA [0] [1] rfl rfl rfl (by decide) (fun r_9 u H locs hw_10 hP hD hS => ?_)
      have hw_10 : r_9 = 0 := hw_10
      obtain rfl := hw_10
      have hP : va_P D vwCl [(mw, .inl (ct 0, 958, .inl m_w0)), (mo, .inr (11, [.ref mw, .ref ma, .ref mf, .ref m0, .ref m1, .ref mu, .ref mv, .ref u0, .ref u1, .ref iz, .int 0, .ref mb, .int 0, .int 0, .int 0, .int 0, .int 0, .int 0, .int 0]))] H := hP
      have hD : va_D A [(mw, .inl (ct 0, 958, .inl m_w0)), (mo, .inr (11, [.ref mw, .ref ma, .ref mf, .ref m0, .ref m1, .ref mu, .ref mv, .ref u0, .ref u1, .ref iz, .int 0, .ref mb, .int 0, .int 0, .int 0, .int 0, .int 0, .int 0, .int 0]))] := hD
      refine lv_if_eq (tgt := 45) hx hb dX11_setLimits_40 (by decide) (fun _ => ?_) (fun hc => absurd (by decide) hc)
      refine lv_aload_n hx hb dX11_setLimits_45 rfl (lv_at hl 0 rfl) ?_
      refine va_get (v := .ref mw) (D := D) (ci := 11) (C := RX11) (T := TX11) (N := 19) hx hb hts in_X11 hown hK hP 1 rfl rfl 0 (by decide) (hts _ kl_RX11_9) (fun _ h9 => h9) rfl dX11_setLimits_46 ?_
      refine lv_iconst (v := 4) hx hb dX11_setLimits_49 (by decide) ?_
      refine lv_iload_n hx hb dX11_setLimits_50 rfl (lv_at hl 1 rfl) ?_
      refine va_iast hx hb hK hP hD hS 0 0 rfl rfl (cm_vin (by decide)) dX11_setLimits_51 (fun H locs hP hD hS => ?_)
      have hP : va_P D vwCl [(mw, .inl (ct 0, 958, .inl (upd m_w0 (4 : Int32).toNatClampNeg p1))), (mo, .inr (11, [.ref mw, .ref ma, .ref mf, .ref m0, .ref m1, .ref mu, .ref mv, .ref u0, .ref u1, .ref iz, .int 0, .ref mb, .int 0, .int 0, .int 0, .int 0, .int 0, .int 0, .int 0]))] H := hP
      have hD : va_D A [(mw, .inl (ct 0, 958, .inl (upd m_w0 (4 : Int32).toNatClampNeg p1))), (mo, .inr (11, [.ref mw, .ref ma, .ref mf, .ref m0, .ref m1, .ref mu, .ref mv, .ref u0, .ref u1, .ref iz, .int 0, .ref mb, .int 0, .int 0, .int 0, .int 0, .int 0, .int 0, .int 0]))] := hD
      refine lv_aload_n hx hb dX11_setLimits_52 rfl (lv_at hl 0 rfl) ?_
      refine va_get (v := .ref mw) (D := D) (ci := 11) (C := RX11) (T := TX11) (N := 19) hx hb hts in_X11 hown hK hP 1 rfl rfl 0 (by decide) (hts _ kl_RX11_9) (fun _ h9 => h9) rfl dX11_setLimits_53 ?_
      refine lv_iconst (v := 5) hx hb dX11_setLimits_56 (by decide) ?_
      refine lv_iload_n hx hb dX11_setLimits_57 rfl (lv_at hl 2 rfl) ?_
      refine va_iast hx hb hK hP hD hS 0 0 rfl rfl (cm_vin (by decide)) dX11_setLimits_58 (fun H locs hP hD hS => ?_)
      have hP : va_P D vwCl [(mw, .inl (ct 0, 958, .inl (upd (upd m_w0 (4 : Int32).toNatClampNeg p1) (5 : Int32).toNatClampNeg p2))), (mo, .inr (11, [.ref mw, .ref ma, .ref mf, .ref m0, .ref m1, .ref mu, .ref mv, .ref u0, .ref u1, .ref iz, .int 0, .ref mb, .int 0, .int 0, .int 0, .int 0, .int 0, .int 0, .int 0]))] H := hP
      have hD : va_D A [(mw, .inl (ct 0, 958, .inl (upd (upd m_w0 (4 : Int32).toNatClampNeg p1) (5 : Int32).toNatClampNeg p2))), (mo, .inr (11, [.ref mw, .ref ma, .ref mf, .ref m0, .ref m1, .ref mu, .ref mv, .ref u0, .ref u1, .ref iz, .int 0, .ref mb, .int 0, .int 0, .int 0, .int 0, .int 0, .int 0, .int 0]))] := hD
      refine lv_iconst (v := 0) hx hb dX11_setLimits_59 (by decide) ?_
      refine lv_istore_n (lv' := [(3, .int 0), (0, .ref mo), (1, .int p1), (2, .int p2)]) hx hb dX11_setLimits_60 rfl hl (by decide) rfl (fun ls hl => ?_)
      refine lv_iconst (v := 0) hx hb dX11_setLimits_61 (by decide) ?_
      refine lv_istore (lv' := [(4, .int 0), (3, .int 0), (0, .ref mo), (1, .int p1), (2, .int p2)]) hx hb dX11_setLimits_62 hl (by decide) rfl (fun ls hl => ?_)
      refine lv_iload hx hb dX11_setLimits_64 (lv_at hl 0 rfl) ?_
      refine lv_aload_n hx hb dX11_setLimits_66 rfl (lv_at hl 2 rfl) ?_
      refine va_get (v := .ref mw) (D := D) (ci := 11) (C := RX11) (T := TX11) (N := 19) hx hb hts in_X11 hown hK hP 1 rfl rfl 0 (by decide) (hts _ kl_RX11_9) (fun _ h9 => h9) rfl dX11_setLimits_67 ?_
      refine lv_bipush (v := 9) hx hb dX11_setLimits_70 (by decide) ?_
      refine va_iald hx hb hK hP 0 0 rfl rfl (cm_vin (by decide)) dX11_setLimits_72 ?_
      refine cm_cst (y := 0) (by first | rfl | decide +kernel) ?_
      refine lv_icmp_ge (tgt := 119) hx hb dX11_setLimits_73 (by decide) (fun _ => ?_) (fun hc => absurd (by decide) hc)
      refine lv_iload_n hx hb dX11_setLimits_119 rfl (lv_at hl 1 rfl) ?_
      have hP9 := hP.sub (ws' := [(mo, .inr (11, [.ref mw, .ref ma, .ref mf, .ref m0, .ref m1, .ref mu, .ref mv, .ref u0, .ref u1, .ref iz, .int 0, .ref mb, .int 0, .int 0, .int 0, .int 0, .int 0, .int 0, .int 0]))]) [1] rfl
      have hD9 := hD.sub (ws' := [(mo, .inr (11, [.ref mw, .ref ma, .ref mf, .ref m0, .ref m1, .ref mu, .ref mv, .ref u0, .ref u1, .ref iz, .int 0, .ref mb, .int 0, .int 0, .int 0, .int 0, .int 0, .int 0, .int 0]))]) [1] (by decide) rfl
      exact W.iret (v := 0) hx hb hr (fun t ht hW => ⟨⟨0, 0, rfl, (Or.inl ⟨rfl, ⟨cm_inT2 (by decide) (by decide) hc_3, cm_inT2 rfl (by decide) hc_8⟩, rfl⟩), by rw [ht]; exact hP9, by rw [hAe]; exact hD9⟩, hS.F ht⟩) hS.2.2 dX11_setLimits_120
    · refine lv_iconst (v := 1) hx hb dX11_setLimits_31 (by decide) ?_
      refine lv_goto (tgt := 36) hx hb dX11_setLimits_32 (by decide) ?_
      refine lv_iconst (v := 1) hx hb dX11_setLimits_36 (by decide) ?_
      refine cm_ki (wr := [(mw, .inl (ct 0, 958, .inl m_w0))]) (va_runV (As := [.int 1, .int 1]) (rest := []) ⟨hx, hb, hml, hown, hts⟩ (m_throwsIf_11 l D ct mo mw ma mf m0 m1 mu mv u0 u1 iz mb _) (cm_V 2 hts kc_X11_throwsIf ki_RX11 kl_RX11_328 kv_X11_throwsIf kx_X11_throwsIf kd_X11_throwsIf ⟨Nat.le_of_ble_eq_true rfl, Nat.le_of_ble_eq_true rfl⟩) (cm_preV hP hK hD hS hA hX [0] rfl rfl rfl (q0 := 0) (ci := 11) rfl rfl) rfl rfl hl.1 rfl (lv_room (Nat.le_of_ble_eq_true rfl)) dX11_setLimits_37 ⟨Nat.le_of_ble_eq_true rfl, Nat.le_of_ble_eq_true rfl⟩) hP hD hS hA [0] [1] rfl rfl rfl (by decide) (fun r_11 u H locs hw_12 hP hD hS => ?_)
      have hw_12 : r_11 = 1 := hw_12
      obtain rfl := hw_12
      have hP : va_P D vwCl [(mw, .inl (ct 0, 958, .inl m_w0)), (mo, .inr (11, [.ref mw, .ref ma, .ref mf, .ref m0, .ref m1, .ref mu, .ref mv, .ref u0, .ref u1, .ref iz, .int 1, .ref mb, .int 0, .int 0, .int 0, .int 0, .int 0, .int 0, .int 0]))] H := hP
      have hD : va_D A [(mw, .inl (ct 0, 958, .inl m_w0)), (mo, .inr (11, [.ref mw, .ref ma, .ref mf, .ref m0, .ref m1, .ref mu, .ref mv, .ref u0, .ref u1, .ref iz, .int 1, .ref mb, .int 0, .int 0, .int 0, .int 0, .int 0, .int 0, .int 0]))] := hD
      refine lv_if_eq (tgt := 45) hx hb dX11_setLimits_40 (by decide) (fun hc => absurd hc (by decide)) (fun _ => ?_)
      refine lv_iconst (v := 0) hx hb dX11_setLimits_43 (by decide) ?_
      have hP9 := hP.sub (ws' := [(mo, .inr (11, [.ref mw, .ref ma, .ref mf, .ref m0, .ref m1, .ref mu, .ref mv, .ref u0, .ref u1, .ref iz, .int 1, .ref mb, .int 0, .int 0, .int 0, .int 0, .int 0, .int 0, .int 0]))]) [1] rfl
      have hD9 := hD.sub (ws' := [(mo, .inr (11, [.ref mw, .ref ma, .ref mf, .ref m0, .ref m1, .ref mu, .ref mv, .ref u0, .ref u1, .ref iz, .int 1, .ref mb, .int 0, .int 0, .int 0, .int 0, .int 0, .int 0, .int 0]))]) [1] (by decide) rfl
      exact W.iret (v := 0) hx hb hr (fun t ht hW => ⟨⟨0, 1, rfl, (Or.inr ⟨rfl, Or.inr (Or.inr (cm_inF rfl (by decide) hc_8))⟩), by rw [ht]; exact hP9, by rw [hAe]; exact hD9⟩, hS.F ht⟩) hS.2.2 dX11_setLimits_44
theorem dX11_starts_0 : decode cX11_starts 0 = .ok (.iconst 0, 1) := by decide +kernel
theorem dX11_starts_1 : decode cX11_starts 1 = .ok (.istore_n 1, 1) := by decide +kernel
theorem dX11_starts_2 : decode cX11_starts 2 = .ok (.iload_n 1, 1) := by decide +kernel
theorem dX11_starts_3 : decode cX11_starts 3 = .ok (.sipush 958, 3) := by decide +kernel
theorem dX11_starts_6 : decode cX11_starts 6 = .ok (.if_icmp .ge 13, 3) := by decide +kernel
theorem dX11_starts_9 : decode cX11_starts 9 = .ok (.aload_n 0, 1) := by decide +kernel
theorem dX11_starts_10 : decode cX11_starts 10 = .ok (.iload_n 1, 1) := by decide +kernel
theorem dX11_starts_11 : decode cX11_starts 11 = .ok (.iconst 0, 1) := by decide +kernel
theorem dX11_starts_12 : decode cX11_starts 12 = .ok (.iastore, 1) := by decide +kernel
theorem dX11_starts_13 : decode cX11_starts 13 = .ok (.iinc 1 1, 3) := by decide +kernel
theorem dX11_starts_16 : decode cX11_starts 16 = .ok (.goto (-14), 3) := by decide +kernel
theorem dX11_starts_19 : decode cX11_starts 19 = .ok (.aload_n 0, 1) := by decide +kernel
theorem dX11_starts_20 : decode cX11_starts 20 = .ok (.iconst 0, 1) := by decide +kernel
theorem dX11_starts_21 : decode cX11_starts 21 = .ok (.sipush 990, 3) := by decide +kernel
theorem dX11_starts_24 : decode cX11_starts 24 = .ok (.iastore, 1) := by decide +kernel
theorem dX11_starts_25 : decode cX11_starts 25 = .ok (.aload_n 0, 1) := by decide +kernel
theorem dX11_starts_26 : decode cX11_starts 26 = .ok (.iconst 1, 1) := by decide +kernel
theorem dX11_starts_27 : decode cX11_starts 27 = .ok (.ldc 53, 2) := by decide +kernel
theorem dX11_starts_29 : decode cX11_starts 29 = .ok (.iastore, 1) := by decide +kernel
theorem dX11_starts_30 : decode cX11_starts 30 = .ok (.aload_n 0, 1) := by decide +kernel
theorem dX11_starts_31 : decode cX11_starts 31 = .ok (.iconst 2, 1) := by decide +kernel
theorem dX11_starts_32 : decode cX11_starts 32 = .ok (.bipush 100, 2) := by decide +kernel
theorem dX11_starts_34 : decode cX11_starts 34 = .ok (.iastore, 1) := by decide +kernel
theorem dX11_starts_35 : decode cX11_starts 35 = .ok (.aload_n 0, 1) := by decide +kernel
theorem dX11_starts_36 : decode cX11_starts 36 = .ok (.iconst 3, 1) := by decide +kernel
theorem dX11_starts_37 : decode cX11_starts 37 = .ok (.iconst 5, 1) := by decide +kernel
theorem dX11_starts_38 : decode cX11_starts 38 = .ok (.iastore, 1) := by decide +kernel
theorem dX11_starts_39 : decode cX11_starts 39 = .ok (.aload_n 0, 1) := by decide +kernel
theorem dX11_starts_40 : decode cX11_starts 40 = .ok (.iconst 5, 1) := by decide +kernel
theorem dX11_starts_41 : decode cX11_starts 41 = .ok (.sipush 5000, 3) := by decide +kernel
theorem dX11_starts_44 : decode cX11_starts 44 = .ok (.iastore, 1) := by decide +kernel
theorem dX11_starts_45 : decode cX11_starts 45 = .ok (.aload_n 0, 1) := by decide +kernel
theorem dX11_starts_46 : decode cX11_starts 46 = .ok (.bipush 6, 2) := by decide +kernel
theorem dX11_starts_48 : decode cX11_starts 48 = .ok (.sipush 600, 3) := by decide +kernel
theorem dX11_starts_51 : decode cX11_starts 51 = .ok (.iastore, 1) := by decide +kernel
theorem dX11_starts_52 : decode cX11_starts 52 = .ok (.aload_n 0, 1) := by decide +kernel
theorem dX11_starts_53 : decode cX11_starts 53 = .ok (.bipush 7, 2) := by decide +kernel
theorem dX11_starts_55 : decode cX11_starts 55 = .ok (.sipush 250, 3) := by decide +kernel
theorem dX11_starts_58 : decode cX11_starts 58 = .ok (.iastore, 1) := by decide +kernel
theorem dX11_starts_59 : decode cX11_starts 59 = .ok (.aload_n 0, 1) := by decide +kernel
theorem dX11_starts_60 : decode cX11_starts 60 = .ok (.bipush 14, 2) := by decide +kernel
theorem dX11_starts_62 : decode cX11_starts 62 = .ok (.sipush 5000, 3) := by decide +kernel
theorem dX11_starts_65 : decode cX11_starts 65 = .ok (.iastore, 1) := by decide +kernel
theorem dX11_starts_66 : decode cX11_starts 66 = .ok (.aload_n 0, 1) := by decide +kernel
theorem dX11_starts_67 : decode cX11_starts 67 = .ok (.bipush 15, 2) := by decide +kernel
theorem dX11_starts_69 : decode cX11_starts 69 = .ok (.sipush 1000, 3) := by decide +kernel
theorem dX11_starts_72 : decode cX11_starts 72 = .ok (.iastore, 1) := by decide +kernel
theorem dX11_starts_73 : decode cX11_starts 73 = .ok (.return_, 1) := by decide +kernel
set_option maxRecDepth 100000 in
set_option maxHeartbeats 4000000 in
theorem m_starts (l : Launch) (D : va_G) (ct : Nat → ClassId) (a : Nat) (sz : Nat) : Met l yX11_starts (ws_ yX11_starts cX11_starts 2 none) ({ frames := 0, cells := 0, slots := 0, locals := 0 } : Room) (va_Pc [.ref a] (cmP D ct sz [(a, .inl (ct 0, 958, .inl (fun _ => 0)))])) (va_Qv (fun (_ : Unit) => True) (cmB D [(a, .inl (ct 0, 958, .inl (fun _ => 0)))] sz (fun _ : Unit => [(a, .inl (ct 0, 958, .inl m_w0))])) (va_A [(a, .inl (ct 0, 958, .inl (fun _ => 0)))] sz)) 0 0 (va_A [(a, .inl (ct 0, 958, .inl (fun _ => 0)))] sz) := by
  refine Met.ofW (cc := cX11_starts) (maxL := 2) (ret := none) (by decide) rfl ?_
  intro p e s m args below meth c s₁ B hml hv
  obtain ⟨rfl, hsz, hP, hK, hD0, hX⟩ := hv
  have hx := B.exec
  have hb := B.bytes
  have hr := B.returns
  have hts := ws_all (atoms_spec (ws := ws_ yX11_starts cX11_starts 2 none) B.pre)
  have hown : s.vm.findClass RX11 = some m.cls := findClass_of_methodNamed B.named
  have hlocks := B.notSynchronized
  subst hsz
  have hD := hD0.self (sz := s.heap.size)
  generalize hAe : va_A [(a, .inl (ct 0, 958, .inl (fun _ => 0)))] s.heap.size = A at hD hX ⊢
  have hA : ∀ q : Nat, s.heap.size ≤ q → A q := fun q h => by rw [← hAe]; exact Or.inr h
  have hS : va_S A s.heap s.heap [] := va_S.rf
  have hl := lv_entry ([.ref a]) (n := 2) (Nat.le_of_ble_eq_true rfl)
  rw [lg_entry_eq]
  generalize (lg_sl ([.ref a]) ++ List.replicate (2 - (lg_sl ([.ref a])).length) Slot.unset).toArray = ls at hl ⊢
  have hl : lv_has ls 2 [(0, .ref a)] := hl
  refine lv_iconst (v := 0) hx hb dX11_starts_0 (by decide) ?_
  refine lv_istore_n (lv' := [(1, .int 0), (0, .ref a)]) hx hb dX11_starts_1 rfl hl (by decide) rfl (fun ls hl => ?_)
  refine cm_loop (N := 958) (I := fun i H locs ls => va_P D vwCl [(a, .inl (ct 0, 958, .inl (fun _ => 0)))] H ∧ va_D A [(a, .inl (ct 0, 958, .inl (fun _ => 0)))] ∧ va_S A s.heap H locs ∧ lv_has ls 2 [(0, .ref a), (1, .int (nI i))]) ⟨hP, hD, hS, (lv_sub hl [1, 0] rfl)⟩ (fun i H locs ls hi hI ih => ?_) (fun H locs ls hI => ?_)
  · obtain ⟨hP, hD, hS, hl⟩ := hI
    have hP : va_P D vwCl [(a, .inl (ct 0, 958, .inl (fun _ => 0)))] H := hP
    have hD : va_D A [(a, .inl (ct 0, 958, .inl (fun _ => 0)))] := hD
    have hl : lv_has ls 2 [(0, .ref a), (1, .int (nI i))] := hl
    refine lv_iload_n hx hb dX11_starts_2 rfl (lv_at hl 1 rfl) ?_
    refine lv_sipush (v := 958) hx hb dX11_starts_3 (by decide) ?_
    refine lv_icmp_ge (tgt := 19) hx hb dX11_starts_6 (by decide) (fun hc => absurd hc (nI_ge hi (by decide))) (fun _ => ?_)
    refine lv_aload_n hx hb dX11_starts_9 rfl (lv_at hl 0 rfl) ?_
    refine lv_iload_n hx hb dX11_starts_10 rfl (lv_at hl 1 rfl) ?_
    refine lv_iconst (v := 0) hx hb dX11_starts_11 (by decide) ?_
    refine va_iast hx hb hK hP hD hS 0 0 rfl rfl (vp_in_nI hi (by decide)) dX11_starts_12 (fun H locs hP hD hS => ?_)
    have hP : va_P D vwCl [(a, .inl (ct 0, 958, .inl (upd (fun _ => 0) (nI i).toNatClampNeg 0)))] H := hP
    have hD : va_D A [(a, .inl (ct 0, 958, .inl (upd (fun _ => 0) (nI i).toNatClampNeg 0)))] := hD
    refine lv_iinc (v := (nI (i + 1))) (lv' := [(1, .int (nI (i + 1))), (0, .ref a)]) hx hb dX11_starts_13 hl (k := 1) rfl (nI_1 i) (by decide) rfl (fun ls hl => ?_)
    refine lv_goto (tgt := 2) hx hb dX11_starts_16 (by decide) ?_
    have ec_1 : ((fun _ => 0) : Nat → Int32) = (upd (fun _ => 0) (nI i).toNatClampNeg 0) := (cm_upd0 _)
    have hP : va_P D vwCl [(a, .inl (ct 0, 958, .inl (fun _ => 0)))] H := by rw [ec_1]; exact hP
    have hD : va_D A [(a, .inl (ct 0, 958, .inl (fun _ => 0)))] := by rw [ec_1]; exact hD
    exact ih _ _ _ ⟨hP, hD, hS, (lv_sub hl [1, 0] rfl)⟩
  · obtain ⟨hP, hD, hS, hl⟩ := hI
    have hP : va_P D vwCl [(a, .inl (ct 0, 958, .inl (fun _ => 0)))] H := hP
    have hD : va_D A [(a, .inl (ct 0, 958, .inl (fun _ => 0)))] := hD
    have hl : lv_has ls 2 [(0, .ref a), (1, .int (nI 958))] := hl
    refine lv_iload_n hx hb dX11_starts_2 rfl (lv_at hl 1 rfl) ?_
    refine lv_sipush (v := 958) hx hb dX11_starts_3 (by decide) ?_
    refine lv_icmp_ge (tgt := 19) hx hb dX11_starts_6 (by decide) (fun _ => ?_) (fun hc => absurd (by decide) hc)
    refine lv_aload_n hx hb dX11_starts_19 rfl (lv_at hl 0 rfl) ?_
    refine lv_iconst (v := 0) hx hb dX11_starts_20 (by decide) ?_
    refine lv_sipush (v := 990) hx hb dX11_starts_21 (by decide) ?_
    refine va_iast hx hb hK hP hD hS 0 0 rfl rfl (cm_vin (by decide)) dX11_starts_24 (fun H locs hP hD hS => ?_)
    have hP : va_P D vwCl [(a, .inl (ct 0, 958, .inl (upd (fun _ => 0) (0 : Int32).toNatClampNeg 990)))] H := hP
    have hD : va_D A [(a, .inl (ct 0, 958, .inl (upd (fun _ => 0) (0 : Int32).toNatClampNeg 990)))] := hD
    refine lv_aload_n hx hb dX11_starts_25 rfl (lv_at hl 0 rfl) ?_
    refine lv_iconst (v := 1) hx hb dX11_starts_26 (by decide) ?_
    refine lv_ldc hx hb hown (hts _ kl_RX11_53) dX11_starts_27 ?_
    refine va_iast hx hb hK hP hD hS 0 0 rfl rfl (cm_vin (by decide)) dX11_starts_29 (fun H locs hP hD hS => ?_)
    have hP : va_P D vwCl [(a, .inl (ct 0, 958, .inl (upd (upd (fun _ => 0) (0 : Int32).toNatClampNeg 990) (1 : Int32).toNatClampNeg 100000)))] H := hP
    have hD : va_D A [(a, .inl (ct 0, 958, .inl (upd (upd (fun _ => 0) (0 : Int32).toNatClampNeg 990) (1 : Int32).toNatClampNeg 100000)))] := hD
    refine lv_aload_n hx hb dX11_starts_30 rfl (lv_at hl 0 rfl) ?_
    refine lv_iconst (v := 2) hx hb dX11_starts_31 (by decide) ?_
    refine lv_bipush (v := 100) hx hb dX11_starts_32 (by decide) ?_
    refine va_iast hx hb hK hP hD hS 0 0 rfl rfl (cm_vin (by decide)) dX11_starts_34 (fun H locs hP hD hS => ?_)
    have hP : va_P D vwCl [(a, .inl (ct 0, 958, .inl (upd (upd (upd (fun _ => 0) (0 : Int32).toNatClampNeg 990) (1 : Int32).toNatClampNeg 100000) (2 : Int32).toNatClampNeg 100)))] H := hP
    have hD : va_D A [(a, .inl (ct 0, 958, .inl (upd (upd (upd (fun _ => 0) (0 : Int32).toNatClampNeg 990) (1 : Int32).toNatClampNeg 100000) (2 : Int32).toNatClampNeg 100)))] := hD
    refine lv_aload_n hx hb dX11_starts_35 rfl (lv_at hl 0 rfl) ?_
    refine lv_iconst (v := 3) hx hb dX11_starts_36 (by decide) ?_
    refine lv_iconst (v := 5) hx hb dX11_starts_37 (by decide) ?_
    refine va_iast hx hb hK hP hD hS 0 0 rfl rfl (cm_vin (by decide)) dX11_starts_38 (fun H locs hP hD hS => ?_)
    have hP : va_P D vwCl [(a, .inl (ct 0, 958, .inl (upd (upd (upd (upd (fun _ => 0) (0 : Int32).toNatClampNeg 990) (1 : Int32).toNatClampNeg 100000) (2 : Int32).toNatClampNeg 100) (3 : Int32).toNatClampNeg 5)))] H := hP
    have hD : va_D A [(a, .inl (ct 0, 958, .inl (upd (upd (upd (upd (fun _ => 0) (0 : Int32).toNatClampNeg 990) (1 : Int32).toNatClampNeg 100000) (2 : Int32).toNatClampNeg 100) (3 : Int32).toNatClampNeg 5)))] := hD
    refine lv_aload_n hx hb dX11_starts_39 rfl (lv_at hl 0 rfl) ?_
    refine lv_iconst (v := 5) hx hb dX11_starts_40 (by decide) ?_
    refine lv_sipush (v := 5000) hx hb dX11_starts_41 (by decide) ?_
    refine va_iast hx hb hK hP hD hS 0 0 rfl rfl (cm_vin (by decide)) dX11_starts_44 (fun H locs hP hD hS => ?_)
    have hP : va_P D vwCl [(a, .inl (ct 0, 958, .inl (upd (upd (upd (upd (upd (fun _ => 0) (0 : Int32).toNatClampNeg 990) (1 : Int32).toNatClampNeg 100000) (2 : Int32).toNatClampNeg 100) (3 : Int32).toNatClampNeg 5) (5 : Int32).toNatClampNeg 5000)))] H := hP
    have hD : va_D A [(a, .inl (ct 0, 958, .inl (upd (upd (upd (upd (upd (fun _ => 0) (0 : Int32).toNatClampNeg 990) (1 : Int32).toNatClampNeg 100000) (2 : Int32).toNatClampNeg 100) (3 : Int32).toNatClampNeg 5) (5 : Int32).toNatClampNeg 5000)))] := hD
    refine lv_aload_n hx hb dX11_starts_45 rfl (lv_at hl 0 rfl) ?_
    refine lv_bipush (v := 6) hx hb dX11_starts_46 (by decide) ?_
    refine lv_sipush (v := 600) hx hb dX11_starts_48 (by decide) ?_
    refine va_iast hx hb hK hP hD hS 0 0 rfl rfl (cm_vin (by decide)) dX11_starts_51 (fun H locs hP hD hS => ?_)
    have hP : va_P D vwCl [(a, .inl (ct 0, 958, .inl (upd (upd (upd (upd (upd (upd (fun _ => 0) (0 : Int32).toNatClampNeg 990) (1 : Int32).toNatClampNeg 100000) (2 : Int32).toNatClampNeg 100) (3 : Int32).toNatClampNeg 5) (5 : Int32).toNatClampNeg 5000) (6 : Int32).toNatClampNeg 600)))] H := hP
    have hD : va_D A [(a, .inl (ct 0, 958, .inl (upd (upd (upd (upd (upd (upd (fun _ => 0) (0 : Int32).toNatClampNeg 990) (1 : Int32).toNatClampNeg 100000) (2 : Int32).toNatClampNeg 100) (3 : Int32).toNatClampNeg 5) (5 : Int32).toNatClampNeg 5000) (6 : Int32).toNatClampNeg 600)))] := hD
    refine lv_aload_n hx hb dX11_starts_52 rfl (lv_at hl 0 rfl) ?_
    refine lv_bipush (v := 7) hx hb dX11_starts_53 (by decide) ?_
    refine lv_sipush (v := 250) hx hb dX11_starts_55 (by decide) ?_
    refine va_iast hx hb hK hP hD hS 0 0 rfl rfl (cm_vin (by decide)) dX11_starts_58 (fun H locs hP hD hS => ?_)
    have hP : va_P D vwCl [(a, .inl (ct 0, 958, .inl (upd (upd (upd (upd (upd (upd (upd (fun _ => 0) (0 : Int32).toNatClampNeg 990) (1 : Int32).toNatClampNeg 100000) (2 : Int32).toNatClampNeg 100) (3 : Int32).toNatClampNeg 5) (5 : Int32).toNatClampNeg 5000) (6 : Int32).toNatClampNeg 600) (7 : Int32).toNatClampNeg 250)))] H := hP
    have hD : va_D A [(a, .inl (ct 0, 958, .inl (upd (upd (upd (upd (upd (upd (upd (fun _ => 0) (0 : Int32).toNatClampNeg 990) (1 : Int32).toNatClampNeg 100000) (2 : Int32).toNatClampNeg 100) (3 : Int32).toNatClampNeg 5) (5 : Int32).toNatClampNeg 5000) (6 : Int32).toNatClampNeg 600) (7 : Int32).toNatClampNeg 250)))] := hD
    refine lv_aload_n hx hb dX11_starts_59 rfl (lv_at hl 0 rfl) ?_
    refine lv_bipush (v := 14) hx hb dX11_starts_60 (by decide) ?_
    refine lv_sipush (v := 5000) hx hb dX11_starts_62 (by decide) ?_
    refine va_iast hx hb hK hP hD hS 0 0 rfl rfl (cm_vin (by decide)) dX11_starts_65 (fun H locs hP hD hS => ?_)
    have hP : va_P D vwCl [(a, .inl (ct 0, 958, .inl (upd (upd (upd (upd (upd (upd (upd (upd (fun _ => 0) (0 : Int32).toNatClampNeg 990) (1 : Int32).toNatClampNeg 100000) (2 : Int32).toNatClampNeg 100) (3 : Int32).toNatClampNeg 5) (5 : Int32).toNatClampNeg 5000) (6 : Int32).toNatClampNeg 600) (7 : Int32).toNatClampNeg 250) (14 : Int32).toNatClampNeg 5000)))] H := hP
    have hD : va_D A [(a, .inl (ct 0, 958, .inl (upd (upd (upd (upd (upd (upd (upd (upd (fun _ => 0) (0 : Int32).toNatClampNeg 990) (1 : Int32).toNatClampNeg 100000) (2 : Int32).toNatClampNeg 100) (3 : Int32).toNatClampNeg 5) (5 : Int32).toNatClampNeg 5000) (6 : Int32).toNatClampNeg 600) (7 : Int32).toNatClampNeg 250) (14 : Int32).toNatClampNeg 5000)))] := hD
    refine lv_aload_n hx hb dX11_starts_66 rfl (lv_at hl 0 rfl) ?_
    refine lv_bipush (v := 15) hx hb dX11_starts_67 (by decide) ?_
    refine lv_sipush (v := 1000) hx hb dX11_starts_69 (by decide) ?_
    refine va_iast hx hb hK hP hD hS 0 0 rfl rfl (cm_vin (by decide)) dX11_starts_72 (fun H locs hP hD hS => ?_)
    have hP : va_P D vwCl [(a, .inl (ct 0, 958, .inl (upd (upd (upd (upd (upd (upd (upd (upd (upd (fun _ => 0) (0 : Int32).toNatClampNeg 990) (1 : Int32).toNatClampNeg 100000) (2 : Int32).toNatClampNeg 100) (3 : Int32).toNatClampNeg 5) (5 : Int32).toNatClampNeg 5000) (6 : Int32).toNatClampNeg 600) (7 : Int32).toNatClampNeg 250) (14 : Int32).toNatClampNeg 5000) (15 : Int32).toNatClampNeg 1000)))] H := hP
    have hD : va_D A [(a, .inl (ct 0, 958, .inl (upd (upd (upd (upd (upd (upd (upd (upd (upd (fun _ => 0) (0 : Int32).toNatClampNeg 990) (1 : Int32).toNatClampNeg 100000) (2 : Int32).toNatClampNeg 100) (3 : Int32).toNatClampNeg 5) (5 : Int32).toNatClampNeg 5000) (6 : Int32).toNatClampNeg 600) (7 : Int32).toNatClampNeg 250) (14 : Int32).toNatClampNeg 5000) (15 : Int32).toNatClampNeg 1000)))] := hD
    have ec_2 : (m_w0 : Nat → Int32) = (upd (upd (upd (upd (upd (upd (upd (upd (upd (fun _ => 0) (0 : Int32).toNatClampNeg 990) (1 : Int32).toNatClampNeg 100000) (2 : Int32).toNatClampNeg 100) (3 : Int32).toNatClampNeg 5) (5 : Int32).toNatClampNeg 5000) (6 : Int32).toNatClampNeg 600) (7 : Int32).toNatClampNeg 250) (14 : Int32).toNatClampNeg 5000) (15 : Int32).toNatClampNeg 1000) := rfl
    have hP : va_P D vwCl [(a, .inl (ct 0, 958, .inl m_w0))] H := by rw [ec_2]; exact hP
    have hD : va_D A [(a, .inl (ct 0, 958, .inl m_w0))] := by rw [ec_2]; exact hD
    have hP9 := hP.sub (ws' := [(a, .inl (ct 0, 958, .inl m_w0))]) [0] rfl
    have hD9 := hD.sub (ws' := [(a, .inl (ct 0, 958, .inl m_w0))]) [0] (by decide) rfl
    exact W.vret hx hb hr (fun t ht hW => ⟨⟨(), rfl, trivial, by rw [ht]; exact hP9, by rw [hAe]; exact hD9⟩, hS.F ht⟩) hS.2.2 dX11_starts_73
