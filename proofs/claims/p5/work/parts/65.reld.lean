set_option maxRecDepth 100000 in
set_option maxHeartbeats 4000000 in
theorem r_X10_copyRow_12 (l : Launch) (D : va_G) (ct : Nat → ClassId) (S : ty_S) (ws : va_W) (ph : va_W → Prop) (xx : Nat → Nat → Nat → Prop) (p1 : Nat) (b : Nat → Int32) (p2 : Nat) (gd : Nat → Int32) (sz : Nat) (hT : ty_V ct S ph ws) (hph : ty_C ph xx) (hy1 : ty_y1 xx) : Met l yX10_copyRow (ws_ yX10_copyRow cX10_copyRow 2 none) ({ frames := 1, cells := 0, slots := 0, locals := 80 } : Room) (va_Pc [.ref p1, .ref p2] (cmP D ct sz ([(rf_RW ct 0 p1 12 b), (rf_RW ct 0 p2 12 gd)] ++ ws))) (va_Qv (fun (u9 : va_W) => ty_V ct S ph u9) (cmB D ([(rf_RW ct 0 p1 12 b), (rf_RW ct 0 p2 12 gd)] ++ ws) sz (fun (u9 : va_W) => ([(rf_RW ct 0 p1 12 b), (rf_RW ct 0 p2 12 (cm_cpy 12 b gd))] ++ u9))) (va_A ([(rf_RW ct 0 p1 12 b), (rf_RW ct 0 p2 12 gd)] ++ ws) sz)) 0 0 (va_A ([(rf_RW ct 0 p1 12 b), (rf_RW ct 0 p2 12 gd)] ++ ws) sz) := by
  refine Met.ofW (cc := cX10_copyRow) (maxL := 2) (ret := none) (by decide) rfl ?_
  intro p e s m args below meth c s₁ B hml hv
  obtain ⟨rfl, hsz, hP, hK, hD0, hX⟩ := hv
  have hx := B.exec
  have hb := B.bytes
  have hr := B.returns
  have hts := ws_all (atoms_spec (ws := ws_ yX10_copyRow cX10_copyRow 2 none) B.pre)
  have hown : s.vm.findClass RX10 = some m.cls := findClass_of_methodNamed B.named
  have hlocks := B.notSynchronized
  subst hsz
  have hD := hD0.self (sz := s.heap.size)
  generalize hAe : va_A ([(rf_RW ct 0 p1 12 b), (rf_RW ct 0 p2 12 gd)] ++ ws) s.heap.size = A at hD hX ⊢
  have hA : ∀ q : Nat, s.heap.size ≤ q → A q := fun q h => by rw [← hAe]; exact Or.inr h
  have hS : va_S A s.heap s.heap [] := va_S.rf
  have hl := lv_entry ([.ref p1, .ref p2]) (n := 2) (Nat.le_of_ble_eq_true rfl)
  rw [lg_entry_eq]
  generalize (lg_sl ([.ref p1, .ref p2]) ++ List.replicate (2 - (lg_sl ([.ref p1, .ref p2])).length) Slot.unset).toArray = ls at hl ⊢
  have hl : lv_has ls 2 [(0, .ref p1), (1, .ref p2)] := hl
  refine lv_aload_n hx hb dX10_copyRow_0 rfl (lv_at hl 0 rfl) ?_
  refine lv_iconst (v := 0) hx hb dX10_copyRow_1 (by decide) ?_
  refine lv_aload_n hx hb dX10_copyRow_2 rfl (lv_at hl 1 rfl) ?_
  refine lv_iconst (v := 0) hx hb dX10_copyRow_3 (by decide) ?_
  refine lv_aload_n hx hb dX10_copyRow_4 rfl (lv_at hl 0 rfl) ?_
  refine va_alen hx hb hK hP 0 0 rfl rfl (v := 12) (show Int32.ofNat 12 = (12 : Int32) from by decide) dX10_copyRow_5 ?_
  refine lv_aload_n hx hb dX10_copyRow_6 rfl (lv_at hl 1 rfl) ?_
  refine va_alen hx hb hK hP 1 0 rfl rfl (v := 12) (show Int32.ofNat 12 = (12 : Int32) from by decide) dX10_copyRow_7 ?_
  refine va_mmin hx hb (hml.trans hl.1.symm) hown (hts _ kl_RX10_368) (hts _ jm_min_s) (hts _ ki_RJ9) (hts _ jm_min_c) (Nat.le_of_ble_eq_true rfl) (Nat.le_of_ble_eq_true rfl) (Nat.le_of_ble_eq_true rfl) (Nat.le_of_ble_eq_true rfl) dX10_copyRow_8 ?_
  refine cm_cst (y := 12) (by decide) ?_
  refine va_copyi hx hb (hml.trans hl.1.symm) hown (hts _ kl_RX10_371) (hts _ kna_java_lang_System_arraycopy) (hts _ ks_java_lang_System_arraycopy) (hts _ ki_RJ10) hK hP hD hS 0 1 0 0 rfl rfl rfl rfl rfl (by decide) (by decide) (by decide) (by decide) (by decide) (fun _ _ => rfl) (Nat.le_of_ble_eq_true rfl) (Nat.le_of_ble_eq_true rfl) dX10_copyRow_11 (fun H locs hP hD hS => ?_)
  have hP : va_P D vwCl ([(rf_RW ct 0 p1 12 b), (rf_RW ct 0 p2 12 (va_cpy b gd (0 : Int32).toNatClampNeg (0 : Int32).toNatClampNeg (12 : Int32).toNatClampNeg))] ++ ws) H := hP
  have hD : va_D A ([(rf_RW ct 0 p1 12 b), (rf_RW ct 0 p2 12 (va_cpy b gd (0 : Int32).toNatClampNeg (0 : Int32).toNatClampNeg (12 : Int32).toNatClampNeg))] ++ ws) := hD
  have ec_1 : ((cm_cpy 12 b gd) : Nat → Int32) = (va_cpy b gd (0 : Int32).toNatClampNeg (0 : Int32).toNatClampNeg (12 : Int32).toNatClampNeg) := (cm_cpy_eq (by decide)).symm
  obtain ⟨hP, hD⟩ := ty_shPD (w2 := ([(rf_RW ct 0 p1 12 b), (rf_RW ct 0 p2 12 (cm_cpy 12 b gd))] ++ ws)) hP hD (by rw [ec_1] <;> rfl)
  exact W.vret hx hb hr (fun t ht hW => ⟨⟨ws, rfl, hT, by rw [ht]; exact hP, by rw [hAe]; exact hD⟩, hS.F ht⟩) hS.2.2 dX10_copyRow_14
set_option maxRecDepth 100000 in
set_option maxHeartbeats 4000000 in
theorem r_X10_copyRow_44 (l : Launch) (D : va_G) (ct : Nat → ClassId) (S : ty_S) (ws : va_W) (ph : va_W → Prop) (xx : Nat → Nat → Nat → Prop) (p1 : Nat) (b : Nat → Int32) (p2 : Nat) (gd : Nat → Int32) (sz : Nat) (hT : ty_V ct S ph ws) (hph : ty_C ph xx) (hy1 : ty_y1 xx) : Met l yX10_copyRow (ws_ yX10_copyRow cX10_copyRow 2 none) ({ frames := 1, cells := 0, slots := 0, locals := 80 } : Room) (va_Pc [.ref p1, .ref p2] (cmP D ct sz ([(rf_RW ct 0 p1 44 b), (rf_RW ct 0 p2 44 gd)] ++ ws))) (va_Qv (fun (u9 : va_W) => ty_V ct S ph u9) (cmB D ([(rf_RW ct 0 p1 44 b), (rf_RW ct 0 p2 44 gd)] ++ ws) sz (fun (u9 : va_W) => ([(rf_RW ct 0 p1 44 b), (rf_RW ct 0 p2 44 (cm_cpy 44 b gd))] ++ u9))) (va_A ([(rf_RW ct 0 p1 44 b), (rf_RW ct 0 p2 44 gd)] ++ ws) sz)) 0 0 (va_A ([(rf_RW ct 0 p1 44 b), (rf_RW ct 0 p2 44 gd)] ++ ws) sz) := by
  refine Met.ofW (cc := cX10_copyRow) (maxL := 2) (ret := none) (by decide) rfl ?_
  intro p e s m args below meth c s₁ B hml hv
  obtain ⟨rfl, hsz, hP, hK, hD0, hX⟩ := hv
  have hx := B.exec
  have hb := B.bytes
  have hr := B.returns
  have hts := ws_all (atoms_spec (ws := ws_ yX10_copyRow cX10_copyRow 2 none) B.pre)
  have hown : s.vm.findClass RX10 = some m.cls := findClass_of_methodNamed B.named
  have hlocks := B.notSynchronized
  subst hsz
  have hD := hD0.self (sz := s.heap.size)
  generalize hAe : va_A ([(rf_RW ct 0 p1 44 b), (rf_RW ct 0 p2 44 gd)] ++ ws) s.heap.size = A at hD hX ⊢
  have hA : ∀ q : Nat, s.heap.size ≤ q → A q := fun q h => by rw [← hAe]; exact Or.inr h
  have hS : va_S A s.heap s.heap [] := va_S.rf
  have hl := lv_entry ([.ref p1, .ref p2]) (n := 2) (Nat.le_of_ble_eq_true rfl)
  rw [lg_entry_eq]
  generalize (lg_sl ([.ref p1, .ref p2]) ++ List.replicate (2 - (lg_sl ([.ref p1, .ref p2])).length) Slot.unset).toArray = ls at hl ⊢
  have hl : lv_has ls 2 [(0, .ref p1), (1, .ref p2)] := hl
  refine lv_aload_n hx hb dX10_copyRow_0 rfl (lv_at hl 0 rfl) ?_
  refine lv_iconst (v := 0) hx hb dX10_copyRow_1 (by decide) ?_
  refine lv_aload_n hx hb dX10_copyRow_2 rfl (lv_at hl 1 rfl) ?_
  refine lv_iconst (v := 0) hx hb dX10_copyRow_3 (by decide) ?_
  refine lv_aload_n hx hb dX10_copyRow_4 rfl (lv_at hl 0 rfl) ?_
  refine va_alen hx hb hK hP 0 0 rfl rfl (v := 44) (show Int32.ofNat 44 = (44 : Int32) from by decide) dX10_copyRow_5 ?_
  refine lv_aload_n hx hb dX10_copyRow_6 rfl (lv_at hl 1 rfl) ?_
  refine va_alen hx hb hK hP 1 0 rfl rfl (v := 44) (show Int32.ofNat 44 = (44 : Int32) from by decide) dX10_copyRow_7 ?_
  refine va_mmin hx hb (hml.trans hl.1.symm) hown (hts _ kl_RX10_368) (hts _ jm_min_s) (hts _ ki_RJ9) (hts _ jm_min_c) (Nat.le_of_ble_eq_true rfl) (Nat.le_of_ble_eq_true rfl) (Nat.le_of_ble_eq_true rfl) (Nat.le_of_ble_eq_true rfl) dX10_copyRow_8 ?_
  refine cm_cst (y := 44) (by decide) ?_
  refine va_copyi hx hb (hml.trans hl.1.symm) hown (hts _ kl_RX10_371) (hts _ kna_java_lang_System_arraycopy) (hts _ ks_java_lang_System_arraycopy) (hts _ ki_RJ10) hK hP hD hS 0 1 0 0 rfl rfl rfl rfl rfl (by decide) (by decide) (by decide) (by decide) (by decide) (fun _ _ => rfl) (Nat.le_of_ble_eq_true rfl) (Nat.le_of_ble_eq_true rfl) dX10_copyRow_11 (fun H locs hP hD hS => ?_)
  have hP : va_P D vwCl ([(rf_RW ct 0 p1 44 b), (rf_RW ct 0 p2 44 (va_cpy b gd (0 : Int32).toNatClampNeg (0 : Int32).toNatClampNeg (44 : Int32).toNatClampNeg))] ++ ws) H := hP
  have hD : va_D A ([(rf_RW ct 0 p1 44 b), (rf_RW ct 0 p2 44 (va_cpy b gd (0 : Int32).toNatClampNeg (0 : Int32).toNatClampNeg (44 : Int32).toNatClampNeg))] ++ ws) := hD
  have ec_1 : ((cm_cpy 44 b gd) : Nat → Int32) = (va_cpy b gd (0 : Int32).toNatClampNeg (0 : Int32).toNatClampNeg (44 : Int32).toNatClampNeg) := (cm_cpy_eq (by decide)).symm
  obtain ⟨hP, hD⟩ := ty_shPD (w2 := ([(rf_RW ct 0 p1 44 b), (rf_RW ct 0 p2 44 (cm_cpy 44 b gd))] ++ ws)) hP hD (by rw [ec_1] <;> rfl)
  exact W.vret hx hb hr (fun t ht hW => ⟨⟨ws, rfl, hT, by rw [ht]; exact hP, by rw [hAe]; exact hD⟩, hS.F ht⟩) hS.2.2 dX10_copyRow_14
set_option maxRecDepth 100000 in
set_option maxHeartbeats 4000000 in
theorem r_X10_copyRow_48 (l : Launch) (D : va_G) (ct : Nat → ClassId) (S : ty_S) (ws : va_W) (ph : va_W → Prop) (xx : Nat → Nat → Nat → Prop) (p1 : Nat) (b : Nat → Int32) (p2 : Nat) (gd : Nat → Int32) (sz : Nat) (hT : ty_V ct S ph ws) (hph : ty_C ph xx) (hy1 : ty_y1 xx) : Met l yX10_copyRow (ws_ yX10_copyRow cX10_copyRow 2 none) ({ frames := 1, cells := 0, slots := 0, locals := 80 } : Room) (va_Pc [.ref p1, .ref p2] (cmP D ct sz ([(rf_RW ct 0 p1 48 b), (rf_RW ct 0 p2 48 gd)] ++ ws))) (va_Qv (fun (u9 : va_W) => ty_V ct S ph u9) (cmB D ([(rf_RW ct 0 p1 48 b), (rf_RW ct 0 p2 48 gd)] ++ ws) sz (fun (u9 : va_W) => ([(rf_RW ct 0 p1 48 b), (rf_RW ct 0 p2 48 (cm_cpy 48 b gd))] ++ u9))) (va_A ([(rf_RW ct 0 p1 48 b), (rf_RW ct 0 p2 48 gd)] ++ ws) sz)) 0 0 (va_A ([(rf_RW ct 0 p1 48 b), (rf_RW ct 0 p2 48 gd)] ++ ws) sz) := by
  refine Met.ofW (cc := cX10_copyRow) (maxL := 2) (ret := none) (by decide) rfl ?_
  intro p e s m args below meth c s₁ B hml hv
  obtain ⟨rfl, hsz, hP, hK, hD0, hX⟩ := hv
  have hx := B.exec
  have hb := B.bytes
  have hr := B.returns
  have hts := ws_all (atoms_spec (ws := ws_ yX10_copyRow cX10_copyRow 2 none) B.pre)
  have hown : s.vm.findClass RX10 = some m.cls := findClass_of_methodNamed B.named
  have hlocks := B.notSynchronized
  subst hsz
  have hD := hD0.self (sz := s.heap.size)
  generalize hAe : va_A ([(rf_RW ct 0 p1 48 b), (rf_RW ct 0 p2 48 gd)] ++ ws) s.heap.size = A at hD hX ⊢
  have hA : ∀ q : Nat, s.heap.size ≤ q → A q := fun q h => by rw [← hAe]; exact Or.inr h
  have hS : va_S A s.heap s.heap [] := va_S.rf
  have hl := lv_entry ([.ref p1, .ref p2]) (n := 2) (Nat.le_of_ble_eq_true rfl)
  rw [lg_entry_eq]
  generalize (lg_sl ([.ref p1, .ref p2]) ++ List.replicate (2 - (lg_sl ([.ref p1, .ref p2])).length) Slot.unset).toArray = ls at hl ⊢
  have hl : lv_has ls 2 [(0, .ref p1), (1, .ref p2)] := hl
  refine lv_aload_n hx hb dX10_copyRow_0 rfl (lv_at hl 0 rfl) ?_
  refine lv_iconst (v := 0) hx hb dX10_copyRow_1 (by decide) ?_
  refine lv_aload_n hx hb dX10_copyRow_2 rfl (lv_at hl 1 rfl) ?_
  refine lv_iconst (v := 0) hx hb dX10_copyRow_3 (by decide) ?_
  refine lv_aload_n hx hb dX10_copyRow_4 rfl (lv_at hl 0 rfl) ?_
  refine va_alen hx hb hK hP 0 0 rfl rfl (v := 48) (show Int32.ofNat 48 = (48 : Int32) from by decide) dX10_copyRow_5 ?_
  refine lv_aload_n hx hb dX10_copyRow_6 rfl (lv_at hl 1 rfl) ?_
  refine va_alen hx hb hK hP 1 0 rfl rfl (v := 48) (show Int32.ofNat 48 = (48 : Int32) from by decide) dX10_copyRow_7 ?_
  refine va_mmin hx hb (hml.trans hl.1.symm) hown (hts _ kl_RX10_368) (hts _ jm_min_s) (hts _ ki_RJ9) (hts _ jm_min_c) (Nat.le_of_ble_eq_true rfl) (Nat.le_of_ble_eq_true rfl) (Nat.le_of_ble_eq_true rfl) (Nat.le_of_ble_eq_true rfl) dX10_copyRow_8 ?_
  refine cm_cst (y := 48) (by decide) ?_
  refine va_copyi hx hb (hml.trans hl.1.symm) hown (hts _ kl_RX10_371) (hts _ kna_java_lang_System_arraycopy) (hts _ ks_java_lang_System_arraycopy) (hts _ ki_RJ10) hK hP hD hS 0 1 0 0 rfl rfl rfl rfl rfl (by decide) (by decide) (by decide) (by decide) (by decide) (fun _ _ => rfl) (Nat.le_of_ble_eq_true rfl) (Nat.le_of_ble_eq_true rfl) dX10_copyRow_11 (fun H locs hP hD hS => ?_)
  have hP : va_P D vwCl ([(rf_RW ct 0 p1 48 b), (rf_RW ct 0 p2 48 (va_cpy b gd (0 : Int32).toNatClampNeg (0 : Int32).toNatClampNeg (48 : Int32).toNatClampNeg))] ++ ws) H := hP
  have hD : va_D A ([(rf_RW ct 0 p1 48 b), (rf_RW ct 0 p2 48 (va_cpy b gd (0 : Int32).toNatClampNeg (0 : Int32).toNatClampNeg (48 : Int32).toNatClampNeg))] ++ ws) := hD
  have ec_1 : ((cm_cpy 48 b gd) : Nat → Int32) = (va_cpy b gd (0 : Int32).toNatClampNeg (0 : Int32).toNatClampNeg (48 : Int32).toNatClampNeg) := (cm_cpy_eq (by decide)).symm
  obtain ⟨hP, hD⟩ := ty_shPD (w2 := ([(rf_RW ct 0 p1 48 b), (rf_RW ct 0 p2 48 (cm_cpy 48 b gd))] ++ ws)) hP hD (by rw [ec_1] <;> rfl)
  exact W.vret hx hb hr (fun t ht hW => ⟨⟨ws, rfl, hT, by rw [ht]; exact hP, by rw [hAe]; exact hD⟩, hS.F ht⟩) hS.2.2 dX10_copyRow_14
set_option maxRecDepth 100000 in
set_option maxHeartbeats 4000000 in
theorem r_X10_copyRow_150 (l : Launch) (D : va_G) (ct : Nat → ClassId) (S : ty_S) (ws : va_W) (ph : va_W → Prop) (xx : Nat → Nat → Nat → Prop) (p1 : Nat) (b : Nat → Int32) (p2 : Nat) (gd : Nat → Int32) (sz : Nat) (hT : ty_V ct S ph ws) (hph : ty_C ph xx) (hy1 : ty_y1 xx) : Met l yX10_copyRow (ws_ yX10_copyRow cX10_copyRow 2 none) ({ frames := 1, cells := 0, slots := 0, locals := 80 } : Room) (va_Pc [.ref p1, .ref p2] (cmP D ct sz ([(rf_RW ct 0 p1 150 b), (rf_RW ct 0 p2 150 gd)] ++ ws))) (va_Qv (fun (u9 : va_W) => ty_V ct S ph u9) (cmB D ([(rf_RW ct 0 p1 150 b), (rf_RW ct 0 p2 150 gd)] ++ ws) sz (fun (u9 : va_W) => ([(rf_RW ct 0 p1 150 b), (rf_RW ct 0 p2 150 (cm_cpy 150 b gd))] ++ u9))) (va_A ([(rf_RW ct 0 p1 150 b), (rf_RW ct 0 p2 150 gd)] ++ ws) sz)) 0 0 (va_A ([(rf_RW ct 0 p1 150 b), (rf_RW ct 0 p2 150 gd)] ++ ws) sz) := by
  refine Met.ofW (cc := cX10_copyRow) (maxL := 2) (ret := none) (by decide) rfl ?_
  intro p e s m args below meth c s₁ B hml hv
  obtain ⟨rfl, hsz, hP, hK, hD0, hX⟩ := hv
  have hx := B.exec
  have hb := B.bytes
  have hr := B.returns
  have hts := ws_all (atoms_spec (ws := ws_ yX10_copyRow cX10_copyRow 2 none) B.pre)
  have hown : s.vm.findClass RX10 = some m.cls := findClass_of_methodNamed B.named
  have hlocks := B.notSynchronized
  subst hsz
  have hD := hD0.self (sz := s.heap.size)
  generalize hAe : va_A ([(rf_RW ct 0 p1 150 b), (rf_RW ct 0 p2 150 gd)] ++ ws) s.heap.size = A at hD hX ⊢
  have hA : ∀ q : Nat, s.heap.size ≤ q → A q := fun q h => by rw [← hAe]; exact Or.inr h
  have hS : va_S A s.heap s.heap [] := va_S.rf
  have hl := lv_entry ([.ref p1, .ref p2]) (n := 2) (Nat.le_of_ble_eq_true rfl)
  rw [lg_entry_eq]
  generalize (lg_sl ([.ref p1, .ref p2]) ++ List.replicate (2 - (lg_sl ([.ref p1, .ref p2])).length) Slot.unset).toArray = ls at hl ⊢
  have hl : lv_has ls 2 [(0, .ref p1), (1, .ref p2)] := hl
  refine lv_aload_n hx hb dX10_copyRow_0 rfl (lv_at hl 0 rfl) ?_
  refine lv_iconst (v := 0) hx hb dX10_copyRow_1 (by decide) ?_
  refine lv_aload_n hx hb dX10_copyRow_2 rfl (lv_at hl 1 rfl) ?_
  refine lv_iconst (v := 0) hx hb dX10_copyRow_3 (by decide) ?_
  refine lv_aload_n hx hb dX10_copyRow_4 rfl (lv_at hl 0 rfl) ?_
  refine va_alen hx hb hK hP 0 0 rfl rfl (v := 150) (show Int32.ofNat 150 = (150 : Int32) from by decide) dX10_copyRow_5 ?_
  refine lv_aload_n hx hb dX10_copyRow_6 rfl (lv_at hl 1 rfl) ?_
  refine va_alen hx hb hK hP 1 0 rfl rfl (v := 150) (show Int32.ofNat 150 = (150 : Int32) from by decide) dX10_copyRow_7 ?_
  refine va_mmin hx hb (hml.trans hl.1.symm) hown (hts _ kl_RX10_368) (hts _ jm_min_s) (hts _ ki_RJ9) (hts _ jm_min_c) (Nat.le_of_ble_eq_true rfl) (Nat.le_of_ble_eq_true rfl) (Nat.le_of_ble_eq_true rfl) (Nat.le_of_ble_eq_true rfl) dX10_copyRow_8 ?_
  refine cm_cst (y := 150) (by decide) ?_
  refine va_copyi hx hb (hml.trans hl.1.symm) hown (hts _ kl_RX10_371) (hts _ kna_java_lang_System_arraycopy) (hts _ ks_java_lang_System_arraycopy) (hts _ ki_RJ10) hK hP hD hS 0 1 0 0 rfl rfl rfl rfl rfl (by decide) (by decide) (by decide) (by decide) (by decide) (fun _ _ => rfl) (Nat.le_of_ble_eq_true rfl) (Nat.le_of_ble_eq_true rfl) dX10_copyRow_11 (fun H locs hP hD hS => ?_)
  have hP : va_P D vwCl ([(rf_RW ct 0 p1 150 b), (rf_RW ct 0 p2 150 (va_cpy b gd (0 : Int32).toNatClampNeg (0 : Int32).toNatClampNeg (150 : Int32).toNatClampNeg))] ++ ws) H := hP
  have hD : va_D A ([(rf_RW ct 0 p1 150 b), (rf_RW ct 0 p2 150 (va_cpy b gd (0 : Int32).toNatClampNeg (0 : Int32).toNatClampNeg (150 : Int32).toNatClampNeg))] ++ ws) := hD
  have ec_1 : ((cm_cpy 150 b gd) : Nat → Int32) = (va_cpy b gd (0 : Int32).toNatClampNeg (0 : Int32).toNatClampNeg (150 : Int32).toNatClampNeg) := (cm_cpy_eq (by decide)).symm
  obtain ⟨hP, hD⟩ := ty_shPD (w2 := ([(rf_RW ct 0 p1 150 b), (rf_RW ct 0 p2 150 (cm_cpy 150 b gd))] ++ ws)) hP hD (by rw [ec_1] <;> rfl)
  exact W.vret hx hb hr (fun t ht hW => ⟨⟨ws, rfl, hT, by rw [ht]; exact hP, by rw [hAe]; exact hD⟩, hS.F ht⟩) hS.2.2 dX10_copyRow_14
set_option maxRecDepth 100000 in
set_option maxHeartbeats 4000000 in
theorem r_X10_copyRow_240 (l : Launch) (D : va_G) (ct : Nat → ClassId) (S : ty_S) (ws : va_W) (ph : va_W → Prop) (xx : Nat → Nat → Nat → Prop) (p1 : Nat) (b : Nat → Int32) (p2 : Nat) (gd : Nat → Int32) (sz : Nat) (hT : ty_V ct S ph ws) (hph : ty_C ph xx) (hy1 : ty_y1 xx) : Met l yX10_copyRow (ws_ yX10_copyRow cX10_copyRow 2 none) ({ frames := 1, cells := 0, slots := 0, locals := 80 } : Room) (va_Pc [.ref p1, .ref p2] (cmP D ct sz ([(rf_RW ct 0 p1 240 b), (rf_RW ct 0 p2 240 gd)] ++ ws))) (va_Qv (fun (u9 : va_W) => ty_V ct S ph u9) (cmB D ([(rf_RW ct 0 p1 240 b), (rf_RW ct 0 p2 240 gd)] ++ ws) sz (fun (u9 : va_W) => ([(rf_RW ct 0 p1 240 b), (rf_RW ct 0 p2 240 (cm_cpy 240 b gd))] ++ u9))) (va_A ([(rf_RW ct 0 p1 240 b), (rf_RW ct 0 p2 240 gd)] ++ ws) sz)) 0 0 (va_A ([(rf_RW ct 0 p1 240 b), (rf_RW ct 0 p2 240 gd)] ++ ws) sz) := by
  refine Met.ofW (cc := cX10_copyRow) (maxL := 2) (ret := none) (by decide) rfl ?_
  intro p e s m args below meth c s₁ B hml hv
  obtain ⟨rfl, hsz, hP, hK, hD0, hX⟩ := hv
  have hx := B.exec
  have hb := B.bytes
  have hr := B.returns
  have hts := ws_all (atoms_spec (ws := ws_ yX10_copyRow cX10_copyRow 2 none) B.pre)
  have hown : s.vm.findClass RX10 = some m.cls := findClass_of_methodNamed B.named
  have hlocks := B.notSynchronized
  subst hsz
  have hD := hD0.self (sz := s.heap.size)
  generalize hAe : va_A ([(rf_RW ct 0 p1 240 b), (rf_RW ct 0 p2 240 gd)] ++ ws) s.heap.size = A at hD hX ⊢
  have hA : ∀ q : Nat, s.heap.size ≤ q → A q := fun q h => by rw [← hAe]; exact Or.inr h
  have hS : va_S A s.heap s.heap [] := va_S.rf
  have hl := lv_entry ([.ref p1, .ref p2]) (n := 2) (Nat.le_of_ble_eq_true rfl)
  rw [lg_entry_eq]
  generalize (lg_sl ([.ref p1, .ref p2]) ++ List.replicate (2 - (lg_sl ([.ref p1, .ref p2])).length) Slot.unset).toArray = ls at hl ⊢
  have hl : lv_has ls 2 [(0, .ref p1), (1, .ref p2)] := hl
  refine lv_aload_n hx hb dX10_copyRow_0 rfl (lv_at hl 0 rfl) ?_
  refine lv_iconst (v := 0) hx hb dX10_copyRow_1 (by decide) ?_
  refine lv_aload_n hx hb dX10_copyRow_2 rfl (lv_at hl 1 rfl) ?_
  refine lv_iconst (v := 0) hx hb dX10_copyRow_3 (by decide) ?_
  refine lv_aload_n hx hb dX10_copyRow_4 rfl (lv_at hl 0 rfl) ?_
  refine va_alen hx hb hK hP 0 0 rfl rfl (v := 240) (show Int32.ofNat 240 = (240 : Int32) from by decide) dX10_copyRow_5 ?_
  refine lv_aload_n hx hb dX10_copyRow_6 rfl (lv_at hl 1 rfl) ?_
  refine va_alen hx hb hK hP 1 0 rfl rfl (v := 240) (show Int32.ofNat 240 = (240 : Int32) from by decide) dX10_copyRow_7 ?_
  refine va_mmin hx hb (hml.trans hl.1.symm) hown (hts _ kl_RX10_368) (hts _ jm_min_s) (hts _ ki_RJ9) (hts _ jm_min_c) (Nat.le_of_ble_eq_true rfl) (Nat.le_of_ble_eq_true rfl) (Nat.le_of_ble_eq_true rfl) (Nat.le_of_ble_eq_true rfl) dX10_copyRow_8 ?_
  refine cm_cst (y := 240) (by decide) ?_
  refine va_copyi hx hb (hml.trans hl.1.symm) hown (hts _ kl_RX10_371) (hts _ kna_java_lang_System_arraycopy) (hts _ ks_java_lang_System_arraycopy) (hts _ ki_RJ10) hK hP hD hS 0 1 0 0 rfl rfl rfl rfl rfl (by decide) (by decide) (by decide) (by decide) (by decide) (fun _ _ => rfl) (Nat.le_of_ble_eq_true rfl) (Nat.le_of_ble_eq_true rfl) dX10_copyRow_11 (fun H locs hP hD hS => ?_)
  have hP : va_P D vwCl ([(rf_RW ct 0 p1 240 b), (rf_RW ct 0 p2 240 (va_cpy b gd (0 : Int32).toNatClampNeg (0 : Int32).toNatClampNeg (240 : Int32).toNatClampNeg))] ++ ws) H := hP
  have hD : va_D A ([(rf_RW ct 0 p1 240 b), (rf_RW ct 0 p2 240 (va_cpy b gd (0 : Int32).toNatClampNeg (0 : Int32).toNatClampNeg (240 : Int32).toNatClampNeg))] ++ ws) := hD
  have ec_1 : ((cm_cpy 240 b gd) : Nat → Int32) = (va_cpy b gd (0 : Int32).toNatClampNeg (0 : Int32).toNatClampNeg (240 : Int32).toNatClampNeg) := (cm_cpy_eq (by decide)).symm
  obtain ⟨hP, hD⟩ := ty_shPD (w2 := ([(rf_RW ct 0 p1 240 b), (rf_RW ct 0 p2 240 (cm_cpy 240 b gd))] ++ ws)) hP hD (by rw [ec_1] <;> rfl)
  exact W.vret hx hb hr (fun t ht hW => ⟨⟨ws, rfl, hT, by rw [ht]; exact hP, by rw [hAe]; exact hD⟩, hS.F ht⟩) hS.2.2 dX10_copyRow_14
set_option maxRecDepth 100000 in
set_option maxHeartbeats 4000000 in
theorem r_X7_copyFrom (l : Launch) (D : va_G) (ct : Nat → ClassId) (S : ty_S) (ws : va_W) (ph : va_W → Prop) (xx : Nat → Nat → Nat → Prop) (se : Nat) (efc : Int32) (fad : Int32) (hea : Int32) (coo : Int32) (low : Int32) (hig : Int32) (hot : Int32) (amb : Int32) (wlo : Int32) (whi : Int32) (who : Int32) (spa : Int32) (ose : Nat) (oefc : Int32) (ofad : Int32) (ohea : Int32) (ocoo : Int32) (olow : Int32) (ohig : Int32) (ohot : Int32) (oamb : Int32) (owlo : Int32) (owhi : Int32) (owho : Int32) (ospa : Int32) (sz : Nat) (hT : ty_V ct S ph ws) (hph : ty_C ph xx) (hy1 : ty_y1 xx) : Met l yX7_copyFrom (ws_ yX7_copyFrom cX7_copyFrom 2 none) ({ frames := 0, cells := 0, slots := 0, locals := 0 } : Room) (va_Pc [.ref se, .ref ose] (cmP D ct sz ([(fn_7 se efc fad hea coo low hig hot amb wlo whi who spa), (fn_7 ose oefc ofad ohea ocoo olow ohig ohot oamb owlo owhi owho ospa)] ++ ws))) (va_Qv (fun (u9 : va_W) => ty_V ct S ph u9) (cmB D ([(fn_7 se efc fad hea coo low hig hot amb wlo whi who spa), (fn_7 ose oefc ofad ohea ocoo olow ohig ohot oamb owlo owhi owho ospa)] ++ ws) sz (fun (u9 : va_W) => ([(fn_7 se oefc ofad ohea ocoo olow ohig ohot oamb owlo owhi owho ospa), (fn_7 ose oefc ofad ohea ocoo olow ohig ohot oamb owlo owhi owho ospa)] ++ u9))) (va_A ([(fn_7 se efc fad hea coo low hig hot amb wlo whi who spa), (fn_7 ose oefc ofad ohea ocoo olow ohig ohot oamb owlo owhi owho ospa)] ++ ws) sz)) 0 0 (va_A ([(fn_7 se efc fad hea coo low hig hot amb wlo whi who spa), (fn_7 ose oefc ofad ohea ocoo olow ohig ohot oamb owlo owhi owho ospa)] ++ ws) sz) := by
  refine Met.ofW (cc := cX7_copyFrom) (maxL := 2) (ret := none) (by decide) rfl ?_
  intro p e s m args below meth c s₁ B hml hv
  obtain ⟨rfl, hsz, hP, hK, hD0, hX⟩ := hv
  have hx := B.exec
  have hb := B.bytes
  have hr := B.returns
  have hts := ws_all (atoms_spec (ws := ws_ yX7_copyFrom cX7_copyFrom 2 none) B.pre)
  have hown : s.vm.findClass RX7 = some m.cls := findClass_of_methodNamed B.named
  have hlocks := B.notSynchronized
  subst hsz
  have hD := hD0.self (sz := s.heap.size)
  generalize hAe : va_A ([(fn_7 se efc fad hea coo low hig hot amb wlo whi who spa), (fn_7 ose oefc ofad ohea ocoo olow ohig ohot oamb owlo owhi owho ospa)] ++ ws) s.heap.size = A at hD hX ⊢
  have hA : ∀ q : Nat, s.heap.size ≤ q → A q := fun q h => by rw [← hAe]; exact Or.inr h
  have hS : va_S A s.heap s.heap [] := va_S.rf
  have hl := lv_entry ([.ref se, .ref ose]) (n := 2) (Nat.le_of_ble_eq_true rfl)
  rw [lg_entry_eq]
  generalize (lg_sl ([.ref se, .ref ose]) ++ List.replicate (2 - (lg_sl ([.ref se, .ref ose])).length) Slot.unset).toArray = ls at hl ⊢
  have hl : lv_has ls 2 [(0, .ref se), (1, .ref ose)] := hl
  refine lv_aload_n hx hb dX7_copyFrom_0 rfl (lv_at hl 0 rfl) ?_
  refine lv_aload_n hx hb dX7_copyFrom_1 rfl (lv_at hl 1 rfl) ?_
  refine va_get (v := .int oefc) (D := D) (ci := 7) (C := RX7) (T := TX7) (N := 12) hx hb hts in_X7 hown hK hP 1 rfl rfl 0 (by decide) (hts _ kl_RX7_12) (fun _ h9 => h9) rfl dX7_copyFrom_2 ?_
  refine va_put (v := .int oefc) (ty := .int) (D := D) (ci := 7) (C := RX7) (T := TX7) (N := 12) hx hb hts in_X7 tyX7 tyX7_ok nmX7 hown hK hP hD hS 0 rfl rfl 0 (by decide) (hts _ kl_RX7_12) (fun _ h9 => h9) rfl (by decide +kernel) rfl rfl (Nat.le_of_ble_eq_true rfl) dX7_copyFrom_5 (fun H locs hP hD hS => ?_)
  have hP : va_P D vwCl ([(fn_7 se oefc fad hea coo low hig hot amb wlo whi who spa), (fn_7 ose oefc ofad ohea ocoo olow ohig ohot oamb owlo owhi owho ospa)] ++ ws) H := hP
  have hD : va_D A ([(fn_7 se oefc fad hea coo low hig hot amb wlo whi who spa), (fn_7 ose oefc ofad ohea ocoo olow ohig ohot oamb owlo owhi owho ospa)] ++ ws) := hD
  refine lv_aload_n hx hb dX7_copyFrom_8 rfl (lv_at hl 0 rfl) ?_
  refine lv_aload_n hx hb dX7_copyFrom_9 rfl (lv_at hl 1 rfl) ?_
  refine va_get (v := .int ofad) (D := D) (ci := 7) (C := RX7) (T := TX7) (N := 12) hx hb hts in_X7 hown hK hP 1 rfl rfl 1 (by decide) (hts _ kl_RX7_17) (fun _ h9 => h9) rfl dX7_copyFrom_10 ?_
  refine va_put (v := .int ofad) (ty := .int) (D := D) (ci := 7) (C := RX7) (T := TX7) (N := 12) hx hb hts in_X7 tyX7 tyX7_ok nmX7 hown hK hP hD hS 0 rfl rfl 1 (by decide) (hts _ kl_RX7_17) (fun _ h9 => h9) rfl (by decide +kernel) rfl rfl (Nat.le_of_ble_eq_true rfl) dX7_copyFrom_13 (fun H locs hP hD hS => ?_)
  have hP : va_P D vwCl ([(fn_7 se oefc ofad hea coo low hig hot amb wlo whi who spa), (fn_7 ose oefc ofad ohea ocoo olow ohig ohot oamb owlo owhi owho ospa)] ++ ws) H := hP
  have hD : va_D A ([(fn_7 se oefc ofad hea coo low hig hot amb wlo whi who spa), (fn_7 ose oefc ofad ohea ocoo olow ohig ohot oamb owlo owhi owho ospa)] ++ ws) := hD
  refine lv_aload_n hx hb dX7_copyFrom_16 rfl (lv_at hl 0 rfl) ?_
  refine lv_aload_n hx hb dX7_copyFrom_17 rfl (lv_at hl 1 rfl) ?_
  refine va_get (v := .int ohea) (D := D) (ci := 7) (C := RX7) (T := TX7) (N := 12) hx hb hts in_X7 hown hK hP 1 rfl rfl 2 (by decide) (hts _ kl_RX7_20) (fun _ h9 => h9) rfl dX7_copyFrom_18 ?_
  refine va_put (v := .int ohea) (ty := .int) (D := D) (ci := 7) (C := RX7) (T := TX7) (N := 12) hx hb hts in_X7 tyX7 tyX7_ok nmX7 hown hK hP hD hS 0 rfl rfl 2 (by decide) (hts _ kl_RX7_20) (fun _ h9 => h9) rfl (by decide +kernel) rfl rfl (Nat.le_of_ble_eq_true rfl) dX7_copyFrom_21 (fun H locs hP hD hS => ?_)
  have hP : va_P D vwCl ([(fn_7 se oefc ofad ohea coo low hig hot amb wlo whi who spa), (fn_7 ose oefc ofad ohea ocoo olow ohig ohot oamb owlo owhi owho ospa)] ++ ws) H := hP
  have hD : va_D A ([(fn_7 se oefc ofad ohea coo low hig hot amb wlo whi who spa), (fn_7 ose oefc ofad ohea ocoo olow ohig ohot oamb owlo owhi owho ospa)] ++ ws) := hD
  refine lv_aload_n hx hb dX7_copyFrom_24 rfl (lv_at hl 0 rfl) ?_
  refine lv_aload_n hx hb dX7_copyFrom_25 rfl (lv_at hl 1 rfl) ?_
  refine va_get (v := .int ocoo) (D := D) (ci := 7) (C := RX7) (T := TX7) (N := 12) hx hb hts in_X7 hown hK hP 1 rfl rfl 3 (by decide) (hts _ kl_RX7_23) (fun _ h9 => h9) rfl dX7_copyFrom_26 ?_
  refine va_put (v := .int ocoo) (ty := .int) (D := D) (ci := 7) (C := RX7) (T := TX7) (N := 12) hx hb hts in_X7 tyX7 tyX7_ok nmX7 hown hK hP hD hS 0 rfl rfl 3 (by decide) (hts _ kl_RX7_23) (fun _ h9 => h9) rfl (by decide +kernel) rfl rfl (Nat.le_of_ble_eq_true rfl) dX7_copyFrom_29 (fun H locs hP hD hS => ?_)
  have hP : va_P D vwCl ([(fn_7 se oefc ofad ohea ocoo low hig hot amb wlo whi who spa), (fn_7 ose oefc ofad ohea ocoo olow ohig ohot oamb owlo owhi owho ospa)] ++ ws) H := hP
  have hD : va_D A ([(fn_7 se oefc ofad ohea ocoo low hig hot amb wlo whi who spa), (fn_7 ose oefc ofad ohea ocoo olow ohig ohot oamb owlo owhi owho ospa)] ++ ws) := hD
  refine lv_aload_n hx hb dX7_copyFrom_32 rfl (lv_at hl 0 rfl) ?_
  refine lv_aload_n hx hb dX7_copyFrom_33 rfl (lv_at hl 1 rfl) ?_
  refine va_get (v := .int olow) (D := D) (ci := 7) (C := RX7) (T := TX7) (N := 12) hx hb hts in_X7 hown hK hP 1 rfl rfl 4 (by decide) (hts _ kl_RX7_26) (fun _ h9 => h9) rfl dX7_copyFrom_34 ?_
  refine va_put (v := .int olow) (ty := .int) (D := D) (ci := 7) (C := RX7) (T := TX7) (N := 12) hx hb hts in_X7 tyX7 tyX7_ok nmX7 hown hK hP hD hS 0 rfl rfl 4 (by decide) (hts _ kl_RX7_26) (fun _ h9 => h9) rfl (by decide +kernel) rfl rfl (Nat.le_of_ble_eq_true rfl) dX7_copyFrom_37 (fun H locs hP hD hS => ?_)
  have hP : va_P D vwCl ([(fn_7 se oefc ofad ohea ocoo olow hig hot amb wlo whi who spa), (fn_7 ose oefc ofad ohea ocoo olow ohig ohot oamb owlo owhi owho ospa)] ++ ws) H := hP
  have hD : va_D A ([(fn_7 se oefc ofad ohea ocoo olow hig hot amb wlo whi who spa), (fn_7 ose oefc ofad ohea ocoo olow ohig ohot oamb owlo owhi owho ospa)] ++ ws) := hD
  refine lv_aload_n hx hb dX7_copyFrom_40 rfl (lv_at hl 0 rfl) ?_
  refine lv_aload_n hx hb dX7_copyFrom_41 rfl (lv_at hl 1 rfl) ?_
  refine va_get (v := .int ohig) (D := D) (ci := 7) (C := RX7) (T := TX7) (N := 12) hx hb hts in_X7 hown hK hP 1 rfl rfl 5 (by decide) (hts _ kl_RX7_29) (fun _ h9 => h9) rfl dX7_copyFrom_42 ?_
  refine va_put (v := .int ohig) (ty := .int) (D := D) (ci := 7) (C := RX7) (T := TX7) (N := 12) hx hb hts in_X7 tyX7 tyX7_ok nmX7 hown hK hP hD hS 0 rfl rfl 5 (by decide) (hts _ kl_RX7_29) (fun _ h9 => h9) rfl (by decide +kernel) rfl rfl (Nat.le_of_ble_eq_true rfl) dX7_copyFrom_45 (fun H locs hP hD hS => ?_)
  have hP : va_P D vwCl ([(fn_7 se oefc ofad ohea ocoo olow ohig hot amb wlo whi who spa), (fn_7 ose oefc ofad ohea ocoo olow ohig ohot oamb owlo owhi owho ospa)] ++ ws) H := hP
  have hD : va_D A ([(fn_7 se oefc ofad ohea ocoo olow ohig hot amb wlo whi who spa), (fn_7 ose oefc ofad ohea ocoo olow ohig ohot oamb owlo owhi owho ospa)] ++ ws) := hD
  refine lv_aload_n hx hb dX7_copyFrom_48 rfl (lv_at hl 0 rfl) ?_
  refine lv_aload_n hx hb dX7_copyFrom_49 rfl (lv_at hl 1 rfl) ?_
  refine va_get (v := .int ohot) (D := D) (ci := 7) (C := RX7) (T := TX7) (N := 12) hx hb hts in_X7 hown hK hP 1 rfl rfl 6 (by decide) (hts _ kl_RX7_32) (fun _ h9 => h9) rfl dX7_copyFrom_50 ?_
  refine va_put (v := .int ohot) (ty := .int) (D := D) (ci := 7) (C := RX7) (T := TX7) (N := 12) hx hb hts in_X7 tyX7 tyX7_ok nmX7 hown hK hP hD hS 0 rfl rfl 6 (by decide) (hts _ kl_RX7_32) (fun _ h9 => h9) rfl (by decide +kernel) rfl rfl (Nat.le_of_ble_eq_true rfl) dX7_copyFrom_53 (fun H locs hP hD hS => ?_)
  have hP : va_P D vwCl ([(fn_7 se oefc ofad ohea ocoo olow ohig ohot amb wlo whi who spa), (fn_7 ose oefc ofad ohea ocoo olow ohig ohot oamb owlo owhi owho ospa)] ++ ws) H := hP
  have hD : va_D A ([(fn_7 se oefc ofad ohea ocoo olow ohig ohot amb wlo whi who spa), (fn_7 ose oefc ofad ohea ocoo olow ohig ohot oamb owlo owhi owho ospa)] ++ ws) := hD
  refine lv_aload_n hx hb dX7_copyFrom_56 rfl (lv_at hl 0 rfl) ?_
  refine lv_aload_n hx hb dX7_copyFrom_57 rfl (lv_at hl 1 rfl) ?_
  refine va_get (v := .int oamb) (D := D) (ci := 7) (C := RX7) (T := TX7) (N := 12) hx hb hts in_X7 hown hK hP 1 rfl rfl 7 (by decide) (hts _ kl_RX7_35) (fun _ h9 => h9) rfl dX7_copyFrom_58 ?_
  refine va_put (v := .int oamb) (ty := .int) (D := D) (ci := 7) (C := RX7) (T := TX7) (N := 12) hx hb hts in_X7 tyX7 tyX7_ok nmX7 hown hK hP hD hS 0 rfl rfl 7 (by decide) (hts _ kl_RX7_35) (fun _ h9 => h9) rfl (by decide +kernel) rfl rfl (Nat.le_of_ble_eq_true rfl) dX7_copyFrom_61 (fun H locs hP hD hS => ?_)
  have hP : va_P D vwCl ([(fn_7 se oefc ofad ohea ocoo olow ohig ohot oamb wlo whi who spa), (fn_7 ose oefc ofad ohea ocoo olow ohig ohot oamb owlo owhi owho ospa)] ++ ws) H := hP
  have hD : va_D A ([(fn_7 se oefc ofad ohea ocoo olow ohig ohot oamb wlo whi who spa), (fn_7 ose oefc ofad ohea ocoo olow ohig ohot oamb owlo owhi owho ospa)] ++ ws) := hD
  refine lv_aload_n hx hb dX7_copyFrom_64 rfl (lv_at hl 0 rfl) ?_
  refine lv_aload_n hx hb dX7_copyFrom_65 rfl (lv_at hl 1 rfl) ?_
  refine va_get (v := .int owlo) (D := D) (ci := 7) (C := RX7) (T := TX7) (N := 12) hx hb hts in_X7 hown hK hP 1 rfl rfl 8 (by decide) (hts _ kl_RX7_38) (fun _ h9 => h9) rfl dX7_copyFrom_66 ?_
  refine va_put (v := .int owlo) (ty := .int) (D := D) (ci := 7) (C := RX7) (T := TX7) (N := 12) hx hb hts in_X7 tyX7 tyX7_ok nmX7 hown hK hP hD hS 0 rfl rfl 8 (by decide) (hts _ kl_RX7_38) (fun _ h9 => h9) rfl (by decide +kernel) rfl rfl (Nat.le_of_ble_eq_true rfl) dX7_copyFrom_69 (fun H locs hP hD hS => ?_)
  have hP : va_P D vwCl ([(fn_7 se oefc ofad ohea ocoo olow ohig ohot oamb owlo whi who spa), (fn_7 ose oefc ofad ohea ocoo olow ohig ohot oamb owlo owhi owho ospa)] ++ ws) H := hP
  have hD : va_D A ([(fn_7 se oefc ofad ohea ocoo olow ohig ohot oamb owlo whi who spa), (fn_7 ose oefc ofad ohea ocoo olow ohig ohot oamb owlo owhi owho ospa)] ++ ws) := hD
  refine lv_aload_n hx hb dX7_copyFrom_72 rfl (lv_at hl 0 rfl) ?_
  refine lv_aload_n hx hb dX7_copyFrom_73 rfl (lv_at hl 1 rfl) ?_
  refine va_get (v := .int owhi) (D := D) (ci := 7) (C := RX7) (T := TX7) (N := 12) hx hb hts in_X7 hown hK hP 1 rfl rfl 9 (by decide) (hts _ kl_RX7_41) (fun _ h9 => h9) rfl dX7_copyFrom_74 ?_
  refine va_put (v := .int owhi) (ty := .int) (D := D) (ci := 7) (C := RX7) (T := TX7) (N := 12) hx hb hts in_X7 tyX7 tyX7_ok nmX7 hown hK hP hD hS 0 rfl rfl 9 (by decide) (hts _ kl_RX7_41) (fun _ h9 => h9) rfl (by decide +kernel) rfl rfl (Nat.le_of_ble_eq_true rfl) dX7_copyFrom_77 (fun H locs hP hD hS => ?_)
  have hP : va_P D vwCl ([(fn_7 se oefc ofad ohea ocoo olow ohig ohot oamb owlo owhi who spa), (fn_7 ose oefc ofad ohea ocoo olow ohig ohot oamb owlo owhi owho ospa)] ++ ws) H := hP
  have hD : va_D A ([(fn_7 se oefc ofad ohea ocoo olow ohig ohot oamb owlo owhi who spa), (fn_7 ose oefc ofad ohea ocoo olow ohig ohot oamb owlo owhi owho ospa)] ++ ws) := hD
  refine lv_aload_n hx hb dX7_copyFrom_80 rfl (lv_at hl 0 rfl) ?_
  refine lv_aload_n hx hb dX7_copyFrom_81 rfl (lv_at hl 1 rfl) ?_
  refine va_get (v := .int owho) (D := D) (ci := 7) (C := RX7) (T := TX7) (N := 12) hx hb hts in_X7 hown hK hP 1 rfl rfl 10 (by decide) (hts _ kl_RX7_44) (fun _ h9 => h9) rfl dX7_copyFrom_82 ?_
  refine va_put (v := .int owho) (ty := .int) (D := D) (ci := 7) (C := RX7) (T := TX7) (N := 12) hx hb hts in_X7 tyX7 tyX7_ok nmX7 hown hK hP hD hS 0 rfl rfl 10 (by decide) (hts _ kl_RX7_44) (fun _ h9 => h9) rfl (by decide +kernel) rfl rfl (Nat.le_of_ble_eq_true rfl) dX7_copyFrom_85 (fun H locs hP hD hS => ?_)
  have hP : va_P D vwCl ([(fn_7 se oefc ofad ohea ocoo olow ohig ohot oamb owlo owhi owho spa), (fn_7 ose oefc ofad ohea ocoo olow ohig ohot oamb owlo owhi owho ospa)] ++ ws) H := hP
  have hD : va_D A ([(fn_7 se oefc ofad ohea ocoo olow ohig ohot oamb owlo owhi owho spa), (fn_7 ose oefc ofad ohea ocoo olow ohig ohot oamb owlo owhi owho ospa)] ++ ws) := hD
  refine lv_aload_n hx hb dX7_copyFrom_88 rfl (lv_at hl 0 rfl) ?_
  refine lv_aload_n hx hb dX7_copyFrom_89 rfl (lv_at hl 1 rfl) ?_
  refine va_get (v := .int ospa) (D := D) (ci := 7) (C := RX7) (T := TX7) (N := 12) hx hb hts in_X7 hown hK hP 1 rfl rfl 11 (by decide) (hts _ kl_RX7_47) (fun _ h9 => h9) rfl dX7_copyFrom_90 ?_
  refine va_put (v := .int ospa) (ty := .int) (D := D) (ci := 7) (C := RX7) (T := TX7) (N := 12) hx hb hts in_X7 tyX7 tyX7_ok nmX7 hown hK hP hD hS 0 rfl rfl 11 (by decide) (hts _ kl_RX7_47) (fun _ h9 => h9) rfl (by decide +kernel) rfl rfl (Nat.le_of_ble_eq_true rfl) dX7_copyFrom_93 (fun H locs hP hD hS => ?_)
  have hP : va_P D vwCl ([(fn_7 se oefc ofad ohea ocoo olow ohig ohot oamb owlo owhi owho ospa), (fn_7 ose oefc ofad ohea ocoo olow ohig ohot oamb owlo owhi owho ospa)] ++ ws) H := hP
  have hD : va_D A ([(fn_7 se oefc ofad ohea ocoo olow ohig ohot oamb owlo owhi owho ospa), (fn_7 ose oefc ofad ohea ocoo olow ohig ohot oamb owlo owhi owho ospa)] ++ ws) := hD
  exact W.vret hx hb hr (fun t ht hW => ⟨⟨ws, rfl, hT, by rw [ht]; exact hP, by rw [hAe]; exact hD⟩, hS.F ht⟩) hS.2.2 dX7_copyFrom_96
set_option maxRecDepth 100000 in
set_option maxHeartbeats 4000000 in
theorem r_X2_copyFrom (l : Launch) (D : va_G) (ct : Nat → ClassId) (S : ty_S) (ws : va_W) (ph : va_W → Prop) (xx : Nat → Nat → Nat → Prop) (cu : Nat) (ccn : Int32) (nms : Nat) (pnt : Nat) (vts : Nat) (fnm : Nat → Int64) (fpn : Nat → Int32) (fvt : Nat → Int32) (ocu : Nat) (occn : Int32) (onms : Nat) (opnt : Nat) (ovts : Nat) (ofnm : Nat → Int64) (ofpn : Nat → Int32) (ofvt : Nat → Int32) (sz : Nat) (hT : ty_V ct S ph ws) (hph : ty_C ph xx) (hy1 : ty_y1 xx) : Met l yX2_copyFrom (ws_ yX2_copyFrom cX2_copyFrom 2 none) ({ frames := 2, cells := 0, slots := 0, locals := 101 } : Room) (va_Pc [.ref cu, .ref ocu] (cmP D ct sz ([(fn_2 cu ccn nms pnt vts), (nms, .inl (ct 1, 4, .inr (.inl fnm))), (rf_RW ct 0 pnt 4 fpn), (rf_RW ct 0 vts 44 fvt), (fn_2 ocu occn onms opnt ovts), (onms, .inl (ct 1, 4, .inr (.inl ofnm))), (rf_RW ct 0 opnt 4 ofpn), (rf_RW ct 0 ovts 44 ofvt)] ++ ws))) (va_Qv (fun (u9 : va_W) => ty_V ct S ph u9) (cmB D ([(fn_2 cu ccn nms pnt vts), (nms, .inl (ct 1, 4, .inr (.inl fnm))), (rf_RW ct 0 pnt 4 fpn), (rf_RW ct 0 vts 44 fvt), (fn_2 ocu occn onms opnt ovts), (onms, .inl (ct 1, 4, .inr (.inl ofnm))), (rf_RW ct 0 opnt 4 ofpn), (rf_RW ct 0 ovts 44 ofvt)] ++ ws) sz (fun (u9 : va_W) => ([(fn_2 cu occn nms pnt vts), (nms, .inl (ct 1, 4, .inr (.inl (cm_cpy 4 ofnm fnm)))), (rf_RW ct 0 pnt 4 (cm_cpy 4 ofpn fpn)), (rf_RW ct 0 vts 44 (cm_cpy 44 ofvt fvt)), (fn_2 ocu occn onms opnt ovts), (onms, .inl (ct 1, 4, .inr (.inl ofnm))), (rf_RW ct 0 opnt 4 ofpn), (rf_RW ct 0 ovts 44 ofvt)] ++ u9))) (va_A ([(fn_2 cu ccn nms pnt vts), (nms, .inl (ct 1, 4, .inr (.inl fnm))), (rf_RW ct 0 pnt 4 fpn), (rf_RW ct 0 vts 44 fvt), (fn_2 ocu occn onms opnt ovts), (onms, .inl (ct 1, 4, .inr (.inl ofnm))), (rf_RW ct 0 opnt 4 ofpn), (rf_RW ct 0 ovts 44 ofvt)] ++ ws) sz)) 0 0 (va_A ([(fn_2 cu ccn nms pnt vts), (nms, .inl (ct 1, 4, .inr (.inl fnm))), (rf_RW ct 0 pnt 4 fpn), (rf_RW ct 0 vts 44 fvt), (fn_2 ocu occn onms opnt ovts), (onms, .inl (ct 1, 4, .inr (.inl ofnm))), (rf_RW ct 0 opnt 4 ofpn), (rf_RW ct 0 ovts 44 ofvt)] ++ ws) sz) := by
  refine Met.ofW (cc := cX2_copyFrom) (maxL := 2) (ret := none) (by decide) rfl ?_
  intro p e s m args below meth c s₁ B hml hv
  obtain ⟨rfl, hsz, hP, hK, hD0, hX⟩ := hv
  have hx := B.exec
  have hb := B.bytes
  have hr := B.returns
  have hts := ws_all (atoms_spec (ws := ws_ yX2_copyFrom cX2_copyFrom 2 none) B.pre)
  have hown : s.vm.findClass RX2 = some m.cls := findClass_of_methodNamed B.named
  have hlocks := B.notSynchronized
  subst hsz
  have hD := hD0.self (sz := s.heap.size)
  generalize hAe : va_A ([(fn_2 cu ccn nms pnt vts), (nms, .inl (ct 1, 4, .inr (.inl fnm))), (rf_RW ct 0 pnt 4 fpn), (rf_RW ct 0 vts 44 fvt), (fn_2 ocu occn onms opnt ovts), (onms, .inl (ct 1, 4, .inr (.inl ofnm))), (rf_RW ct 0 opnt 4 ofpn), (rf_RW ct 0 ovts 44 ofvt)] ++ ws) s.heap.size = A at hD hX ⊢
  have hA : ∀ q : Nat, s.heap.size ≤ q → A q := fun q h => by rw [← hAe]; exact Or.inr h
  have hS : va_S A s.heap s.heap [] := va_S.rf
  have hl := lv_entry ([.ref cu, .ref ocu]) (n := 2) (Nat.le_of_ble_eq_true rfl)
  rw [lg_entry_eq]
  generalize (lg_sl ([.ref cu, .ref ocu]) ++ List.replicate (2 - (lg_sl ([.ref cu, .ref ocu])).length) Slot.unset).toArray = ls at hl ⊢
  have hl : lv_has ls 2 [(0, .ref cu), (1, .ref ocu)] := hl
  refine lv_aload_n hx hb dX2_copyFrom_0 rfl (lv_at hl 0 rfl) ?_
  refine lv_aload_n hx hb dX2_copyFrom_1 rfl (lv_at hl 1 rfl) ?_
  refine va_get (v := .int occn) (D := D) (ci := 2) (C := RX2) (T := TX2) (N := 4) hx hb hts in_X2 hown hK hP 4 rfl rfl 0 (by decide) (hts _ kl_RX2_22) (fun _ h9 => h9) rfl dX2_copyFrom_2 ?_
  refine va_put (v := .int occn) (ty := .int) (D := D) (ci := 2) (C := RX2) (T := TX2) (N := 4) hx hb hts in_X2 tyX2 tyX2_ok nmX2 hown hK hP hD hS 0 rfl rfl 0 (by decide) (hts _ kl_RX2_22) (fun _ h9 => h9) rfl (by decide +kernel) rfl rfl (Nat.le_of_ble_eq_true rfl) dX2_copyFrom_5 (fun H locs hP hD hS => ?_)
  have hP : va_P D vwCl ([(fn_2 cu occn nms pnt vts), (nms, .inl (ct 1, 4, .inr (.inl fnm))), (rf_RW ct 0 pnt 4 fpn), (rf_RW ct 0 vts 44 fvt), (fn_2 ocu occn onms opnt ovts), (onms, .inl (ct 1, 4, .inr (.inl ofnm))), (rf_RW ct 0 opnt 4 ofpn), (rf_RW ct 0 ovts 44 ofvt)] ++ ws) H := hP
  have hD : va_D A ([(fn_2 cu occn nms pnt vts), (nms, .inl (ct 1, 4, .inr (.inl fnm))), (rf_RW ct 0 pnt 4 fpn), (rf_RW ct 0 vts 44 fvt), (fn_2 ocu occn onms opnt ovts), (onms, .inl (ct 1, 4, .inr (.inl ofnm))), (rf_RW ct 0 opnt 4 ofpn), (rf_RW ct 0 ovts 44 ofvt)] ++ ws) := hD
  refine lv_aload_n hx hb dX2_copyFrom_8 rfl (lv_at hl 1 rfl) ?_
  refine va_get (v := .ref onms) (D := D) (ci := 2) (C := RX2) (T := TX2) (N := 4) hx hb hts in_X2 hown hK hP 4 rfl rfl 1 (by decide) (hts _ kl_RX2_9) (fun _ h9 => h9) rfl dX2_copyFrom_9 ?_
  refine lv_iconst (v := 0) hx hb dX2_copyFrom_12 (by decide) ?_
  refine lv_aload_n hx hb dX2_copyFrom_13 rfl (lv_at hl 0 rfl) ?_
  refine va_get (v := .ref nms) (D := D) (ci := 2) (C := RX2) (T := TX2) (N := 4) hx hb hts in_X2 hown hK hP 0 rfl rfl 1 (by decide) (hts _ kl_RX2_9) (fun _ h9 => h9) rfl dX2_copyFrom_14 ?_
  refine lv_iconst (v := 0) hx hb dX2_copyFrom_17 (by decide) ?_
  refine lv_aload_n hx hb dX2_copyFrom_18 rfl (lv_at hl 1 rfl) ?_
  refine va_get (v := .ref onms) (D := D) (ci := 2) (C := RX2) (T := TX2) (N := 4) hx hb hts in_X2 hown hK hP 4 rfl rfl 1 (by decide) (hts _ kl_RX2_9) (fun _ h9 => h9) rfl dX2_copyFrom_19 ?_
  refine va_alen hx hb hK hP 5 1 rfl rfl (v := 4) (show Int32.ofNat 4 = (4 : Int32) from by decide) dX2_copyFrom_22 ?_
  refine lv_aload_n hx hb dX2_copyFrom_23 rfl (lv_at hl 0 rfl) ?_
  refine va_get (v := .ref nms) (D := D) (ci := 2) (C := RX2) (T := TX2) (N := 4) hx hb hts in_X2 hown hK hP 0 rfl rfl 1 (by decide) (hts _ kl_RX2_9) (fun _ h9 => h9) rfl dX2_copyFrom_24 ?_
  refine va_alen hx hb hK hP 1 1 rfl rfl (v := 4) (show Int32.ofNat 4 = (4 : Int32) from by decide) dX2_copyFrom_27 ?_
  refine va_mmin hx hb (hml.trans hl.1.symm) hown (hts _ kl_RX2_34) (hts _ jm_min_s) (hts _ ki_RJ9) (hts _ jm_min_c) (Nat.le_of_ble_eq_true rfl) (Nat.le_of_ble_eq_true rfl) (Nat.le_of_ble_eq_true rfl) (Nat.le_of_ble_eq_true rfl) dX2_copyFrom_28 ?_
  refine cm_cst (y := 4) (by decide) ?_
  refine va_copyl hx hb (hml.trans hl.1.symm) hown (hts _ kl_RX2_40) (hts _ kna_java_lang_System_arraycopy) (hts _ ks_java_lang_System_arraycopy) (hts _ ki_RJ10) hK hP hD hS 5 1 1 1 rfl rfl rfl rfl rfl (by decide) (by decide) (by decide) (by decide) (by decide) (fun _ _ => rfl) (Nat.le_of_ble_eq_true rfl) (Nat.le_of_ble_eq_true rfl) dX2_copyFrom_31 (fun H locs hP hD hS => ?_)
  have hP : va_P D vwCl ([(fn_2 cu occn nms pnt vts), (nms, .inl (ct 1, 4, .inr (.inl (va_cpy ofnm fnm (0 : Int32).toNatClampNeg (0 : Int32).toNatClampNeg (4 : Int32).toNatClampNeg)))), (rf_RW ct 0 pnt 4 fpn), (rf_RW ct 0 vts 44 fvt), (fn_2 ocu occn onms opnt ovts), (onms, .inl (ct 1, 4, .inr (.inl ofnm))), (rf_RW ct 0 opnt 4 ofpn), (rf_RW ct 0 ovts 44 ofvt)] ++ ws) H := hP
  have hD : va_D A ([(fn_2 cu occn nms pnt vts), (nms, .inl (ct 1, 4, .inr (.inl (va_cpy ofnm fnm (0 : Int32).toNatClampNeg (0 : Int32).toNatClampNeg (4 : Int32).toNatClampNeg)))), (rf_RW ct 0 pnt 4 fpn), (rf_RW ct 0 vts 44 fvt), (fn_2 ocu occn onms opnt ovts), (onms, .inl (ct 1, 4, .inr (.inl ofnm))), (rf_RW ct 0 opnt 4 ofpn), (rf_RW ct 0 ovts 44 ofvt)] ++ ws) := hD
  have ec_1 : ((cm_cpy 4 ofnm fnm) : Nat → Int64) = (va_cpy ofnm fnm (0 : Int32).toNatClampNeg (0 : Int32).toNatClampNeg (4 : Int32).toNatClampNeg) := (cm_cpy_eq (by decide)).symm
  obtain ⟨hP, hD⟩ := ty_shPD (w2 := ([(fn_2 cu occn nms pnt vts), (nms, .inl (ct 1, 4, .inr (.inl (cm_cpy 4 ofnm fnm)))), (rf_RW ct 0 pnt 4 fpn), (rf_RW ct 0 vts 44 fvt), (fn_2 ocu occn onms opnt ovts), (onms, .inl (ct 1, 4, .inr (.inl ofnm))), (rf_RW ct 0 opnt 4 ofpn), (rf_RW ct 0 ovts 44 ofvt)] ++ ws)) hP hD (by rw [ec_1] <;> rfl)
  refine lv_aload_n hx hb dX2_copyFrom_34 rfl (lv_at hl 1 rfl) ?_
  refine va_get (v := .ref opnt) (D := D) (ci := 2) (C := RX2) (T := TX2) (N := 4) hx hb hts in_X2 hown hK hP 4 rfl rfl 2 (by decide) (hts _ kl_RX2_15) (fun _ h9 => h9) rfl dX2_copyFrom_35 ?_
  refine lv_aload_n hx hb dX2_copyFrom_38 rfl (lv_at hl 0 rfl) ?_
  refine va_get (v := .ref pnt) (D := D) (ci := 2) (C := RX2) (T := TX2) (N := 4) hx hb hts in_X2 hown hK hP 0 rfl rfl 2 (by decide) (hts _ kl_RX2_15) (fun _ h9 => h9) rfl dX2_copyFrom_39 ?_
  obtain ⟨hP, hD⟩ := ty_opPD (E1 := [(fn_2 cu occn nms pnt vts), (nms, .inl (ct 1, 4, .inr (.inl (cm_cpy 4 ofnm fnm)))), (rf_RW ct 0 vts 44 fvt), (fn_2 ocu occn onms opnt ovts), (onms, .inl (ct 1, 4, .inr (.inl ofnm))), (rf_RW ct 0 ovts 44 ofvt)]) (E2 := [(rf_RW ct 0 opnt 4 ofpn), (rf_RW ct 0 pnt 4 fpn)]) (n := 8) [0, 1, 3, 4, 5, 7, 6, 2] hP hD rfl rfl (by decide +kernel) ty_mv2
  refine ty_Kv hP hD hS hA (va_runSN (As := [.ref opnt, .ref pnt]) (rest := []) ⟨hx, hb, hml, hown, hts⟩ (r_X10_copyRow_4 l D ct (fun _ => none) [] (fun _ => True) (fun _ _ _ => True) opnt ofpn pnt fpn _ ty_V0 ty_C0 ty_y10) (cm_SN 2 hts kc_X10_copyRow ki_RX10 kl_RX2_46 ks_X10_copyRow kd_X10_copyRow ⟨Nat.le_of_ble_eq_true rfl, Nat.le_of_ble_eq_true rfl⟩) (ty_preS hP hK hD hS hA hX) rfl rfl hl.1 rfl (lv_room (Nat.le_of_ble_eq_true rfl)) dX2_copyFrom_42 ⟨Nat.le_of_ble_eq_true rfl, Nat.le_of_ble_eq_true rfl⟩) (fun u H locs hw_3 hP hD hS => ?_)
  obtain ⟨ws_4, rfl⟩ : ∃ z, z = u := ⟨_, rfl⟩
  have hT9_5 := hw_3
  obtain ⟨hP, hD⟩ := ty_bkPD (E := [(fn_2 cu occn nms pnt vts), (nms, .inl (ct 1, 4, .inr (.inl (cm_cpy 4 ofnm fnm)))), (rf_RW ct 0 vts 44 fvt), (fn_2 ocu occn onms opnt ovts), (onms, .inl (ct 1, 4, .inr (.inl ofnm))), (rf_RW ct 0 ovts 44 ofvt), (rf_RW ct 0 opnt 4 ofpn), (rf_RW ct 0 pnt 4 (cm_cpy 4 ofpn fpn))]) hP hD rfl
  refine lv_aload_n hx hb dX2_copyFrom_45 rfl (lv_at hl 1 rfl) ?_
  refine va_get (v := .ref ovts) (D := D) (ci := 2) (C := RX2) (T := TX2) (N := 4) hx hb hts in_X2 hown hK hP 3 rfl rfl 3 (by decide) (hts _ kl_RX2_19) (fun _ h9 => h9) rfl dX2_copyFrom_46 ?_
  refine lv_aload_n hx hb dX2_copyFrom_49 rfl (lv_at hl 0 rfl) ?_
  refine va_get (v := .ref vts) (D := D) (ci := 2) (C := RX2) (T := TX2) (N := 4) hx hb hts in_X2 hown hK hP 0 rfl rfl 3 (by decide) (hts _ kl_RX2_19) (fun _ h9 => h9) rfl dX2_copyFrom_50 ?_
  obtain ⟨hP, hD⟩ := ty_opPD (E1 := [(fn_2 cu occn nms pnt vts), (nms, .inl (ct 1, 4, .inr (.inl (cm_cpy 4 ofnm fnm)))), (fn_2 ocu occn onms opnt ovts), (onms, .inl (ct 1, 4, .inr (.inl ofnm))), (rf_RW ct 0 opnt 4 ofpn), (rf_RW ct 0 pnt 4 (cm_cpy 4 ofpn fpn))]) (E2 := [(rf_RW ct 0 ovts 44 ofvt), (rf_RW ct 0 vts 44 fvt)]) (n := 8) [0, 1, 3, 4, 6, 7, 5, 2] hP hD rfl rfl (by decide +kernel) ty_mv2
  refine ty_Kv hP hD hS hA (va_runSN (As := [.ref ovts, .ref vts]) (rest := []) ⟨hx, hb, hml, hown, hts⟩ (r_X10_copyRow_44 l D ct (fun _ => none) [] (fun _ => True) (fun _ _ _ => True) ovts ofvt vts fvt _ ty_V0 ty_C0 ty_y10) (cm_SN 2 hts kc_X10_copyRow ki_RX10 kl_RX2_46 ks_X10_copyRow kd_X10_copyRow ⟨Nat.le_of_ble_eq_true rfl, Nat.le_of_ble_eq_true rfl⟩) (ty_preS hP hK hD hS hA hX) rfl rfl hl.1 rfl (lv_room (Nat.le_of_ble_eq_true rfl)) dX2_copyFrom_53 ⟨Nat.le_of_ble_eq_true rfl, Nat.le_of_ble_eq_true rfl⟩) (fun u H locs hw_7 hP hD hS => ?_)
  obtain ⟨ws_8, rfl⟩ : ∃ z, z = u := ⟨_, rfl⟩
  have hT9_9 := hw_7
  obtain ⟨hP, hD⟩ := ty_bkPD (E := [(fn_2 cu occn nms pnt vts), (nms, .inl (ct 1, 4, .inr (.inl (cm_cpy 4 ofnm fnm)))), (fn_2 ocu occn onms opnt ovts), (onms, .inl (ct 1, 4, .inr (.inl ofnm))), (rf_RW ct 0 opnt 4 ofpn), (rf_RW ct 0 pnt 4 (cm_cpy 4 ofpn fpn)), (rf_RW ct 0 ovts 44 ofvt), (rf_RW ct 0 vts 44 (cm_cpy 44 ofvt fvt))]) hP hD rfl
  obtain ⟨hP, hD⟩ := ty_ordPD (E2 := [(fn_2 cu occn nms pnt vts), (nms, .inl (ct 1, 4, .inr (.inl (cm_cpy 4 ofnm fnm)))), (rf_RW ct 0 pnt 4 (cm_cpy 4 ofpn fpn)), (rf_RW ct 0 vts 44 (cm_cpy 44 ofvt fvt)), (fn_2 ocu occn onms opnt ovts), (onms, .inl (ct 1, 4, .inr (.inl ofnm))), (rf_RW ct 0 opnt 4 ofpn), (rf_RW ct 0 ovts 44 ofvt)]) (n := 8) [0, 1, 5, 7, 2, 3, 4, 6] hP hD rfl rfl (by decide +kernel)
  exact W.vret hx hb hr (fun t ht hW => ⟨⟨ws, rfl, hT, by rw [ht]; exact hP, by rw [hAe]; exact hD⟩, hS.F ht⟩) hS.2.2 dX2_copyFrom_56
set_option maxRecDepth 100000 in
set_option maxHeartbeats 4000000 in
theorem r_X5_copyFrom (l : Launch) (D : va_G) (ct : Nat → ClassId) (S : ty_S) (ws : va_W) (ph : va_W → Prop) (xx : Nat → Nat → Nat → Prop) (pr : Nat) (pcn : Int32) (sps : Nat) (kds : Nat) (fst : Nat) (scs : Nat) (fsps : Nat → Int32) (fkds : Nat → Int32) (ffst : Nat → Int32) (fscs : Nat → Int32) (opr : Nat) (opcn : Int32) (osps : Nat) (okds : Nat) (ofst : Nat) (oscs : Nat) (ofsps : Nat → Int32) (ofkds : Nat → Int32) (offst : Nat → Int32) (ofscs : Nat → Int32) (sz : Nat) (hT : ty_V ct S ph ws) (hph : ty_C ph xx) (hy1 : ty_y1 xx) : Met l yX5_copyFrom (ws_ yX5_copyFrom cX5_copyFrom 2 none) ({ frames := 2, cells := 0, slots := 0, locals := 101 } : Room) (va_Pc [.ref pr, .ref opr] (cmP D ct sz ([(fn_5 pr pcn sps kds fst scs), (rf_RW ct 0 sps 4 fsps), (rf_RW ct 0 kds 48 fkds), (rf_RW ct 0 fst 48 ffst), (rf_RW ct 0 scs 48 fscs), (fn_5 opr opcn osps okds ofst oscs), (rf_RW ct 0 osps 4 ofsps), (rf_RW ct 0 okds 48 ofkds), (rf_RW ct 0 ofst 48 offst), (rf_RW ct 0 oscs 48 ofscs)] ++ ws))) (va_Qv (fun (u9 : va_W) => ty_V ct S ph u9) (cmB D ([(fn_5 pr pcn sps kds fst scs), (rf_RW ct 0 sps 4 fsps), (rf_RW ct 0 kds 48 fkds), (rf_RW ct 0 fst 48 ffst), (rf_RW ct 0 scs 48 fscs), (fn_5 opr opcn osps okds ofst oscs), (rf_RW ct 0 osps 4 ofsps), (rf_RW ct 0 okds 48 ofkds), (rf_RW ct 0 ofst 48 offst), (rf_RW ct 0 oscs 48 ofscs)] ++ ws) sz (fun (u9 : va_W) => ([(fn_5 pr opcn sps kds fst scs), (rf_RW ct 0 sps 4 (cm_cpy 4 ofsps fsps)), (rf_RW ct 0 kds 48 (cm_cpy 48 ofkds fkds)), (rf_RW ct 0 fst 48 (cm_cpy 48 offst ffst)), (rf_RW ct 0 scs 48 (cm_cpy 48 ofscs fscs)), (fn_5 opr opcn osps okds ofst oscs), (rf_RW ct 0 osps 4 ofsps), (rf_RW ct 0 okds 48 ofkds), (rf_RW ct 0 ofst 48 offst), (rf_RW ct 0 oscs 48 ofscs)] ++ u9))) (va_A ([(fn_5 pr pcn sps kds fst scs), (rf_RW ct 0 sps 4 fsps), (rf_RW ct 0 kds 48 fkds), (rf_RW ct 0 fst 48 ffst), (rf_RW ct 0 scs 48 fscs), (fn_5 opr opcn osps okds ofst oscs), (rf_RW ct 0 osps 4 ofsps), (rf_RW ct 0 okds 48 ofkds), (rf_RW ct 0 ofst 48 offst), (rf_RW ct 0 oscs 48 ofscs)] ++ ws) sz)) 0 0 (va_A ([(fn_5 pr pcn sps kds fst scs), (rf_RW ct 0 sps 4 fsps), (rf_RW ct 0 kds 48 fkds), (rf_RW ct 0 fst 48 ffst), (rf_RW ct 0 scs 48 fscs), (fn_5 opr opcn osps okds ofst oscs), (rf_RW ct 0 osps 4 ofsps), (rf_RW ct 0 okds 48 ofkds), (rf_RW ct 0 ofst 48 offst), (rf_RW ct 0 oscs 48 ofscs)] ++ ws) sz) := by
  refine Met.ofW (cc := cX5_copyFrom) (maxL := 2) (ret := none) (by decide) rfl ?_
  intro p e s m args below meth c s₁ B hml hv
  obtain ⟨rfl, hsz, hP, hK, hD0, hX⟩ := hv
  have hx := B.exec
  have hb := B.bytes
  have hr := B.returns
  have hts := ws_all (atoms_spec (ws := ws_ yX5_copyFrom cX5_copyFrom 2 none) B.pre)
  have hown : s.vm.findClass RX5 = some m.cls := findClass_of_methodNamed B.named
  have hlocks := B.notSynchronized
  subst hsz
  have hD := hD0.self (sz := s.heap.size)
  generalize hAe : va_A ([(fn_5 pr pcn sps kds fst scs), (rf_RW ct 0 sps 4 fsps), (rf_RW ct 0 kds 48 fkds), (rf_RW ct 0 fst 48 ffst), (rf_RW ct 0 scs 48 fscs), (fn_5 opr opcn osps okds ofst oscs), (rf_RW ct 0 osps 4 ofsps), (rf_RW ct 0 okds 48 ofkds), (rf_RW ct 0 ofst 48 offst), (rf_RW ct 0 oscs 48 ofscs)] ++ ws) s.heap.size = A at hD hX ⊢
  have hA : ∀ q : Nat, s.heap.size ≤ q → A q := fun q h => by rw [← hAe]; exact Or.inr h
  have hS : va_S A s.heap s.heap [] := va_S.rf
  have hl := lv_entry ([.ref pr, .ref opr]) (n := 2) (Nat.le_of_ble_eq_true rfl)
  rw [lg_entry_eq]
  generalize (lg_sl ([.ref pr, .ref opr]) ++ List.replicate (2 - (lg_sl ([.ref pr, .ref opr])).length) Slot.unset).toArray = ls at hl ⊢
  have hl : lv_has ls 2 [(0, .ref pr), (1, .ref opr)] := hl
  refine lv_aload_n hx hb dX5_copyFrom_0 rfl (lv_at hl 0 rfl) ?_
  refine lv_aload_n hx hb dX5_copyFrom_1 rfl (lv_at hl 1 rfl) ?_
  refine va_get (v := .int opcn) (D := D) (ci := 5) (C := RX5) (T := TX5) (N := 5) hx hb hts in_X5 hown hK hP 5 rfl rfl 0 (by decide) (hts _ kl_RX5_24) (fun _ h9 => h9) rfl dX5_copyFrom_2 ?_
  refine va_put (v := .int opcn) (ty := .int) (D := D) (ci := 5) (C := RX5) (T := TX5) (N := 5) hx hb hts in_X5 tyX5 tyX5_ok nmX5 hown hK hP hD hS 0 rfl rfl 0 (by decide) (hts _ kl_RX5_24) (fun _ h9 => h9) rfl (by decide +kernel) rfl rfl (Nat.le_of_ble_eq_true rfl) dX5_copyFrom_5 (fun H locs hP hD hS => ?_)
  have hP : va_P D vwCl ([(fn_5 pr opcn sps kds fst scs), (rf_RW ct 0 sps 4 fsps), (rf_RW ct 0 kds 48 fkds), (rf_RW ct 0 fst 48 ffst), (rf_RW ct 0 scs 48 fscs), (fn_5 opr opcn osps okds ofst oscs), (rf_RW ct 0 osps 4 ofsps), (rf_RW ct 0 okds 48 ofkds), (rf_RW ct 0 ofst 48 offst), (rf_RW ct 0 oscs 48 ofscs)] ++ ws) H := hP
  have hD : va_D A ([(fn_5 pr opcn sps kds fst scs), (rf_RW ct 0 sps 4 fsps), (rf_RW ct 0 kds 48 fkds), (rf_RW ct 0 fst 48 ffst), (rf_RW ct 0 scs 48 fscs), (fn_5 opr opcn osps okds ofst oscs), (rf_RW ct 0 osps 4 ofsps), (rf_RW ct 0 okds 48 ofkds), (rf_RW ct 0 ofst 48 offst), (rf_RW ct 0 oscs 48 ofscs)] ++ ws) := hD
  refine lv_aload_n hx hb dX5_copyFrom_8 rfl (lv_at hl 1 rfl) ?_
  refine va_get (v := .ref osps) (D := D) (ci := 5) (C := RX5) (T := TX5) (N := 5) hx hb hts in_X5 hown hK hP 5 rfl rfl 1 (by decide) (hts _ kl_RX5_9) (fun _ h9 => h9) rfl dX5_copyFrom_9 ?_
  refine lv_aload_n hx hb dX5_copyFrom_12 rfl (lv_at hl 0 rfl) ?_
  refine va_get (v := .ref sps) (D := D) (ci := 5) (C := RX5) (T := TX5) (N := 5) hx hb hts in_X5 hown hK hP 0 rfl rfl 1 (by decide) (hts _ kl_RX5_9) (fun _ h9 => h9) rfl dX5_copyFrom_13 ?_
  obtain ⟨hP, hD⟩ := ty_opPD (E1 := [(fn_5 pr opcn sps kds fst scs), (rf_RW ct 0 kds 48 fkds), (rf_RW ct 0 fst 48 ffst), (rf_RW ct 0 scs 48 fscs), (fn_5 opr opcn osps okds ofst oscs), (rf_RW ct 0 okds 48 ofkds), (rf_RW ct 0 ofst 48 offst), (rf_RW ct 0 oscs 48 ofscs)]) (E2 := [(rf_RW ct 0 osps 4 ofsps), (rf_RW ct 0 sps 4 fsps)]) (n := 10) [0, 2, 3, 4, 5, 7, 8, 9, 6, 1] hP hD rfl rfl (by decide +kernel) ty_mv2
  refine ty_Kv hP hD hS hA (va_runSN (As := [.ref osps, .ref sps]) (rest := []) ⟨hx, hb, hml, hown, hts⟩ (r_X10_copyRow_4 l D ct (fun _ => none) [] (fun _ => True) (fun _ _ _ => True) osps ofsps sps fsps _ ty_V0 ty_C0 ty_y10) (cm_SN 2 hts kc_X10_copyRow ki_RX10 kl_RX5_36 ks_X10_copyRow kd_X10_copyRow ⟨Nat.le_of_ble_eq_true rfl, Nat.le_of_ble_eq_true rfl⟩) (ty_preS hP hK hD hS hA hX) rfl rfl hl.1 rfl (lv_room (Nat.le_of_ble_eq_true rfl)) dX5_copyFrom_16 ⟨Nat.le_of_ble_eq_true rfl, Nat.le_of_ble_eq_true rfl⟩) (fun u H locs hw_2 hP hD hS => ?_)
  obtain ⟨ws_3, rfl⟩ : ∃ z, z = u := ⟨_, rfl⟩
  have hT9_4 := hw_2
  obtain ⟨hP, hD⟩ := ty_bkPD (E := [(fn_5 pr opcn sps kds fst scs), (rf_RW ct 0 kds 48 fkds), (rf_RW ct 0 fst 48 ffst), (rf_RW ct 0 scs 48 fscs), (fn_5 opr opcn osps okds ofst oscs), (rf_RW ct 0 okds 48 ofkds), (rf_RW ct 0 ofst 48 offst), (rf_RW ct 0 oscs 48 ofscs), (rf_RW ct 0 osps 4 ofsps), (rf_RW ct 0 sps 4 (cm_cpy 4 ofsps fsps))]) hP hD rfl
  refine lv_aload_n hx hb dX5_copyFrom_19 rfl (lv_at hl 1 rfl) ?_
  refine va_get (v := .ref okds) (D := D) (ci := 5) (C := RX5) (T := TX5) (N := 5) hx hb hts in_X5 hown hK hP 4 rfl rfl 2 (by decide) (hts _ kl_RX5_15) (fun _ h9 => h9) rfl dX5_copyFrom_20 ?_
  refine lv_aload_n hx hb dX5_copyFrom_23 rfl (lv_at hl 0 rfl) ?_
  refine va_get (v := .ref kds) (D := D) (ci := 5) (C := RX5) (T := TX5) (N := 5) hx hb hts in_X5 hown hK hP 0 rfl rfl 2 (by decide) (hts _ kl_RX5_15) (fun _ h9 => h9) rfl dX5_copyFrom_24 ?_
  obtain ⟨hP, hD⟩ := ty_opPD (E1 := [(fn_5 pr opcn sps kds fst scs), (rf_RW ct 0 fst 48 ffst), (rf_RW ct 0 scs 48 fscs), (fn_5 opr opcn osps okds ofst oscs), (rf_RW ct 0 ofst 48 offst), (rf_RW ct 0 oscs 48 ofscs), (rf_RW ct 0 osps 4 ofsps), (rf_RW ct 0 sps 4 (cm_cpy 4 ofsps fsps))]) (E2 := [(rf_RW ct 0 okds 48 ofkds), (rf_RW ct 0 kds 48 fkds)]) (n := 10) [0, 2, 3, 4, 6, 7, 8, 9, 5, 1] hP hD rfl rfl (by decide +kernel) ty_mv2
  refine ty_Kv hP hD hS hA (va_runSN (As := [.ref okds, .ref kds]) (rest := []) ⟨hx, hb, hml, hown, hts⟩ (r_X10_copyRow_48 l D ct (fun _ => none) [] (fun _ => True) (fun _ _ _ => True) okds ofkds kds fkds _ ty_V0 ty_C0 ty_y10) (cm_SN 2 hts kc_X10_copyRow ki_RX10 kl_RX5_36 ks_X10_copyRow kd_X10_copyRow ⟨Nat.le_of_ble_eq_true rfl, Nat.le_of_ble_eq_true rfl⟩) (ty_preS hP hK hD hS hA hX) rfl rfl hl.1 rfl (lv_room (Nat.le_of_ble_eq_true rfl)) dX5_copyFrom_27 ⟨Nat.le_of_ble_eq_true rfl, Nat.le_of_ble_eq_true rfl⟩) (fun u H locs hw_6 hP hD hS => ?_)
  obtain ⟨ws_7, rfl⟩ : ∃ z, z = u := ⟨_, rfl⟩
  have hT9_8 := hw_6
  obtain ⟨hP, hD⟩ := ty_bkPD (E := [(fn_5 pr opcn sps kds fst scs), (rf_RW ct 0 fst 48 ffst), (rf_RW ct 0 scs 48 fscs), (fn_5 opr opcn osps okds ofst oscs), (rf_RW ct 0 ofst 48 offst), (rf_RW ct 0 oscs 48 ofscs), (rf_RW ct 0 osps 4 ofsps), (rf_RW ct 0 sps 4 (cm_cpy 4 ofsps fsps)), (rf_RW ct 0 okds 48 ofkds), (rf_RW ct 0 kds 48 (cm_cpy 48 ofkds fkds))]) hP hD rfl
  refine lv_aload_n hx hb dX5_copyFrom_30 rfl (lv_at hl 1 rfl) ?_
  refine va_get (v := .ref ofst) (D := D) (ci := 5) (C := RX5) (T := TX5) (N := 5) hx hb hts in_X5 hown hK hP 3 rfl rfl 3 (by decide) (hts _ kl_RX5_18) (fun _ h9 => h9) rfl dX5_copyFrom_31 ?_
  refine lv_aload_n hx hb dX5_copyFrom_34 rfl (lv_at hl 0 rfl) ?_
  refine va_get (v := .ref fst) (D := D) (ci := 5) (C := RX5) (T := TX5) (N := 5) hx hb hts in_X5 hown hK hP 0 rfl rfl 3 (by decide) (hts _ kl_RX5_18) (fun _ h9 => h9) rfl dX5_copyFrom_35 ?_
  obtain ⟨hP, hD⟩ := ty_opPD (E1 := [(fn_5 pr opcn sps kds fst scs), (rf_RW ct 0 scs 48 fscs), (fn_5 opr opcn osps okds ofst oscs), (rf_RW ct 0 oscs 48 ofscs), (rf_RW ct 0 osps 4 ofsps), (rf_RW ct 0 sps 4 (cm_cpy 4 ofsps fsps)), (rf_RW ct 0 okds 48 ofkds), (rf_RW ct 0 kds 48 (cm_cpy 48 ofkds fkds))]) (E2 := [(rf_RW ct 0 ofst 48 offst), (rf_RW ct 0 fst 48 ffst)]) (n := 10) [0, 2, 3, 5, 6, 7, 8, 9, 4, 1] hP hD rfl rfl (by decide +kernel) ty_mv2
  refine ty_Kv hP hD hS hA (va_runSN (As := [.ref ofst, .ref fst]) (rest := []) ⟨hx, hb, hml, hown, hts⟩ (r_X10_copyRow_48 l D ct (fun _ => none) [] (fun _ => True) (fun _ _ _ => True) ofst offst fst ffst _ ty_V0 ty_C0 ty_y10) (cm_SN 2 hts kc_X10_copyRow ki_RX10 kl_RX5_36 ks_X10_copyRow kd_X10_copyRow ⟨Nat.le_of_ble_eq_true rfl, Nat.le_of_ble_eq_true rfl⟩) (ty_preS hP hK hD hS hA hX) rfl rfl hl.1 rfl (lv_room (Nat.le_of_ble_eq_true rfl)) dX5_copyFrom_38 ⟨Nat.le_of_ble_eq_true rfl, Nat.le_of_ble_eq_true rfl⟩) (fun u H locs hw_10 hP hD hS => ?_)
  obtain ⟨ws_11, rfl⟩ : ∃ z, z = u := ⟨_, rfl⟩
  have hT9_12 := hw_10
  obtain ⟨hP, hD⟩ := ty_bkPD (E := [(fn_5 pr opcn sps kds fst scs), (rf_RW ct 0 scs 48 fscs), (fn_5 opr opcn osps okds ofst oscs), (rf_RW ct 0 oscs 48 ofscs), (rf_RW ct 0 osps 4 ofsps), (rf_RW ct 0 sps 4 (cm_cpy 4 ofsps fsps)), (rf_RW ct 0 okds 48 ofkds), (rf_RW ct 0 kds 48 (cm_cpy 48 ofkds fkds)), (rf_RW ct 0 ofst 48 offst), (rf_RW ct 0 fst 48 (cm_cpy 48 offst ffst))]) hP hD rfl
  refine lv_aload_n hx hb dX5_copyFrom_41 rfl (lv_at hl 1 rfl) ?_
  refine va_get (v := .ref oscs) (D := D) (ci := 5) (C := RX5) (T := TX5) (N := 5) hx hb hts in_X5 hown hK hP 2 rfl rfl 4 (by decide) (hts _ kl_RX5_21) (fun _ h9 => h9) rfl dX5_copyFrom_42 ?_
  refine lv_aload_n hx hb dX5_copyFrom_45 rfl (lv_at hl 0 rfl) ?_
  refine va_get (v := .ref scs) (D := D) (ci := 5) (C := RX5) (T := TX5) (N := 5) hx hb hts in_X5 hown hK hP 0 rfl rfl 4 (by decide) (hts _ kl_RX5_21) (fun _ h9 => h9) rfl dX5_copyFrom_46 ?_
  obtain ⟨hP, hD⟩ := ty_opPD (E1 := [(fn_5 pr opcn sps kds fst scs), (fn_5 opr opcn osps okds ofst oscs), (rf_RW ct 0 osps 4 ofsps), (rf_RW ct 0 sps 4 (cm_cpy 4 ofsps fsps)), (rf_RW ct 0 okds 48 ofkds), (rf_RW ct 0 kds 48 (cm_cpy 48 ofkds fkds)), (rf_RW ct 0 ofst 48 offst), (rf_RW ct 0 fst 48 (cm_cpy 48 offst ffst))]) (E2 := [(rf_RW ct 0 oscs 48 ofscs), (rf_RW ct 0 scs 48 fscs)]) (n := 10) [0, 2, 4, 5, 6, 7, 8, 9, 3, 1] hP hD rfl rfl (by decide +kernel) ty_mv2
  refine ty_Kv hP hD hS hA (va_runSN (As := [.ref oscs, .ref scs]) (rest := []) ⟨hx, hb, hml, hown, hts⟩ (r_X10_copyRow_48 l D ct (fun _ => none) [] (fun _ => True) (fun _ _ _ => True) oscs ofscs scs fscs _ ty_V0 ty_C0 ty_y10) (cm_SN 2 hts kc_X10_copyRow ki_RX10 kl_RX5_36 ks_X10_copyRow kd_X10_copyRow ⟨Nat.le_of_ble_eq_true rfl, Nat.le_of_ble_eq_true rfl⟩) (ty_preS hP hK hD hS hA hX) rfl rfl hl.1 rfl (lv_room (Nat.le_of_ble_eq_true rfl)) dX5_copyFrom_49 ⟨Nat.le_of_ble_eq_true rfl, Nat.le_of_ble_eq_true rfl⟩) (fun u H locs hw_14 hP hD hS => ?_)
  obtain ⟨ws_15, rfl⟩ : ∃ z, z = u := ⟨_, rfl⟩
  have hT9_16 := hw_14
  obtain ⟨hP, hD⟩ := ty_bkPD (E := [(fn_5 pr opcn sps kds fst scs), (fn_5 opr opcn osps okds ofst oscs), (rf_RW ct 0 osps 4 ofsps), (rf_RW ct 0 sps 4 (cm_cpy 4 ofsps fsps)), (rf_RW ct 0 okds 48 ofkds), (rf_RW ct 0 kds 48 (cm_cpy 48 ofkds fkds)), (rf_RW ct 0 ofst 48 offst), (rf_RW ct 0 fst 48 (cm_cpy 48 offst ffst)), (rf_RW ct 0 oscs 48 ofscs), (rf_RW ct 0 scs 48 (cm_cpy 48 ofscs fscs))]) hP hD rfl
  obtain ⟨hP, hD⟩ := ty_ordPD (E2 := [(fn_5 pr opcn sps kds fst scs), (rf_RW ct 0 sps 4 (cm_cpy 4 ofsps fsps)), (rf_RW ct 0 kds 48 (cm_cpy 48 ofkds fkds)), (rf_RW ct 0 fst 48 (cm_cpy 48 offst ffst)), (rf_RW ct 0 scs 48 (cm_cpy 48 ofscs fscs)), (fn_5 opr opcn osps okds ofst oscs), (rf_RW ct 0 osps 4 ofsps), (rf_RW ct 0 okds 48 ofkds), (rf_RW ct 0 ofst 48 offst), (rf_RW ct 0 oscs 48 ofscs)]) (n := 10) [0, 3, 5, 7, 9, 1, 2, 4, 6, 8] hP hD rfl rfl (by decide +kernel)
  exact W.vret hx hb hr (fun t ht hW => ⟨⟨ws, rfl, hT, by rw [ht]; exact hP, by rw [hAe]; exact hD⟩, hS.F ht⟩) hS.2.2 dX5_copyFrom_52
set_option maxRecDepth 100000 in
set_option maxHeartbeats 4000000 in
theorem r_X8_copyFrom_150 (l : Launch) (D : va_G) (ct : Nat → ClassId) (S : ty_S) (ws : va_W) (ph : va_W → Prop) (xx : Nat → Nat → Nat → Prop) (rc : Nat) (rlim : Int32) (rwid : Int32) (rnu : Nat) (rold : Int32) (rsiz : Int32) (frn : Nat → Int32) (orc : Nat) (orlim : Int32) (orwid : Int32) (ornu : Nat) (orold : Int32) (orsiz : Int32) (ofrn : Nat → Int32) (sz : Nat) (hT : ty_V ct S ph ws) (hph : ty_C ph xx) (hy1 : ty_y1 xx) : Met l yX8_copyFrom (ws_ yX8_copyFrom cX8_copyFrom 2 none) ({ frames := 2, cells := 0, slots := 0, locals := 101 } : Room) (va_Pc [.ref rc, .ref orc] (cmP D ct sz ([(fn_8 rc rlim rwid rnu rold rsiz), (rf_RW ct 0 rnu 150 frn), (fn_8 orc orlim orwid ornu orold orsiz), (rf_RW ct 0 ornu 150 ofrn)] ++ ws))) (va_Qv (fun (u9 : va_W) => ty_V ct S ph u9) (cmB D ([(fn_8 rc rlim rwid rnu rold rsiz), (rf_RW ct 0 rnu 150 frn), (fn_8 orc orlim orwid ornu orold orsiz), (rf_RW ct 0 ornu 150 ofrn)] ++ ws) sz (fun (u9 : va_W) => ([(fn_8 rc rlim rwid rnu orold orsiz), (rf_RW ct 0 rnu 150 (cm_cpy 150 ofrn frn)), (fn_8 orc orlim orwid ornu orold orsiz), (rf_RW ct 0 ornu 150 ofrn)] ++ u9))) (va_A ([(fn_8 rc rlim rwid rnu rold rsiz), (rf_RW ct 0 rnu 150 frn), (fn_8 orc orlim orwid ornu orold orsiz), (rf_RW ct 0 ornu 150 ofrn)] ++ ws) sz)) 0 0 (va_A ([(fn_8 rc rlim rwid rnu rold rsiz), (rf_RW ct 0 rnu 150 frn), (fn_8 orc orlim orwid ornu orold orsiz), (rf_RW ct 0 ornu 150 ofrn)] ++ ws) sz) := by
  refine Met.ofW (cc := cX8_copyFrom) (maxL := 2) (ret := none) (by decide) rfl ?_
  intro p e s m args below meth c s₁ B hml hv
  obtain ⟨rfl, hsz, hP, hK, hD0, hX⟩ := hv
  have hx := B.exec
  have hb := B.bytes
  have hr := B.returns
  have hts := ws_all (atoms_spec (ws := ws_ yX8_copyFrom cX8_copyFrom 2 none) B.pre)
  have hown : s.vm.findClass RX8 = some m.cls := findClass_of_methodNamed B.named
  have hlocks := B.notSynchronized
  subst hsz
  have hD := hD0.self (sz := s.heap.size)
  generalize hAe : va_A ([(fn_8 rc rlim rwid rnu rold rsiz), (rf_RW ct 0 rnu 150 frn), (fn_8 orc orlim orwid ornu orold orsiz), (rf_RW ct 0 ornu 150 ofrn)] ++ ws) s.heap.size = A at hD hX ⊢
  have hA : ∀ q : Nat, s.heap.size ≤ q → A q := fun q h => by rw [← hAe]; exact Or.inr h
  have hS : va_S A s.heap s.heap [] := va_S.rf
  have hl := lv_entry ([.ref rc, .ref orc]) (n := 2) (Nat.le_of_ble_eq_true rfl)
  rw [lg_entry_eq]
  generalize (lg_sl ([.ref rc, .ref orc]) ++ List.replicate (2 - (lg_sl ([.ref rc, .ref orc])).length) Slot.unset).toArray = ls at hl ⊢
  have hl : lv_has ls 2 [(0, .ref rc), (1, .ref orc)] := hl
  refine lv_aload_n hx hb dX8_copyFrom_0 rfl (lv_at hl 0 rfl) ?_
  refine lv_aload_n hx hb dX8_copyFrom_1 rfl (lv_at hl 1 rfl) ?_
  refine va_get (v := .int orold) (D := D) (ci := 8) (C := RX8) (T := TX8) (N := 5) hx hb hts in_X8 hown hK hP 2 rfl rfl 3 (by decide) (hts _ kl_RX8_26) (fun _ h9 => h9) rfl dX8_copyFrom_2 ?_
  refine va_put (v := .int orold) (ty := .int) (D := D) (ci := 8) (C := RX8) (T := TX8) (N := 5) hx hb hts in_X8 tyX8 tyX8_ok nmX8 hown hK hP hD hS 0 rfl rfl 3 (by decide) (hts _ kl_RX8_26) (fun _ h9 => h9) rfl (by decide +kernel) rfl rfl (Nat.le_of_ble_eq_true rfl) dX8_copyFrom_5 (fun H locs hP hD hS => ?_)
  have hP : va_P D vwCl ([(fn_8 rc rlim rwid rnu orold rsiz), (rf_RW ct 0 rnu 150 frn), (fn_8 orc orlim orwid ornu orold orsiz), (rf_RW ct 0 ornu 150 ofrn)] ++ ws) H := hP
  have hD : va_D A ([(fn_8 rc rlim rwid rnu orold rsiz), (rf_RW ct 0 rnu 150 frn), (fn_8 orc orlim orwid ornu orold orsiz), (rf_RW ct 0 ornu 150 ofrn)] ++ ws) := hD
  refine lv_aload_n hx hb dX8_copyFrom_8 rfl (lv_at hl 0 rfl) ?_
  refine lv_aload_n hx hb dX8_copyFrom_9 rfl (lv_at hl 1 rfl) ?_
  refine va_get (v := .int orsiz) (D := D) (ci := 8) (C := RX8) (T := TX8) (N := 5) hx hb hts in_X8 hown hK hP 2 rfl rfl 4 (by decide) (hts _ kl_RX8_29) (fun _ h9 => h9) rfl dX8_copyFrom_10 ?_
  refine va_put (v := .int orsiz) (ty := .int) (D := D) (ci := 8) (C := RX8) (T := TX8) (N := 5) hx hb hts in_X8 tyX8 tyX8_ok nmX8 hown hK hP hD hS 0 rfl rfl 4 (by decide) (hts _ kl_RX8_29) (fun _ h9 => h9) rfl (by decide +kernel) rfl rfl (Nat.le_of_ble_eq_true rfl) dX8_copyFrom_13 (fun H locs hP hD hS => ?_)
  have hP : va_P D vwCl ([(fn_8 rc rlim rwid rnu orold orsiz), (rf_RW ct 0 rnu 150 frn), (fn_8 orc orlim orwid ornu orold orsiz), (rf_RW ct 0 ornu 150 ofrn)] ++ ws) H := hP
  have hD : va_D A ([(fn_8 rc rlim rwid rnu orold orsiz), (rf_RW ct 0 rnu 150 frn), (fn_8 orc orlim orwid ornu orold orsiz), (rf_RW ct 0 ornu 150 ofrn)] ++ ws) := hD
  refine lv_aload_n hx hb dX8_copyFrom_16 rfl (lv_at hl 1 rfl) ?_
  refine va_get (v := .ref ornu) (D := D) (ci := 8) (C := RX8) (T := TX8) (N := 5) hx hb hts in_X8 hown hK hP 2 rfl rfl 2 (by decide) (hts _ kl_RX8_22) (fun _ h9 => h9) rfl dX8_copyFrom_17 ?_
  refine lv_aload_n hx hb dX8_copyFrom_20 rfl (lv_at hl 0 rfl) ?_
  refine va_get (v := .ref rnu) (D := D) (ci := 8) (C := RX8) (T := TX8) (N := 5) hx hb hts in_X8 hown hK hP 0 rfl rfl 2 (by decide) (hts _ kl_RX8_22) (fun _ h9 => h9) rfl dX8_copyFrom_21 ?_
  obtain ⟨hP, hD⟩ := ty_opPD (E1 := [(fn_8 rc rlim rwid rnu orold orsiz), (fn_8 orc orlim orwid ornu orold orsiz)]) (E2 := [(rf_RW ct 0 ornu 150 ofrn), (rf_RW ct 0 rnu 150 frn)]) (n := 4) [0, 2, 3, 1] hP hD rfl rfl (by decide +kernel) ty_mv2
  refine ty_Kv hP hD hS hA (va_runSN (As := [.ref ornu, .ref rnu]) (rest := []) ⟨hx, hb, hml, hown, hts⟩ (r_X10_copyRow_150 l D ct (fun _ => none) [] (fun _ => True) (fun _ _ _ => True) ornu ofrn rnu frn _ ty_V0 ty_C0 ty_y10) (cm_SN 2 hts kc_X10_copyRow ki_RX10 kl_RX8_42 ks_X10_copyRow kd_X10_copyRow ⟨Nat.le_of_ble_eq_true rfl, Nat.le_of_ble_eq_true rfl⟩) (ty_preS hP hK hD hS hA hX) rfl rfl hl.1 rfl (lv_room (Nat.le_of_ble_eq_true rfl)) dX8_copyFrom_24 ⟨Nat.le_of_ble_eq_true rfl, Nat.le_of_ble_eq_true rfl⟩) (fun u H locs hw_2 hP hD hS => ?_)
  obtain ⟨ws_3, rfl⟩ : ∃ z, z = u := ⟨_, rfl⟩
  have hT9_4 := hw_2
  obtain ⟨hP, hD⟩ := ty_bkPD (E := [(fn_8 rc rlim rwid rnu orold orsiz), (fn_8 orc orlim orwid ornu orold orsiz), (rf_RW ct 0 ornu 150 ofrn), (rf_RW ct 0 rnu 150 (cm_cpy 150 ofrn frn))]) hP hD rfl
  obtain ⟨hP, hD⟩ := ty_ordPD (E2 := [(fn_8 rc rlim rwid rnu orold orsiz), (rf_RW ct 0 rnu 150 (cm_cpy 150 ofrn frn)), (fn_8 orc orlim orwid ornu orold orsiz), (rf_RW ct 0 ornu 150 ofrn)]) (n := 4) [0, 3, 1, 2] hP hD rfl rfl (by decide +kernel)
  exact W.vret hx hb hr (fun t ht hW => ⟨⟨ws, rfl, hT, by rw [ht]; exact hP, by rw [hAe]; exact hD⟩, hS.F ht⟩) hS.2.2 dX8_copyFrom_27
set_option maxRecDepth 100000 in
set_option maxHeartbeats 4000000 in
theorem r_X8_copyFrom_240 (l : Launch) (D : va_G) (ct : Nat → ClassId) (S : ty_S) (ws : va_W) (ph : va_W → Prop) (xx : Nat → Nat → Nat → Prop) (lg : Nat) (llim : Int32) (lwid : Int32) (lnu : Nat) (lold : Int32) (lsiz : Int32) (fln : Nat → Int32) (olg : Nat) (ollim : Int32) (olwid : Int32) (olnu : Nat) (olold : Int32) (olsiz : Int32) (ofln : Nat → Int32) (sz : Nat) (hT : ty_V ct S ph ws) (hph : ty_C ph xx) (hy1 : ty_y1 xx) : Met l yX8_copyFrom (ws_ yX8_copyFrom cX8_copyFrom 2 none) ({ frames := 2, cells := 0, slots := 0, locals := 101 } : Room) (va_Pc [.ref lg, .ref olg] (cmP D ct sz ([(fn_8 lg llim lwid lnu lold lsiz), (rf_RW ct 0 lnu 240 fln), (fn_8 olg ollim olwid olnu olold olsiz), (rf_RW ct 0 olnu 240 ofln)] ++ ws))) (va_Qv (fun (u9 : va_W) => ty_V ct S ph u9) (cmB D ([(fn_8 lg llim lwid lnu lold lsiz), (rf_RW ct 0 lnu 240 fln), (fn_8 olg ollim olwid olnu olold olsiz), (rf_RW ct 0 olnu 240 ofln)] ++ ws) sz (fun (u9 : va_W) => ([(fn_8 lg llim lwid lnu olold olsiz), (rf_RW ct 0 lnu 240 (cm_cpy 240 ofln fln)), (fn_8 olg ollim olwid olnu olold olsiz), (rf_RW ct 0 olnu 240 ofln)] ++ u9))) (va_A ([(fn_8 lg llim lwid lnu lold lsiz), (rf_RW ct 0 lnu 240 fln), (fn_8 olg ollim olwid olnu olold olsiz), (rf_RW ct 0 olnu 240 ofln)] ++ ws) sz)) 0 0 (va_A ([(fn_8 lg llim lwid lnu lold lsiz), (rf_RW ct 0 lnu 240 fln), (fn_8 olg ollim olwid olnu olold olsiz), (rf_RW ct 0 olnu 240 ofln)] ++ ws) sz) := by
  refine Met.ofW (cc := cX8_copyFrom) (maxL := 2) (ret := none) (by decide) rfl ?_
  intro p e s m args below meth c s₁ B hml hv
  obtain ⟨rfl, hsz, hP, hK, hD0, hX⟩ := hv
  have hx := B.exec
  have hb := B.bytes
  have hr := B.returns
  have hts := ws_all (atoms_spec (ws := ws_ yX8_copyFrom cX8_copyFrom 2 none) B.pre)
  have hown : s.vm.findClass RX8 = some m.cls := findClass_of_methodNamed B.named
  have hlocks := B.notSynchronized
  subst hsz
  have hD := hD0.self (sz := s.heap.size)
  generalize hAe : va_A ([(fn_8 lg llim lwid lnu lold lsiz), (rf_RW ct 0 lnu 240 fln), (fn_8 olg ollim olwid olnu olold olsiz), (rf_RW ct 0 olnu 240 ofln)] ++ ws) s.heap.size = A at hD hX ⊢
  have hA : ∀ q : Nat, s.heap.size ≤ q → A q := fun q h => by rw [← hAe]; exact Or.inr h
  have hS : va_S A s.heap s.heap [] := va_S.rf
  have hl := lv_entry ([.ref lg, .ref olg]) (n := 2) (Nat.le_of_ble_eq_true rfl)
  rw [lg_entry_eq]
  generalize (lg_sl ([.ref lg, .ref olg]) ++ List.replicate (2 - (lg_sl ([.ref lg, .ref olg])).length) Slot.unset).toArray = ls at hl ⊢
  have hl : lv_has ls 2 [(0, .ref lg), (1, .ref olg)] := hl
  refine lv_aload_n hx hb dX8_copyFrom_0 rfl (lv_at hl 0 rfl) ?_
  refine lv_aload_n hx hb dX8_copyFrom_1 rfl (lv_at hl 1 rfl) ?_
  refine va_get (v := .int olold) (D := D) (ci := 8) (C := RX8) (T := TX8) (N := 5) hx hb hts in_X8 hown hK hP 2 rfl rfl 3 (by decide) (hts _ kl_RX8_26) (fun _ h9 => h9) rfl dX8_copyFrom_2 ?_
  refine va_put (v := .int olold) (ty := .int) (D := D) (ci := 8) (C := RX8) (T := TX8) (N := 5) hx hb hts in_X8 tyX8 tyX8_ok nmX8 hown hK hP hD hS 0 rfl rfl 3 (by decide) (hts _ kl_RX8_26) (fun _ h9 => h9) rfl (by decide +kernel) rfl rfl (Nat.le_of_ble_eq_true rfl) dX8_copyFrom_5 (fun H locs hP hD hS => ?_)
  have hP : va_P D vwCl ([(fn_8 lg llim lwid lnu olold lsiz), (rf_RW ct 0 lnu 240 fln), (fn_8 olg ollim olwid olnu olold olsiz), (rf_RW ct 0 olnu 240 ofln)] ++ ws) H := hP
  have hD : va_D A ([(fn_8 lg llim lwid lnu olold lsiz), (rf_RW ct 0 lnu 240 fln), (fn_8 olg ollim olwid olnu olold olsiz), (rf_RW ct 0 olnu 240 ofln)] ++ ws) := hD
  refine lv_aload_n hx hb dX8_copyFrom_8 rfl (lv_at hl 0 rfl) ?_
  refine lv_aload_n hx hb dX8_copyFrom_9 rfl (lv_at hl 1 rfl) ?_
  refine va_get (v := .int olsiz) (D := D) (ci := 8) (C := RX8) (T := TX8) (N := 5) hx hb hts in_X8 hown hK hP 2 rfl rfl 4 (by decide) (hts _ kl_RX8_29) (fun _ h9 => h9) rfl dX8_copyFrom_10 ?_
  refine va_put (v := .int olsiz) (ty := .int) (D := D) (ci := 8) (C := RX8) (T := TX8) (N := 5) hx hb hts in_X8 tyX8 tyX8_ok nmX8 hown hK hP hD hS 0 rfl rfl 4 (by decide) (hts _ kl_RX8_29) (fun _ h9 => h9) rfl (by decide +kernel) rfl rfl (Nat.le_of_ble_eq_true rfl) dX8_copyFrom_13 (fun H locs hP hD hS => ?_)
  have hP : va_P D vwCl ([(fn_8 lg llim lwid lnu olold olsiz), (rf_RW ct 0 lnu 240 fln), (fn_8 olg ollim olwid olnu olold olsiz), (rf_RW ct 0 olnu 240 ofln)] ++ ws) H := hP
  have hD : va_D A ([(fn_8 lg llim lwid lnu olold olsiz), (rf_RW ct 0 lnu 240 fln), (fn_8 olg ollim olwid olnu olold olsiz), (rf_RW ct 0 olnu 240 ofln)] ++ ws) := hD
  refine lv_aload_n hx hb dX8_copyFrom_16 rfl (lv_at hl 1 rfl) ?_
  refine va_get (v := .ref olnu) (D := D) (ci := 8) (C := RX8) (T := TX8) (N := 5) hx hb hts in_X8 hown hK hP 2 rfl rfl 2 (by decide) (hts _ kl_RX8_22) (fun _ h9 => h9) rfl dX8_copyFrom_17 ?_
  refine lv_aload_n hx hb dX8_copyFrom_20 rfl (lv_at hl 0 rfl) ?_
  refine va_get (v := .ref lnu) (D := D) (ci := 8) (C := RX8) (T := TX8) (N := 5) hx hb hts in_X8 hown hK hP 0 rfl rfl 2 (by decide) (hts _ kl_RX8_22) (fun _ h9 => h9) rfl dX8_copyFrom_21 ?_
  obtain ⟨hP, hD⟩ := ty_opPD (E1 := [(fn_8 lg llim lwid lnu olold olsiz), (fn_8 olg ollim olwid olnu olold olsiz)]) (E2 := [(rf_RW ct 0 olnu 240 ofln), (rf_RW ct 0 lnu 240 fln)]) (n := 4) [0, 2, 3, 1] hP hD rfl rfl (by decide +kernel) ty_mv2
  refine ty_Kv hP hD hS hA (va_runSN (As := [.ref olnu, .ref lnu]) (rest := []) ⟨hx, hb, hml, hown, hts⟩ (r_X10_copyRow_240 l D ct (fun _ => none) [] (fun _ => True) (fun _ _ _ => True) olnu ofln lnu fln _ ty_V0 ty_C0 ty_y10) (cm_SN 2 hts kc_X10_copyRow ki_RX10 kl_RX8_42 ks_X10_copyRow kd_X10_copyRow ⟨Nat.le_of_ble_eq_true rfl, Nat.le_of_ble_eq_true rfl⟩) (ty_preS hP hK hD hS hA hX) rfl rfl hl.1 rfl (lv_room (Nat.le_of_ble_eq_true rfl)) dX8_copyFrom_24 ⟨Nat.le_of_ble_eq_true rfl, Nat.le_of_ble_eq_true rfl⟩) (fun u H locs hw_2 hP hD hS => ?_)
  obtain ⟨ws_3, rfl⟩ : ∃ z, z = u := ⟨_, rfl⟩
  have hT9_4 := hw_2
  obtain ⟨hP, hD⟩ := ty_bkPD (E := [(fn_8 lg llim lwid lnu olold olsiz), (fn_8 olg ollim olwid olnu olold olsiz), (rf_RW ct 0 olnu 240 ofln), (rf_RW ct 0 lnu 240 (cm_cpy 240 ofln fln))]) hP hD rfl
  obtain ⟨hP, hD⟩ := ty_ordPD (E2 := [(fn_8 lg llim lwid lnu olold olsiz), (rf_RW ct 0 lnu 240 (cm_cpy 240 ofln fln)), (fn_8 olg ollim olwid olnu olold olsiz), (rf_RW ct 0 olnu 240 ofln)]) (n := 4) [0, 3, 1, 2] hP hD rfl rfl (by decide +kernel)
  exact W.vret hx hb hr (fun t ht hW => ⟨⟨ws, rfl, hT, by rw [ht]; exact hP, by rw [hAe]; exact hD⟩, hS.F ht⟩) hS.2.2 dX8_copyFrom_27
set_option maxRecDepth 100000 in
set_option maxHeartbeats 4000000 in
theorem r_X3_copyFrom (l : Launch) (D : va_G) (ct : Nat → ClassId) (S : ty_S) (ws : va_W) (ph : va_W → Prop) (xx : Nat → Nat → Nat → Prop) (bk : Nat) (cin : Int64) (cou : Int64) (ein : Int64) (eou : Int64) (obk : Nat) (ocin : Int64) (ocou : Int64) (oein : Int64) (oeou : Int64) (sz : Nat) (hT : ty_V ct S ph ws) (hph : ty_C ph xx) (hy1 : ty_y1 xx) : Met l yX3_copyFrom (ws_ yX3_copyFrom cX3_copyFrom 2 none) ({ frames := 0, cells := 0, slots := 0, locals := 0 } : Room) (va_Pc [.ref bk, .ref obk] (cmP D ct sz ([(fn_3 bk cin cou ein eou), (fn_3 obk ocin ocou oein oeou)] ++ ws))) (va_Qv (fun (u9 : va_W) => ty_V ct S ph u9) (cmB D ([(fn_3 bk cin cou ein eou), (fn_3 obk ocin ocou oein oeou)] ++ ws) sz (fun (u9 : va_W) => ([(fn_3 bk ocin ocou oein oeou), (fn_3 obk ocin ocou oein oeou)] ++ u9))) (va_A ([(fn_3 bk cin cou ein eou), (fn_3 obk ocin ocou oein oeou)] ++ ws) sz)) 0 0 (va_A ([(fn_3 bk cin cou ein eou), (fn_3 obk ocin ocou oein oeou)] ++ ws) sz) := by
  refine Met.ofW (cc := cX3_copyFrom) (maxL := 2) (ret := none) (by decide) rfl ?_
  intro p e s m args below meth c s₁ B hml hv
  obtain ⟨rfl, hsz, hP, hK, hD0, hX⟩ := hv
  have hx := B.exec
  have hb := B.bytes
  have hr := B.returns
  have hts := ws_all (atoms_spec (ws := ws_ yX3_copyFrom cX3_copyFrom 2 none) B.pre)
  have hown : s.vm.findClass RX3 = some m.cls := findClass_of_methodNamed B.named
  have hlocks := B.notSynchronized
  subst hsz
  have hD := hD0.self (sz := s.heap.size)
  generalize hAe : va_A ([(fn_3 bk cin cou ein eou), (fn_3 obk ocin ocou oein oeou)] ++ ws) s.heap.size = A at hD hX ⊢
  have hA : ∀ q : Nat, s.heap.size ≤ q → A q := fun q h => by rw [← hAe]; exact Or.inr h
  have hS : va_S A s.heap s.heap [] := va_S.rf
  have hl := lv_entry ([.ref bk, .ref obk]) (n := 2) (Nat.le_of_ble_eq_true rfl)
  rw [lg_entry_eq]
  generalize (lg_sl ([.ref bk, .ref obk]) ++ List.replicate (2 - (lg_sl ([.ref bk, .ref obk])).length) Slot.unset).toArray = ls at hl ⊢
  have hl : lv_has ls 2 [(0, .ref bk), (1, .ref obk)] := hl
  refine lv_aload_n hx hb dX3_copyFrom_0 rfl (lv_at hl 0 rfl) ?_
  refine lv_aload_n hx hb dX3_copyFrom_1 rfl (lv_at hl 1 rfl) ?_
  refine va_get (v := .long ocin) (D := D) (ci := 3) (C := RX3) (T := TX3) (N := 4) hx hb hts in_X3 hown hK hP 1 rfl rfl 0 (by decide) (hts _ kl_RX3_7) (fun _ h9 => h9) rfl dX3_copyFrom_2 ?_
  refine va_put (v := .long ocin) (ty := .long) (D := D) (ci := 3) (C := RX3) (T := TX3) (N := 4) hx hb hts in_X3 tyX3 tyX3_ok nmX3 hown hK hP hD hS 0 rfl rfl 0 (by decide) (hts _ kl_RX3_7) (fun _ h9 => h9) rfl (by decide +kernel) rfl rfl (Nat.le_of_ble_eq_true rfl) dX3_copyFrom_5 (fun H locs hP hD hS => ?_)
  have hP : va_P D vwCl ([(fn_3 bk ocin cou ein eou), (fn_3 obk ocin ocou oein oeou)] ++ ws) H := hP
  have hD : va_D A ([(fn_3 bk ocin cou ein eou), (fn_3 obk ocin ocou oein oeou)] ++ ws) := hD
  refine lv_aload_n hx hb dX3_copyFrom_8 rfl (lv_at hl 0 rfl) ?_
  refine lv_aload_n hx hb dX3_copyFrom_9 rfl (lv_at hl 1 rfl) ?_
  refine va_get (v := .long ocou) (D := D) (ci := 3) (C := RX3) (T := TX3) (N := 4) hx hb hts in_X3 hown hK hP 1 rfl rfl 1 (by decide) (hts _ kl_RX3_13) (fun _ h9 => h9) rfl dX3_copyFrom_10 ?_
  refine va_put (v := .long ocou) (ty := .long) (D := D) (ci := 3) (C := RX3) (T := TX3) (N := 4) hx hb hts in_X3 tyX3 tyX3_ok nmX3 hown hK hP hD hS 0 rfl rfl 1 (by decide) (hts _ kl_RX3_13) (fun _ h9 => h9) rfl (by decide +kernel) rfl rfl (Nat.le_of_ble_eq_true rfl) dX3_copyFrom_13 (fun H locs hP hD hS => ?_)
  have hP : va_P D vwCl ([(fn_3 bk ocin ocou ein eou), (fn_3 obk ocin ocou oein oeou)] ++ ws) H := hP
  have hD : va_D A ([(fn_3 bk ocin ocou ein eou), (fn_3 obk ocin ocou oein oeou)] ++ ws) := hD
  refine lv_aload_n hx hb dX3_copyFrom_16 rfl (lv_at hl 0 rfl) ?_
  refine lv_aload_n hx hb dX3_copyFrom_17 rfl (lv_at hl 1 rfl) ?_
  refine va_get (v := .long oein) (D := D) (ci := 3) (C := RX3) (T := TX3) (N := 4) hx hb hts in_X3 hown hK hP 1 rfl rfl 2 (by decide) (hts _ kl_RX3_16) (fun _ h9 => h9) rfl dX3_copyFrom_18 ?_
  refine va_put (v := .long oein) (ty := .long) (D := D) (ci := 3) (C := RX3) (T := TX3) (N := 4) hx hb hts in_X3 tyX3 tyX3_ok nmX3 hown hK hP hD hS 0 rfl rfl 2 (by decide) (hts _ kl_RX3_16) (fun _ h9 => h9) rfl (by decide +kernel) rfl rfl (Nat.le_of_ble_eq_true rfl) dX3_copyFrom_21 (fun H locs hP hD hS => ?_)
  have hP : va_P D vwCl ([(fn_3 bk ocin ocou oein eou), (fn_3 obk ocin ocou oein oeou)] ++ ws) H := hP
  have hD : va_D A ([(fn_3 bk ocin ocou oein eou), (fn_3 obk ocin ocou oein oeou)] ++ ws) := hD
  refine lv_aload_n hx hb dX3_copyFrom_24 rfl (lv_at hl 0 rfl) ?_
  refine lv_aload_n hx hb dX3_copyFrom_25 rfl (lv_at hl 1 rfl) ?_
  refine va_get (v := .long oeou) (D := D) (ci := 3) (C := RX3) (T := TX3) (N := 4) hx hb hts in_X3 hown hK hP 1 rfl rfl 3 (by decide) (hts _ kl_RX3_19) (fun _ h9 => h9) rfl dX3_copyFrom_26 ?_
  refine va_put (v := .long oeou) (ty := .long) (D := D) (ci := 3) (C := RX3) (T := TX3) (N := 4) hx hb hts in_X3 tyX3 tyX3_ok nmX3 hown hK hP hD hS 0 rfl rfl 3 (by decide) (hts _ kl_RX3_19) (fun _ h9 => h9) rfl (by decide +kernel) rfl rfl (Nat.le_of_ble_eq_true rfl) dX3_copyFrom_29 (fun H locs hP hD hS => ?_)
  have hP : va_P D vwCl ([(fn_3 bk ocin ocou oein oeou), (fn_3 obk ocin ocou oein oeou)] ++ ws) H := hP
  have hD : va_D A ([(fn_3 bk ocin ocou oein oeou), (fn_3 obk ocin ocou oein oeou)] ++ ws) := hD
  exact W.vret hx hb hr (fun t ht hW => ⟨⟨ws, rfl, hT, by rw [ht]; exact hP, by rw [hAe]; exact hD⟩, hS.F ht⟩) hS.2.2 dX3_copyFrom_32
set_option maxRecDepth 100000 in
set_option maxHeartbeats 4000000 in
theorem r_X0_copyFrom (l : Launch) (D : va_G) (ct : Nat → ClassId) (S : ty_S) (ws : va_W) (ph : va_W → Prop) (xx : Nat → Nat → Nat → Prop) (cl : Nat) (cur : Nat) (pts : Int32) (nom : Int32) (ohm : Int32) (pol : Int32) (tau : Int32) (chg : Int32) (lft : Int32) (cap : Int32) (thr : Int32) (pz : Int32) (tmp : Int32) (het : Int32) (cun : Int32) (vol : Int32) (bk : Nat) (cv : Nat → Int32) (cin : Int64) (cou : Int64) (ein : Int64) (eou : Int64) (ocl : Nat) (ocur : Nat) (opts : Int32) (onom : Int32) (oohm : Int32) (opol : Int32) (otau : Int32) (ochg : Int32) (olft : Int32) (ocap : Int32) (othr : Int32) (opz : Int32) (otmp : Int32) (ohet : Int32) (ocun : Int32) (ovol : Int32) (obk : Nat) (ocv : Nat → Int32) (ocin : Int64) (ocou : Int64) (oein : Int64) (oeou : Int64) (sz : Nat) (hT : ty_V ct S ph ws) (hph : ty_C ph xx) (hy1 : ty_y1 xx) : Met l yX0_copyFrom (ws_ yX0_copyFrom cX0_copyFrom 2 none) ({ frames := 2, cells := 0, slots := 0, locals := 101 } : Room) (va_Pc [.ref cl, .ref ocl] (cmP D ct sz ([(fn_0 cl cur pts nom ohm pol tau chg lft cap thr pz tmp het cun vol bk), (rf_RW ct 0 cur 11 cv), (fn_3 bk cin cou ein eou), (fn_0 ocl ocur opts onom oohm opol otau ochg olft ocap othr opz otmp ohet ocun ovol obk), (rf_RW ct 0 ocur 11 ocv), (fn_3 obk ocin ocou oein oeou)] ++ ws))) (va_Qv (fun (u9 : va_W) => ty_V ct S ph u9) (cmB D ([(fn_0 cl cur pts nom ohm pol tau chg lft cap thr pz tmp het cun vol bk), (rf_RW ct 0 cur 11 cv), (fn_3 bk cin cou ein eou), (fn_0 ocl ocur opts onom oohm opol otau ochg olft ocap othr opz otmp ohet ocun ovol obk), (rf_RW ct 0 ocur 11 ocv), (fn_3 obk ocin ocou oein oeou)] ++ ws) sz (fun (u9 : va_W) => ([(fn_0 cl cur opts onom oohm opol otau ochg olft ocap othr opz otmp ohet ocun ovol bk), (rf_RW ct 0 cur 11 (cm_cpy 11 ocv cv)), (fn_3 bk ocin ocou oein oeou), (fn_0 ocl ocur opts onom oohm opol otau ochg olft ocap othr opz otmp ohet ocun ovol obk), (rf_RW ct 0 ocur 11 ocv), (fn_3 obk ocin ocou oein oeou)] ++ u9))) (va_A ([(fn_0 cl cur pts nom ohm pol tau chg lft cap thr pz tmp het cun vol bk), (rf_RW ct 0 cur 11 cv), (fn_3 bk cin cou ein eou), (fn_0 ocl ocur opts onom oohm opol otau ochg olft ocap othr opz otmp ohet ocun ovol obk), (rf_RW ct 0 ocur 11 ocv), (fn_3 obk ocin ocou oein oeou)] ++ ws) sz)) 0 0 (va_A ([(fn_0 cl cur pts nom ohm pol tau chg lft cap thr pz tmp het cun vol bk), (rf_RW ct 0 cur 11 cv), (fn_3 bk cin cou ein eou), (fn_0 ocl ocur opts onom oohm opol otau ochg olft ocap othr opz otmp ohet ocun ovol obk), (rf_RW ct 0 ocur 11 ocv), (fn_3 obk ocin ocou oein oeou)] ++ ws) sz) := by
  refine Met.ofW (cc := cX0_copyFrom) (maxL := 2) (ret := none) (by decide) rfl ?_
  intro p e s m args below meth c s₁ B hml hv
  obtain ⟨rfl, hsz, hP, hK, hD0, hX⟩ := hv
  have hx := B.exec
  have hb := B.bytes
  have hr := B.returns
  have hts := ws_all (atoms_spec (ws := ws_ yX0_copyFrom cX0_copyFrom 2 none) B.pre)
  have hown : s.vm.findClass RX0 = some m.cls := findClass_of_methodNamed B.named
  have hlocks := B.notSynchronized
  subst hsz
  have hD := hD0.self (sz := s.heap.size)
  generalize hAe : va_A ([(fn_0 cl cur pts nom ohm pol tau chg lft cap thr pz tmp het cun vol bk), (rf_RW ct 0 cur 11 cv), (fn_3 bk cin cou ein eou), (fn_0 ocl ocur opts onom oohm opol otau ochg olft ocap othr opz otmp ohet ocun ovol obk), (rf_RW ct 0 ocur 11 ocv), (fn_3 obk ocin ocou oein oeou)] ++ ws) s.heap.size = A at hD hX ⊢
  have hA : ∀ q : Nat, s.heap.size ≤ q → A q := fun q h => by rw [← hAe]; exact Or.inr h
  have hS : va_S A s.heap s.heap [] := va_S.rf
  have hl := lv_entry ([.ref cl, .ref ocl]) (n := 2) (Nat.le_of_ble_eq_true rfl)
  rw [lg_entry_eq]
  generalize (lg_sl ([.ref cl, .ref ocl]) ++ List.replicate (2 - (lg_sl ([.ref cl, .ref ocl])).length) Slot.unset).toArray = ls at hl ⊢
  have hl : lv_has ls 2 [(0, .ref cl), (1, .ref ocl)] := hl
  refine lv_aload_n hx hb dX0_copyFrom_0 rfl (lv_at hl 1 rfl) ?_
  refine va_get (v := .ref ocur) (D := D) (ci := 0) (C := RX0) (T := TX0) (N := 16) hx hb hts in_X0 hown hK hP 3 rfl rfl 0 (by decide) (hts _ kl_RX0_9) (fun _ h9 => h9) rfl dX0_copyFrom_1 ?_
  refine lv_aload_n hx hb dX0_copyFrom_4 rfl (lv_at hl 0 rfl) ?_
  refine va_get (v := .ref cur) (D := D) (ci := 0) (C := RX0) (T := TX0) (N := 16) hx hb hts in_X0 hown hK hP 0 rfl rfl 0 (by decide) (hts _ kl_RX0_9) (fun _ h9 => h9) rfl dX0_copyFrom_5 ?_
  obtain ⟨hP, hD⟩ := ty_opPD (E1 := [(fn_0 cl cur pts nom ohm pol tau chg lft cap thr pz tmp het cun vol bk), (fn_3 bk cin cou ein eou), (fn_0 ocl ocur opts onom oohm opol otau ochg olft ocap othr opz otmp ohet ocun ovol obk), (fn_3 obk ocin ocou oein oeou)]) (E2 := [(rf_RW ct 0 ocur 11 ocv), (rf_RW ct 0 cur 11 cv)]) (n := 6) [0, 2, 3, 5, 4, 1] hP hD rfl rfl (by decide +kernel) ty_mv2
  refine ty_Kv hP hD hS hA (va_runSN (As := [.ref ocur, .ref cur]) (rest := []) ⟨hx, hb, hml, hown, hts⟩ (r_X10_copyRow_11 l D ct (fun _ => none) [] (fun _ => True) (fun _ _ _ => True) ocur ocv cur cv _ ty_V0 ty_C0 ty_y10) (cm_SN 2 hts kc_X10_copyRow ki_RX10 kl_RX0_164 ks_X10_copyRow kd_X10_copyRow ⟨Nat.le_of_ble_eq_true rfl, Nat.le_of_ble_eq_true rfl⟩) (ty_preS hP hK hD hS hA hX) rfl rfl hl.1 rfl (lv_room (Nat.le_of_ble_eq_true rfl)) dX0_copyFrom_8 ⟨Nat.le_of_ble_eq_true rfl, Nat.le_of_ble_eq_true rfl⟩) (fun u H locs hw_2 hP hD hS => ?_)
  obtain ⟨ws_3, rfl⟩ : ∃ z, z = u := ⟨_, rfl⟩
  have hT9_4 := hw_2
  obtain ⟨hP, hD⟩ := ty_bkPD (E := [(fn_0 cl cur pts nom ohm pol tau chg lft cap thr pz tmp het cun vol bk), (fn_3 bk cin cou ein eou), (fn_0 ocl ocur opts onom oohm opol otau ochg olft ocap othr opz otmp ohet ocun ovol obk), (fn_3 obk ocin ocou oein oeou), (rf_RW ct 0 ocur 11 ocv), (rf_RW ct 0 cur 11 (cm_cpy 11 ocv cv))]) hP hD rfl
  refine lv_aload_n hx hb dX0_copyFrom_11 rfl (lv_at hl 0 rfl) ?_
  refine lv_aload_n hx hb dX0_copyFrom_12 rfl (lv_at hl 1 rfl) ?_
  refine va_get (v := .int opts) (D := D) (ci := 0) (C := RX0) (T := TX0) (N := 16) hx hb hts in_X0 hown hK hP 2 rfl rfl 1 (by decide) (hts _ kl_RX0_31) (fun _ h9 => h9) rfl dX0_copyFrom_13 ?_
  refine va_put (v := .int opts) (ty := .int) (D := D) (ci := 0) (C := RX0) (T := TX0) (N := 16) hx hb hts in_X0 tyX0 tyX0_ok nmX0 hown hK hP hD hS 0 rfl rfl 1 (by decide) (hts _ kl_RX0_31) (fun _ h9 => h9) rfl (by decide +kernel) rfl rfl (Nat.le_of_ble_eq_true rfl) dX0_copyFrom_16 (fun H locs hP hD hS => ?_)
  have hP : va_P D vwCl ([(fn_0 cl cur opts nom ohm pol tau chg lft cap thr pz tmp het cun vol bk), (fn_3 bk cin cou ein eou), (fn_0 ocl ocur opts onom oohm opol otau ochg olft ocap othr opz otmp ohet ocun ovol obk), (fn_3 obk ocin ocou oein oeou), (rf_RW ct 0 ocur 11 ocv), (rf_RW ct 0 cur 11 (cm_cpy 11 ocv cv))] ++ ws) H := hP
  have hD : va_D A ([(fn_0 cl cur opts nom ohm pol tau chg lft cap thr pz tmp het cun vol bk), (fn_3 bk cin cou ein eou), (fn_0 ocl ocur opts onom oohm opol otau ochg olft ocap othr opz otmp ohet ocun ovol obk), (fn_3 obk ocin ocou oein oeou), (rf_RW ct 0 ocur 11 ocv), (rf_RW ct 0 cur 11 (cm_cpy 11 ocv cv))] ++ ws) := hD
  refine lv_aload_n hx hb dX0_copyFrom_19 rfl (lv_at hl 0 rfl) ?_
  refine lv_aload_n hx hb dX0_copyFrom_20 rfl (lv_at hl 1 rfl) ?_
  refine va_get (v := .int onom) (D := D) (ci := 0) (C := RX0) (T := TX0) (N := 16) hx hb hts in_X0 hown hK hP 2 rfl rfl 2 (by decide) (hts _ kl_RX0_48) (fun _ h9 => h9) rfl dX0_copyFrom_21 ?_
  refine va_put (v := .int onom) (ty := .int) (D := D) (ci := 0) (C := RX0) (T := TX0) (N := 16) hx hb hts in_X0 tyX0 tyX0_ok nmX0 hown hK hP hD hS 0 rfl rfl 2 (by decide) (hts _ kl_RX0_48) (fun _ h9 => h9) rfl (by decide +kernel) rfl rfl (Nat.le_of_ble_eq_true rfl) dX0_copyFrom_24 (fun H locs hP hD hS => ?_)
  have hP : va_P D vwCl ([(fn_0 cl cur opts onom ohm pol tau chg lft cap thr pz tmp het cun vol bk), (fn_3 bk cin cou ein eou), (fn_0 ocl ocur opts onom oohm opol otau ochg olft ocap othr opz otmp ohet ocun ovol obk), (fn_3 obk ocin ocou oein oeou), (rf_RW ct 0 ocur 11 ocv), (rf_RW ct 0 cur 11 (cm_cpy 11 ocv cv))] ++ ws) H := hP
  have hD : va_D A ([(fn_0 cl cur opts onom ohm pol tau chg lft cap thr pz tmp het cun vol bk), (fn_3 bk cin cou ein eou), (fn_0 ocl ocur opts onom oohm opol otau ochg olft ocap othr opz otmp ohet ocun ovol obk), (fn_3 obk ocin ocou oein oeou), (rf_RW ct 0 ocur 11 ocv), (rf_RW ct 0 cur 11 (cm_cpy 11 ocv cv))] ++ ws) := hD
  refine lv_aload_n hx hb dX0_copyFrom_27 rfl (lv_at hl 0 rfl) ?_
  refine lv_aload_n hx hb dX0_copyFrom_28 rfl (lv_at hl 1 rfl) ?_
  refine va_get (v := .int oohm) (D := D) (ci := 0) (C := RX0) (T := TX0) (N := 16) hx hb hts in_X0 hown hK hP 2 rfl rfl 3 (by decide) (hts _ kl_RX0_90) (fun _ h9 => h9) rfl dX0_copyFrom_29 ?_
  refine va_put (v := .int oohm) (ty := .int) (D := D) (ci := 0) (C := RX0) (T := TX0) (N := 16) hx hb hts in_X0 tyX0 tyX0_ok nmX0 hown hK hP hD hS 0 rfl rfl 3 (by decide) (hts _ kl_RX0_90) (fun _ h9 => h9) rfl (by decide +kernel) rfl rfl (Nat.le_of_ble_eq_true rfl) dX0_copyFrom_32 (fun H locs hP hD hS => ?_)
  have hP : va_P D vwCl ([(fn_0 cl cur opts onom oohm pol tau chg lft cap thr pz tmp het cun vol bk), (fn_3 bk cin cou ein eou), (fn_0 ocl ocur opts onom oohm opol otau ochg olft ocap othr opz otmp ohet ocun ovol obk), (fn_3 obk ocin ocou oein oeou), (rf_RW ct 0 ocur 11 ocv), (rf_RW ct 0 cur 11 (cm_cpy 11 ocv cv))] ++ ws) H := hP
  have hD : va_D A ([(fn_0 cl cur opts onom oohm pol tau chg lft cap thr pz tmp het cun vol bk), (fn_3 bk cin cou ein eou), (fn_0 ocl ocur opts onom oohm opol otau ochg olft ocap othr opz otmp ohet ocun ovol obk), (fn_3 obk ocin ocou oein oeou), (rf_RW ct 0 ocur 11 ocv), (rf_RW ct 0 cur 11 (cm_cpy 11 ocv cv))] ++ ws) := hD
  refine lv_aload_n hx hb dX0_copyFrom_35 rfl (lv_at hl 0 rfl) ?_
  refine lv_aload_n hx hb dX0_copyFrom_36 rfl (lv_at hl 1 rfl) ?_
  refine va_get (v := .int opol) (D := D) (ci := 0) (C := RX0) (T := TX0) (N := 16) hx hb hts in_X0 hown hK hP 2 rfl rfl 4 (by decide) (hts _ kl_RX0_129) (fun _ h9 => h9) rfl dX0_copyFrom_37 ?_
  refine va_put (v := .int opol) (ty := .int) (D := D) (ci := 0) (C := RX0) (T := TX0) (N := 16) hx hb hts in_X0 tyX0 tyX0_ok nmX0 hown hK hP hD hS 0 rfl rfl 4 (by decide) (hts _ kl_RX0_129) (fun _ h9 => h9) rfl (by decide +kernel) rfl rfl (Nat.le_of_ble_eq_true rfl) dX0_copyFrom_40 (fun H locs hP hD hS => ?_)
  have hP : va_P D vwCl ([(fn_0 cl cur opts onom oohm opol tau chg lft cap thr pz tmp het cun vol bk), (fn_3 bk cin cou ein eou), (fn_0 ocl ocur opts onom oohm opol otau ochg olft ocap othr opz otmp ohet ocun ovol obk), (fn_3 obk ocin ocou oein oeou), (rf_RW ct 0 ocur 11 ocv), (rf_RW ct 0 cur 11 (cm_cpy 11 ocv cv))] ++ ws) H := hP
  have hD : va_D A ([(fn_0 cl cur opts onom oohm opol tau chg lft cap thr pz tmp het cun vol bk), (fn_3 bk cin cou ein eou), (fn_0 ocl ocur opts onom oohm opol otau ochg olft ocap othr opz otmp ohet ocun ovol obk), (fn_3 obk ocin ocou oein oeou), (rf_RW ct 0 ocur 11 ocv), (rf_RW ct 0 cur 11 (cm_cpy 11 ocv cv))] ++ ws) := hD
  refine lv_aload_n hx hb dX0_copyFrom_43 rfl (lv_at hl 0 rfl) ?_
  refine lv_aload_n hx hb dX0_copyFrom_44 rfl (lv_at hl 1 rfl) ?_
  refine va_get (v := .int otau) (D := D) (ci := 0) (C := RX0) (T := TX0) (N := 16) hx hb hts in_X0 hown hK hP 2 rfl rfl 5 (by decide) (hts _ kl_RX0_132) (fun _ h9 => h9) rfl dX0_copyFrom_45 ?_
  refine va_put (v := .int otau) (ty := .int) (D := D) (ci := 0) (C := RX0) (T := TX0) (N := 16) hx hb hts in_X0 tyX0 tyX0_ok nmX0 hown hK hP hD hS 0 rfl rfl 5 (by decide) (hts _ kl_RX0_132) (fun _ h9 => h9) rfl (by decide +kernel) rfl rfl (Nat.le_of_ble_eq_true rfl) dX0_copyFrom_48 (fun H locs hP hD hS => ?_)
  have hP : va_P D vwCl ([(fn_0 cl cur opts onom oohm opol otau chg lft cap thr pz tmp het cun vol bk), (fn_3 bk cin cou ein eou), (fn_0 ocl ocur opts onom oohm opol otau ochg olft ocap othr opz otmp ohet ocun ovol obk), (fn_3 obk ocin ocou oein oeou), (rf_RW ct 0 ocur 11 ocv), (rf_RW ct 0 cur 11 (cm_cpy 11 ocv cv))] ++ ws) H := hP
  have hD : va_D A ([(fn_0 cl cur opts onom oohm opol otau chg lft cap thr pz tmp het cun vol bk), (fn_3 bk cin cou ein eou), (fn_0 ocl ocur opts onom oohm opol otau ochg olft ocap othr opz otmp ohet ocun ovol obk), (fn_3 obk ocin ocou oein oeou), (rf_RW ct 0 ocur 11 ocv), (rf_RW ct 0 cur 11 (cm_cpy 11 ocv cv))] ++ ws) := hD
  refine lv_aload_n hx hb dX0_copyFrom_51 rfl (lv_at hl 0 rfl) ?_
  refine lv_aload_n hx hb dX0_copyFrom_52 rfl (lv_at hl 1 rfl) ?_
  refine va_get (v := .int ochg) (D := D) (ci := 0) (C := RX0) (T := TX0) (N := 16) hx hb hts in_X0 hown hK hP 2 rfl rfl 6 (by decide) (hts _ kl_RX0_42) (fun _ h9 => h9) rfl dX0_copyFrom_53 ?_
  refine va_put (v := .int ochg) (ty := .int) (D := D) (ci := 0) (C := RX0) (T := TX0) (N := 16) hx hb hts in_X0 tyX0 tyX0_ok nmX0 hown hK hP hD hS 0 rfl rfl 6 (by decide) (hts _ kl_RX0_42) (fun _ h9 => h9) rfl (by decide +kernel) rfl rfl (Nat.le_of_ble_eq_true rfl) dX0_copyFrom_56 (fun H locs hP hD hS => ?_)
  have hP : va_P D vwCl ([(fn_0 cl cur opts onom oohm opol otau ochg lft cap thr pz tmp het cun vol bk), (fn_3 bk cin cou ein eou), (fn_0 ocl ocur opts onom oohm opol otau ochg olft ocap othr opz otmp ohet ocun ovol obk), (fn_3 obk ocin ocou oein oeou), (rf_RW ct 0 ocur 11 ocv), (rf_RW ct 0 cur 11 (cm_cpy 11 ocv cv))] ++ ws) H := hP
  have hD : va_D A ([(fn_0 cl cur opts onom oohm opol otau ochg lft cap thr pz tmp het cun vol bk), (fn_3 bk cin cou ein eou), (fn_0 ocl ocur opts onom oohm opol otau ochg olft ocap othr opz otmp ohet ocun ovol obk), (fn_3 obk ocin ocou oein oeou), (rf_RW ct 0 ocur 11 ocv), (rf_RW ct 0 cur 11 (cm_cpy 11 ocv cv))] ++ ws) := hD
  refine lv_aload_n hx hb dX0_copyFrom_59 rfl (lv_at hl 0 rfl) ?_
  refine lv_aload_n hx hb dX0_copyFrom_60 rfl (lv_at hl 1 rfl) ?_
  refine va_get (v := .int olft) (D := D) (ci := 0) (C := RX0) (T := TX0) (N := 16) hx hb hts in_X0 hown hK hP 2 rfl rfl 7 (by decide) (hts _ kl_RX0_45) (fun _ h9 => h9) rfl dX0_copyFrom_61 ?_
  refine va_put (v := .int olft) (ty := .int) (D := D) (ci := 0) (C := RX0) (T := TX0) (N := 16) hx hb hts in_X0 tyX0 tyX0_ok nmX0 hown hK hP hD hS 0 rfl rfl 7 (by decide) (hts _ kl_RX0_45) (fun _ h9 => h9) rfl (by decide +kernel) rfl rfl (Nat.le_of_ble_eq_true rfl) dX0_copyFrom_64 (fun H locs hP hD hS => ?_)
  have hP : va_P D vwCl ([(fn_0 cl cur opts onom oohm opol otau ochg olft cap thr pz tmp het cun vol bk), (fn_3 bk cin cou ein eou), (fn_0 ocl ocur opts onom oohm opol otau ochg olft ocap othr opz otmp ohet ocun ovol obk), (fn_3 obk ocin ocou oein oeou), (rf_RW ct 0 ocur 11 ocv), (rf_RW ct 0 cur 11 (cm_cpy 11 ocv cv))] ++ ws) H := hP
  have hD : va_D A ([(fn_0 cl cur opts onom oohm opol otau ochg olft cap thr pz tmp het cun vol bk), (fn_3 bk cin cou ein eou), (fn_0 ocl ocur opts onom oohm opol otau ochg olft ocap othr opz otmp ohet ocun ovol obk), (fn_3 obk ocin ocou oein oeou), (rf_RW ct 0 ocur 11 ocv), (rf_RW ct 0 cur 11 (cm_cpy 11 ocv cv))] ++ ws) := hD
  refine lv_aload_n hx hb dX0_copyFrom_67 rfl (lv_at hl 0 rfl) ?_
  refine lv_aload_n hx hb dX0_copyFrom_68 rfl (lv_at hl 1 rfl) ?_
  refine va_get (v := .int ocap) (D := D) (ci := 0) (C := RX0) (T := TX0) (N := 16) hx hb hts in_X0 hown hK hP 2 rfl rfl 8 (by decide) (hts _ kl_RX0_51) (fun _ h9 => h9) rfl dX0_copyFrom_69 ?_
  refine va_put (v := .int ocap) (ty := .int) (D := D) (ci := 0) (C := RX0) (T := TX0) (N := 16) hx hb hts in_X0 tyX0 tyX0_ok nmX0 hown hK hP hD hS 0 rfl rfl 8 (by decide) (hts _ kl_RX0_51) (fun _ h9 => h9) rfl (by decide +kernel) rfl rfl (Nat.le_of_ble_eq_true rfl) dX0_copyFrom_72 (fun H locs hP hD hS => ?_)
  have hP : va_P D vwCl ([(fn_0 cl cur opts onom oohm opol otau ochg olft ocap thr pz tmp het cun vol bk), (fn_3 bk cin cou ein eou), (fn_0 ocl ocur opts onom oohm opol otau ochg olft ocap othr opz otmp ohet ocun ovol obk), (fn_3 obk ocin ocou oein oeou), (rf_RW ct 0 ocur 11 ocv), (rf_RW ct 0 cur 11 (cm_cpy 11 ocv cv))] ++ ws) H := hP
  have hD : va_D A ([(fn_0 cl cur opts onom oohm opol otau ochg olft ocap thr pz tmp het cun vol bk), (fn_3 bk cin cou ein eou), (fn_0 ocl ocur opts onom oohm opol otau ochg olft ocap othr opz otmp ohet ocun ovol obk), (fn_3 obk ocin ocou oein oeou), (rf_RW ct 0 ocur 11 ocv), (rf_RW ct 0 cur 11 (cm_cpy 11 ocv cv))] ++ ws) := hD
  refine lv_aload_n hx hb dX0_copyFrom_75 rfl (lv_at hl 0 rfl) ?_
  refine lv_aload_n hx hb dX0_copyFrom_76 rfl (lv_at hl 1 rfl) ?_
  refine va_get (v := .int othr) (D := D) (ci := 0) (C := RX0) (T := TX0) (N := 16) hx hb hts in_X0 hown hK hP 2 rfl rfl 9 (by decide) (hts _ kl_RX0_54) (fun _ h9 => h9) rfl dX0_copyFrom_77 ?_
  refine va_put (v := .int othr) (ty := .int) (D := D) (ci := 0) (C := RX0) (T := TX0) (N := 16) hx hb hts in_X0 tyX0 tyX0_ok nmX0 hown hK hP hD hS 0 rfl rfl 9 (by decide) (hts _ kl_RX0_54) (fun _ h9 => h9) rfl (by decide +kernel) rfl rfl (Nat.le_of_ble_eq_true rfl) dX0_copyFrom_80 (fun H locs hP hD hS => ?_)
  have hP : va_P D vwCl ([(fn_0 cl cur opts onom oohm opol otau ochg olft ocap othr pz tmp het cun vol bk), (fn_3 bk cin cou ein eou), (fn_0 ocl ocur opts onom oohm opol otau ochg olft ocap othr opz otmp ohet ocun ovol obk), (fn_3 obk ocin ocou oein oeou), (rf_RW ct 0 ocur 11 ocv), (rf_RW ct 0 cur 11 (cm_cpy 11 ocv cv))] ++ ws) H := hP
  have hD : va_D A ([(fn_0 cl cur opts onom oohm opol otau ochg olft ocap othr pz tmp het cun vol bk), (fn_3 bk cin cou ein eou), (fn_0 ocl ocur opts onom oohm opol otau ochg olft ocap othr opz otmp ohet ocun ovol obk), (fn_3 obk ocin ocou oein oeou), (rf_RW ct 0 ocur 11 ocv), (rf_RW ct 0 cur 11 (cm_cpy 11 ocv cv))] ++ ws) := hD
  refine lv_aload_n hx hb dX0_copyFrom_83 rfl (lv_at hl 0 rfl) ?_
  refine lv_aload_n hx hb dX0_copyFrom_84 rfl (lv_at hl 1 rfl) ?_
  refine va_get (v := .int opz) (D := D) (ci := 0) (C := RX0) (T := TX0) (N := 16) hx hb hts in_X0 hown hK hP 2 rfl rfl 10 (by decide) (hts _ kl_RX0_57) (fun _ h9 => h9) rfl dX0_copyFrom_85 ?_
  refine va_put (v := .int opz) (ty := .int) (D := D) (ci := 0) (C := RX0) (T := TX0) (N := 16) hx hb hts in_X0 tyX0 tyX0_ok nmX0 hown hK hP hD hS 0 rfl rfl 10 (by decide) (hts _ kl_RX0_57) (fun _ h9 => h9) rfl (by decide +kernel) rfl rfl (Nat.le_of_ble_eq_true rfl) dX0_copyFrom_88 (fun H locs hP hD hS => ?_)
  have hP : va_P D vwCl ([(fn_0 cl cur opts onom oohm opol otau ochg olft ocap othr opz tmp het cun vol bk), (fn_3 bk cin cou ein eou), (fn_0 ocl ocur opts onom oohm opol otau ochg olft ocap othr opz otmp ohet ocun ovol obk), (fn_3 obk ocin ocou oein oeou), (rf_RW ct 0 ocur 11 ocv), (rf_RW ct 0 cur 11 (cm_cpy 11 ocv cv))] ++ ws) H := hP
  have hD : va_D A ([(fn_0 cl cur opts onom oohm opol otau ochg olft ocap othr opz tmp het cun vol bk), (fn_3 bk cin cou ein eou), (fn_0 ocl ocur opts onom oohm opol otau ochg olft ocap othr opz otmp ohet ocun ovol obk), (fn_3 obk ocin ocou oein oeou), (rf_RW ct 0 ocur 11 ocv), (rf_RW ct 0 cur 11 (cm_cpy 11 ocv cv))] ++ ws) := hD
  refine lv_aload_n hx hb dX0_copyFrom_91 rfl (lv_at hl 0 rfl) ?_
  refine lv_aload_n hx hb dX0_copyFrom_92 rfl (lv_at hl 1 rfl) ?_
  refine va_get (v := .int otmp) (D := D) (ci := 0) (C := RX0) (T := TX0) (N := 16) hx hb hts in_X0 hown hK hP 2 rfl rfl 11 (by decide) (hts _ kl_RX0_60) (fun _ h9 => h9) rfl dX0_copyFrom_93 ?_
  refine va_put (v := .int otmp) (ty := .int) (D := D) (ci := 0) (C := RX0) (T := TX0) (N := 16) hx hb hts in_X0 tyX0 tyX0_ok nmX0 hown hK hP hD hS 0 rfl rfl 11 (by decide) (hts _ kl_RX0_60) (fun _ h9 => h9) rfl (by decide +kernel) rfl rfl (Nat.le_of_ble_eq_true rfl) dX0_copyFrom_96 (fun H locs hP hD hS => ?_)
  have hP : va_P D vwCl ([(fn_0 cl cur opts onom oohm opol otau ochg olft ocap othr opz otmp het cun vol bk), (fn_3 bk cin cou ein eou), (fn_0 ocl ocur opts onom oohm opol otau ochg olft ocap othr opz otmp ohet ocun ovol obk), (fn_3 obk ocin ocou oein oeou), (rf_RW ct 0 ocur 11 ocv), (rf_RW ct 0 cur 11 (cm_cpy 11 ocv cv))] ++ ws) H := hP
  have hD : va_D A ([(fn_0 cl cur opts onom oohm opol otau ochg olft ocap othr opz otmp het cun vol bk), (fn_3 bk cin cou ein eou), (fn_0 ocl ocur opts onom oohm opol otau ochg olft ocap othr opz otmp ohet ocun ovol obk), (fn_3 obk ocin ocou oein oeou), (rf_RW ct 0 ocur 11 ocv), (rf_RW ct 0 cur 11 (cm_cpy 11 ocv cv))] ++ ws) := hD
  refine lv_aload_n hx hb dX0_copyFrom_99 rfl (lv_at hl 0 rfl) ?_
  refine lv_aload_n hx hb dX0_copyFrom_100 rfl (lv_at hl 1 rfl) ?_
  refine va_get (v := .int ohet) (D := D) (ci := 0) (C := RX0) (T := TX0) (N := 16) hx hb hts in_X0 hown hK hP 2 rfl rfl 12 (by decide) (hts _ kl_RX0_63) (fun _ h9 => h9) rfl dX0_copyFrom_101 ?_
  refine va_put (v := .int ohet) (ty := .int) (D := D) (ci := 0) (C := RX0) (T := TX0) (N := 16) hx hb hts in_X0 tyX0 tyX0_ok nmX0 hown hK hP hD hS 0 rfl rfl 12 (by decide) (hts _ kl_RX0_63) (fun _ h9 => h9) rfl (by decide +kernel) rfl rfl (Nat.le_of_ble_eq_true rfl) dX0_copyFrom_104 (fun H locs hP hD hS => ?_)
  have hP : va_P D vwCl ([(fn_0 cl cur opts onom oohm opol otau ochg olft ocap othr opz otmp ohet cun vol bk), (fn_3 bk cin cou ein eou), (fn_0 ocl ocur opts onom oohm opol otau ochg olft ocap othr opz otmp ohet ocun ovol obk), (fn_3 obk ocin ocou oein oeou), (rf_RW ct 0 ocur 11 ocv), (rf_RW ct 0 cur 11 (cm_cpy 11 ocv cv))] ++ ws) H := hP
  have hD : va_D A ([(fn_0 cl cur opts onom oohm opol otau ochg olft ocap othr opz otmp ohet cun vol bk), (fn_3 bk cin cou ein eou), (fn_0 ocl ocur opts onom oohm opol otau ochg olft ocap othr opz otmp ohet ocun ovol obk), (fn_3 obk ocin ocou oein oeou), (rf_RW ct 0 ocur 11 ocv), (rf_RW ct 0 cur 11 (cm_cpy 11 ocv cv))] ++ ws) := hD
  refine lv_aload_n hx hb dX0_copyFrom_107 rfl (lv_at hl 0 rfl) ?_
  refine lv_aload_n hx hb dX0_copyFrom_108 rfl (lv_at hl 1 rfl) ?_
  refine va_get (v := .int ocun) (D := D) (ci := 0) (C := RX0) (T := TX0) (N := 16) hx hb hts in_X0 hown hK hP 2 rfl rfl 13 (by decide) (hts _ kl_RX0_66) (fun _ h9 => h9) rfl dX0_copyFrom_109 ?_
  refine va_put (v := .int ocun) (ty := .int) (D := D) (ci := 0) (C := RX0) (T := TX0) (N := 16) hx hb hts in_X0 tyX0 tyX0_ok nmX0 hown hK hP hD hS 0 rfl rfl 13 (by decide) (hts _ kl_RX0_66) (fun _ h9 => h9) rfl (by decide +kernel) rfl rfl (Nat.le_of_ble_eq_true rfl) dX0_copyFrom_112 (fun H locs hP hD hS => ?_)
  have hP : va_P D vwCl ([(fn_0 cl cur opts onom oohm opol otau ochg olft ocap othr opz otmp ohet ocun vol bk), (fn_3 bk cin cou ein eou), (fn_0 ocl ocur opts onom oohm opol otau ochg olft ocap othr opz otmp ohet ocun ovol obk), (fn_3 obk ocin ocou oein oeou), (rf_RW ct 0 ocur 11 ocv), (rf_RW ct 0 cur 11 (cm_cpy 11 ocv cv))] ++ ws) H := hP
  have hD : va_D A ([(fn_0 cl cur opts onom oohm opol otau ochg olft ocap othr opz otmp ohet ocun vol bk), (fn_3 bk cin cou ein eou), (fn_0 ocl ocur opts onom oohm opol otau ochg olft ocap othr opz otmp ohet ocun ovol obk), (fn_3 obk ocin ocou oein oeou), (rf_RW ct 0 ocur 11 ocv), (rf_RW ct 0 cur 11 (cm_cpy 11 ocv cv))] ++ ws) := hD
  refine lv_aload_n hx hb dX0_copyFrom_115 rfl (lv_at hl 0 rfl) ?_
  refine lv_aload_n hx hb dX0_copyFrom_116 rfl (lv_at hl 1 rfl) ?_
  refine va_get (v := .int ovol) (D := D) (ci := 0) (C := RX0) (T := TX0) (N := 16) hx hb hts in_X0 hown hK hP 2 rfl rfl 14 (by decide) (hts _ kl_RX0_69) (fun _ h9 => h9) rfl dX0_copyFrom_117 ?_
  refine va_put (v := .int ovol) (ty := .int) (D := D) (ci := 0) (C := RX0) (T := TX0) (N := 16) hx hb hts in_X0 tyX0 tyX0_ok nmX0 hown hK hP hD hS 0 rfl rfl 14 (by decide) (hts _ kl_RX0_69) (fun _ h9 => h9) rfl (by decide +kernel) rfl rfl (Nat.le_of_ble_eq_true rfl) dX0_copyFrom_120 (fun H locs hP hD hS => ?_)
  have hP : va_P D vwCl ([(fn_0 cl cur opts onom oohm opol otau ochg olft ocap othr opz otmp ohet ocun ovol bk), (fn_3 bk cin cou ein eou), (fn_0 ocl ocur opts onom oohm opol otau ochg olft ocap othr opz otmp ohet ocun ovol obk), (fn_3 obk ocin ocou oein oeou), (rf_RW ct 0 ocur 11 ocv), (rf_RW ct 0 cur 11 (cm_cpy 11 ocv cv))] ++ ws) H := hP
  have hD : va_D A ([(fn_0 cl cur opts onom oohm opol otau ochg olft ocap othr opz otmp ohet ocun ovol bk), (fn_3 bk cin cou ein eou), (fn_0 ocl ocur opts onom oohm opol otau ochg olft ocap othr opz otmp ohet ocun ovol obk), (fn_3 obk ocin ocou oein oeou), (rf_RW ct 0 ocur 11 ocv), (rf_RW ct 0 cur 11 (cm_cpy 11 ocv cv))] ++ ws) := hD
  refine lv_aload_n hx hb dX0_copyFrom_123 rfl (lv_at hl 0 rfl) ?_
  refine va_get (v := .ref bk) (D := D) (ci := 0) (C := RX0) (T := TX0) (N := 16) hx hb hts in_X0 hown hK hP 0 rfl rfl 15 (by decide) (hts _ kl_RX0_18) (fun _ h9 => h9) rfl dX0_copyFrom_124 ?_
  refine lv_aload_n hx hb dX0_copyFrom_127 rfl (lv_at hl 1 rfl) ?_
  refine va_get (v := .ref obk) (D := D) (ci := 0) (C := RX0) (T := TX0) (N := 16) hx hb hts in_X0 hown hK hP 2 rfl rfl 15 (by decide) (hts _ kl_RX0_18) (fun _ h9 => h9) rfl dX0_copyFrom_128 ?_
  obtain ⟨hP, hD⟩ := ty_opPD (E1 := [(fn_0 cl cur opts onom oohm opol otau ochg olft ocap othr opz otmp ohet ocun ovol bk), (fn_0 ocl ocur opts onom oohm opol otau ochg olft ocap othr opz otmp ohet ocun ovol obk), (rf_RW ct 0 ocur 11 ocv), (rf_RW ct 0 cur 11 (cm_cpy 11 ocv cv))]) (E2 := [(fn_3 bk cin cou ein eou), (fn_3 obk ocin ocou oein oeou)]) (n := 6) [0, 2, 4, 5, 1, 3] hP hD rfl rfl (by decide +kernel) ty_mv2
  refine ty_Kv hP hD hS hA (va_runVN (As := [.ref obk]) (rest := []) ⟨hx, hb, hml, hown, hts⟩ (r_X3_copyFrom l D ct (fun _ => none) [] (fun _ => True) (fun _ _ _ => True) bk cin cou ein eou obk ocin ocou oein oeou _ ty_V0 ty_C0 ty_y10) (cm_VN 1 hts kc_X3_copyFrom ki_RX3 kl_RX0_168 kv_X3_copyFrom kx_X3_copyFrom kd_X3_copyFrom ⟨Nat.le_of_ble_eq_true rfl, Nat.le_of_ble_eq_true rfl⟩) (ty_preE (ci := 3) hP hK hD hS hA hX rfl (ty_app (j := 0) rfl)) rfl rfl hl.1 rfl (lv_room (Nat.le_of_ble_eq_true rfl)) dX0_copyFrom_131 ⟨Nat.le_of_ble_eq_true rfl, Nat.le_of_ble_eq_true rfl⟩) (fun u H locs hw_6 hP hD hS => ?_)
  obtain ⟨ws_7, rfl⟩ : ∃ z, z = u := ⟨_, rfl⟩
  have hT9_8 := hw_6
  obtain ⟨hP, hD⟩ := ty_bkPD (E := [(fn_0 cl cur opts onom oohm opol otau ochg olft ocap othr opz otmp ohet ocun ovol bk), (fn_0 ocl ocur opts onom oohm opol otau ochg olft ocap othr opz otmp ohet ocun ovol obk), (rf_RW ct 0 ocur 11 ocv), (rf_RW ct 0 cur 11 (cm_cpy 11 ocv cv)), (fn_3 bk ocin ocou oein oeou), (fn_3 obk ocin ocou oein oeou)]) hP hD rfl
  obtain ⟨hP, hD⟩ := ty_ordPD (E2 := [(fn_0 cl cur opts onom oohm opol otau ochg olft ocap othr opz otmp ohet ocun ovol bk), (rf_RW ct 0 cur 11 (cm_cpy 11 ocv cv)), (fn_3 bk ocin ocou oein oeou), (fn_0 ocl ocur opts onom oohm opol otau ochg olft ocap othr opz otmp ohet ocun ovol obk), (rf_RW ct 0 ocur 11 ocv), (fn_3 obk ocin ocou oein oeou)]) (n := 6) [0, 3, 4, 1, 2, 5] hP hD rfl rfl (by decide +kernel)
  exact W.vret hx hb hr (fun t ht hW => ⟨⟨ws, rfl, hT, by rw [ht]; exact hP, by rw [hAe]; exact hD⟩, hS.F ht⟩) hS.2.2 dX0_copyFrom_134
set_option maxRecDepth 100000 in
set_option maxHeartbeats 4000000 in
theorem r_X4_copyFrom (l : Launch) (D : va_G) (ct : Nat → ClassId) (S : ty_S) (ws : va_W) (ph : va_W → Prop) (xx : Nat → Nat → Nat → Prop) (mt : Nat) (res : Int32) (mca : Int32) (mre : Int32) (trr : Int32) (wfo : Int32) (wct : Int32) (bd : Nat) (fbd : Nat → Int32) (omt : Nat) (ores : Int32) (omca : Int32) (omre : Int32) (otrr : Int32) (owfo : Int32) (owct : Int32) (obd : Nat) (ofbd : Nat → Int32) (sz : Nat) (hT : ty_V ct S ph ws) (hph : ty_C ph xx) (hy1 : ty_y1 xx) : Met l yX4_copyFrom (ws_ yX4_copyFrom cX4_copyFrom 2 none) ({ frames := 2, cells := 0, slots := 0, locals := 101 } : Room) (va_Pc [.ref mt, .ref omt] (cmP D ct sz ([(fn_4 mt res mca mre trr wfo wct bd), (rf_RW ct 0 bd 10 fbd), (fn_4 omt ores omca omre otrr owfo owct obd), (rf_RW ct 0 obd 10 ofbd)] ++ ws))) (va_Qv (fun (u9 : va_W) => ty_V ct S ph u9) (cmB D ([(fn_4 mt res mca mre trr wfo wct bd), (rf_RW ct 0 bd 10 fbd), (fn_4 omt ores omca omre otrr owfo owct obd), (rf_RW ct 0 obd 10 ofbd)] ++ ws) sz (fun (u9 : va_W) => ([(fn_4 mt ores omca omre otrr owfo owct bd), (rf_RW ct 0 bd 10 (cm_cpy 10 ofbd fbd)), (fn_4 omt ores omca omre otrr owfo owct obd), (rf_RW ct 0 obd 10 ofbd)] ++ u9))) (va_A ([(fn_4 mt res mca mre trr wfo wct bd), (rf_RW ct 0 bd 10 fbd), (fn_4 omt ores omca omre otrr owfo owct obd), (rf_RW ct 0 obd 10 ofbd)] ++ ws) sz)) 0 0 (va_A ([(fn_4 mt res mca mre trr wfo wct bd), (rf_RW ct 0 bd 10 fbd), (fn_4 omt ores omca omre otrr owfo owct obd), (rf_RW ct 0 obd 10 ofbd)] ++ ws) sz) := by
  refine Met.ofW (cc := cX4_copyFrom) (maxL := 2) (ret := none) (by decide) rfl ?_
  intro p e s m args below meth c s₁ B hml hv
  obtain ⟨rfl, hsz, hP, hK, hD0, hX⟩ := hv
  have hx := B.exec
  have hb := B.bytes
  have hr := B.returns
  have hts := ws_all (atoms_spec (ws := ws_ yX4_copyFrom cX4_copyFrom 2 none) B.pre)
  have hown : s.vm.findClass RX4 = some m.cls := findClass_of_methodNamed B.named
  have hlocks := B.notSynchronized
  subst hsz
  have hD := hD0.self (sz := s.heap.size)
  generalize hAe : va_A ([(fn_4 mt res mca mre trr wfo wct bd), (rf_RW ct 0 bd 10 fbd), (fn_4 omt ores omca omre otrr owfo owct obd), (rf_RW ct 0 obd 10 ofbd)] ++ ws) s.heap.size = A at hD hX ⊢
  have hA : ∀ q : Nat, s.heap.size ≤ q → A q := fun q h => by rw [← hAe]; exact Or.inr h
  have hS : va_S A s.heap s.heap [] := va_S.rf
  have hl := lv_entry ([.ref mt, .ref omt]) (n := 2) (Nat.le_of_ble_eq_true rfl)
  rw [lg_entry_eq]
  generalize (lg_sl ([.ref mt, .ref omt]) ++ List.replicate (2 - (lg_sl ([.ref mt, .ref omt])).length) Slot.unset).toArray = ls at hl ⊢
  have hl : lv_has ls 2 [(0, .ref mt), (1, .ref omt)] := hl
  refine lv_aload_n hx hb dX4_copyFrom_0 rfl (lv_at hl 0 rfl) ?_
  refine lv_aload_n hx hb dX4_copyFrom_1 rfl (lv_at hl 1 rfl) ?_
  refine va_get (v := .int ores) (D := D) (ci := 4) (C := RX4) (T := TX4) (N := 7) hx hb hts in_X4 hown hK hP 2 rfl rfl 0 (by decide) (hts _ kl_RX4_15) (fun _ h9 => h9) rfl dX4_copyFrom_2 ?_
  refine va_put (v := .int ores) (ty := .int) (D := D) (ci := 4) (C := RX4) (T := TX4) (N := 7) hx hb hts in_X4 tyX4 tyX4_ok nmX4 hown hK hP hD hS 0 rfl rfl 0 (by decide) (hts _ kl_RX4_15) (fun _ h9 => h9) rfl (by decide +kernel) rfl rfl (Nat.le_of_ble_eq_true rfl) dX4_copyFrom_5 (fun H locs hP hD hS => ?_)
  have hP : va_P D vwCl ([(fn_4 mt ores mca mre trr wfo wct bd), (rf_RW ct 0 bd 10 fbd), (fn_4 omt ores omca omre otrr owfo owct obd), (rf_RW ct 0 obd 10 ofbd)] ++ ws) H := hP
  have hD : va_D A ([(fn_4 mt ores mca mre trr wfo wct bd), (rf_RW ct 0 bd 10 fbd), (fn_4 omt ores omca omre otrr owfo owct obd), (rf_RW ct 0 obd 10 ofbd)] ++ ws) := hD
  refine lv_aload_n hx hb dX4_copyFrom_8 rfl (lv_at hl 0 rfl) ?_
  refine lv_aload_n hx hb dX4_copyFrom_9 rfl (lv_at hl 1 rfl) ?_
  refine va_get (v := .int omca) (D := D) (ci := 4) (C := RX4) (T := TX4) (N := 7) hx hb hts in_X4 hown hK hP 2 rfl rfl 1 (by decide) (hts _ kl_RX4_19) (fun _ h9 => h9) rfl dX4_copyFrom_10 ?_
  refine va_put (v := .int omca) (ty := .int) (D := D) (ci := 4) (C := RX4) (T := TX4) (N := 7) hx hb hts in_X4 tyX4 tyX4_ok nmX4 hown hK hP hD hS 0 rfl rfl 1 (by decide) (hts _ kl_RX4_19) (fun _ h9 => h9) rfl (by decide +kernel) rfl rfl (Nat.le_of_ble_eq_true rfl) dX4_copyFrom_13 (fun H locs hP hD hS => ?_)
  have hP : va_P D vwCl ([(fn_4 mt ores omca mre trr wfo wct bd), (rf_RW ct 0 bd 10 fbd), (fn_4 omt ores omca omre otrr owfo owct obd), (rf_RW ct 0 obd 10 ofbd)] ++ ws) H := hP
  have hD : va_D A ([(fn_4 mt ores omca mre trr wfo wct bd), (rf_RW ct 0 bd 10 fbd), (fn_4 omt ores omca omre otrr owfo owct obd), (rf_RW ct 0 obd 10 ofbd)] ++ ws) := hD
  refine lv_aload_n hx hb dX4_copyFrom_16 rfl (lv_at hl 0 rfl) ?_
  refine lv_aload_n hx hb dX4_copyFrom_17 rfl (lv_at hl 1 rfl) ?_
  refine va_get (v := .int omre) (D := D) (ci := 4) (C := RX4) (T := TX4) (N := 7) hx hb hts in_X4 hown hK hP 2 rfl rfl 2 (by decide) (hts _ kl_RX4_22) (fun _ h9 => h9) rfl dX4_copyFrom_18 ?_
  refine va_put (v := .int omre) (ty := .int) (D := D) (ci := 4) (C := RX4) (T := TX4) (N := 7) hx hb hts in_X4 tyX4 tyX4_ok nmX4 hown hK hP hD hS 0 rfl rfl 2 (by decide) (hts _ kl_RX4_22) (fun _ h9 => h9) rfl (by decide +kernel) rfl rfl (Nat.le_of_ble_eq_true rfl) dX4_copyFrom_21 (fun H locs hP hD hS => ?_)
  have hP : va_P D vwCl ([(fn_4 mt ores omca omre trr wfo wct bd), (rf_RW ct 0 bd 10 fbd), (fn_4 omt ores omca omre otrr owfo owct obd), (rf_RW ct 0 obd 10 ofbd)] ++ ws) H := hP
  have hD : va_D A ([(fn_4 mt ores omca omre trr wfo wct bd), (rf_RW ct 0 bd 10 fbd), (fn_4 omt ores omca omre otrr owfo owct obd), (rf_RW ct 0 obd 10 ofbd)] ++ ws) := hD
  refine lv_aload_n hx hb dX4_copyFrom_24 rfl (lv_at hl 0 rfl) ?_
  refine lv_aload_n hx hb dX4_copyFrom_25 rfl (lv_at hl 1 rfl) ?_
  refine va_get (v := .int otrr) (D := D) (ci := 4) (C := RX4) (T := TX4) (N := 7) hx hb hts in_X4 hown hK hP 2 rfl rfl 3 (by decide) (hts _ kl_RX4_25) (fun _ h9 => h9) rfl dX4_copyFrom_26 ?_
  refine va_put (v := .int otrr) (ty := .int) (D := D) (ci := 4) (C := RX4) (T := TX4) (N := 7) hx hb hts in_X4 tyX4 tyX4_ok nmX4 hown hK hP hD hS 0 rfl rfl 3 (by decide) (hts _ kl_RX4_25) (fun _ h9 => h9) rfl (by decide +kernel) rfl rfl (Nat.le_of_ble_eq_true rfl) dX4_copyFrom_29 (fun H locs hP hD hS => ?_)
  have hP : va_P D vwCl ([(fn_4 mt ores omca omre otrr wfo wct bd), (rf_RW ct 0 bd 10 fbd), (fn_4 omt ores omca omre otrr owfo owct obd), (rf_RW ct 0 obd 10 ofbd)] ++ ws) H := hP
  have hD : va_D A ([(fn_4 mt ores omca omre otrr wfo wct bd), (rf_RW ct 0 bd 10 fbd), (fn_4 omt ores omca omre otrr owfo owct obd), (rf_RW ct 0 obd 10 ofbd)] ++ ws) := hD
  refine lv_aload_n hx hb dX4_copyFrom_32 rfl (lv_at hl 0 rfl) ?_
  refine lv_aload_n hx hb dX4_copyFrom_33 rfl (lv_at hl 1 rfl) ?_
  refine va_get (v := .int owfo) (D := D) (ci := 4) (C := RX4) (T := TX4) (N := 7) hx hb hts in_X4 hown hK hP 2 rfl rfl 4 (by decide) (hts _ kl_RX4_28) (fun _ h9 => h9) rfl dX4_copyFrom_34 ?_
  refine va_put (v := .int owfo) (ty := .int) (D := D) (ci := 4) (C := RX4) (T := TX4) (N := 7) hx hb hts in_X4 tyX4 tyX4_ok nmX4 hown hK hP hD hS 0 rfl rfl 4 (by decide) (hts _ kl_RX4_28) (fun _ h9 => h9) rfl (by decide +kernel) rfl rfl (Nat.le_of_ble_eq_true rfl) dX4_copyFrom_37 (fun H locs hP hD hS => ?_)
  have hP : va_P D vwCl ([(fn_4 mt ores omca omre otrr owfo wct bd), (rf_RW ct 0 bd 10 fbd), (fn_4 omt ores omca omre otrr owfo owct obd), (rf_RW ct 0 obd 10 ofbd)] ++ ws) H := hP
  have hD : va_D A ([(fn_4 mt ores omca omre otrr owfo wct bd), (rf_RW ct 0 bd 10 fbd), (fn_4 omt ores omca omre otrr owfo owct obd), (rf_RW ct 0 obd 10 ofbd)] ++ ws) := hD
  refine lv_aload_n hx hb dX4_copyFrom_40 rfl (lv_at hl 0 rfl) ?_
  refine lv_aload_n hx hb dX4_copyFrom_41 rfl (lv_at hl 1 rfl) ?_
  refine va_get (v := .int owct) (D := D) (ci := 4) (C := RX4) (T := TX4) (N := 7) hx hb hts in_X4 hown hK hP 2 rfl rfl 5 (by decide) (hts _ kl_RX4_31) (fun _ h9 => h9) rfl dX4_copyFrom_42 ?_
  refine va_put (v := .int owct) (ty := .int) (D := D) (ci := 4) (C := RX4) (T := TX4) (N := 7) hx hb hts in_X4 tyX4 tyX4_ok nmX4 hown hK hP hD hS 0 rfl rfl 5 (by decide) (hts _ kl_RX4_31) (fun _ h9 => h9) rfl (by decide +kernel) rfl rfl (Nat.le_of_ble_eq_true rfl) dX4_copyFrom_45 (fun H locs hP hD hS => ?_)
  have hP : va_P D vwCl ([(fn_4 mt ores omca omre otrr owfo owct bd), (rf_RW ct 0 bd 10 fbd), (fn_4 omt ores omca omre otrr owfo owct obd), (rf_RW ct 0 obd 10 ofbd)] ++ ws) H := hP
  have hD : va_D A ([(fn_4 mt ores omca omre otrr owfo owct bd), (rf_RW ct 0 bd 10 fbd), (fn_4 omt ores omca omre otrr owfo owct obd), (rf_RW ct 0 obd 10 ofbd)] ++ ws) := hD
  refine lv_aload_n hx hb dX4_copyFrom_48 rfl (lv_at hl 1 rfl) ?_
  refine va_get (v := .ref obd) (D := D) (ci := 4) (C := RX4) (T := TX4) (N := 7) hx hb hts in_X4 hown hK hP 2 rfl rfl 6 (by decide) (hts _ kl_RX4_9) (fun _ h9 => h9) rfl dX4_copyFrom_49 ?_
  refine lv_aload_n hx hb dX4_copyFrom_52 rfl (lv_at hl 0 rfl) ?_
  refine va_get (v := .ref bd) (D := D) (ci := 4) (C := RX4) (T := TX4) (N := 7) hx hb hts in_X4 hown hK hP 0 rfl rfl 6 (by decide) (hts _ kl_RX4_9) (fun _ h9 => h9) rfl dX4_copyFrom_53 ?_
  obtain ⟨hP, hD⟩ := ty_opPD (E1 := [(fn_4 mt ores omca omre otrr owfo owct bd), (fn_4 omt ores omca omre otrr owfo owct obd)]) (E2 := [(rf_RW ct 0 obd 10 ofbd), (rf_RW ct 0 bd 10 fbd)]) (n := 4) [0, 2, 3, 1] hP hD rfl rfl (by decide +kernel) ty_mv2
  refine ty_Kv hP hD hS hA (va_runSN (As := [.ref obd, .ref bd]) (rest := []) ⟨hx, hb, hml, hown, hts⟩ (r_X10_copyRow_10 l D ct (fun _ => none) [] (fun _ => True) (fun _ _ _ => True) obd ofbd bd fbd _ ty_V0 ty_C0 ty_y10) (cm_SN 2 hts kc_X10_copyRow ki_RX10 kl_RX4_52 ks_X10_copyRow kd_X10_copyRow ⟨Nat.le_of_ble_eq_true rfl, Nat.le_of_ble_eq_true rfl⟩) (ty_preS hP hK hD hS hA hX) rfl rfl hl.1 rfl (lv_room (Nat.le_of_ble_eq_true rfl)) dX4_copyFrom_56 ⟨Nat.le_of_ble_eq_true rfl, Nat.le_of_ble_eq_true rfl⟩) (fun u H locs hw_2 hP hD hS => ?_)
  obtain ⟨ws_3, rfl⟩ : ∃ z, z = u := ⟨_, rfl⟩
  have hT9_4 := hw_2
  obtain ⟨hP, hD⟩ := ty_bkPD (E := [(fn_4 mt ores omca omre otrr owfo owct bd), (fn_4 omt ores omca omre otrr owfo owct obd), (rf_RW ct 0 obd 10 ofbd), (rf_RW ct 0 bd 10 (cm_cpy 10 ofbd fbd))]) hP hD rfl
  obtain ⟨hP, hD⟩ := ty_ordPD (E2 := [(fn_4 mt ores omca omre otrr owfo owct bd), (rf_RW ct 0 bd 10 (cm_cpy 10 ofbd fbd)), (fn_4 omt ores omca omre otrr owfo owct obd), (rf_RW ct 0 obd 10 ofbd)]) (n := 4) [0, 3, 1, 2] hP hD rfl rfl (by decide +kernel)
  exact W.vret hx hb hr (fun t ht hW => ⟨⟨ws, rfl, hT, by rw [ht]; exact hP, by rw [hAe]; exact hD⟩, hS.F ht⟩) hS.2.2 dX4_copyFrom_59
theorem a_zno {x : Int32} (h : a_nb x) : narrow .boolean (.int x) = .int x := by
  have h2 : narrow .boolean (.int x) = .int (vp_nar .boolean x) := rfl
  rw [h2, show vp_nar .boolean x = x from h]
theorem a_zfo {x : Int32} (h : a_nb x) : fits .boolean (.int x) = true := by
  have h2 := fits_narrow_boolean x
  rwa [a_zno h] at h2
set_option maxRecDepth 100000 in
set_option maxHeartbeats 4000000 in
theorem r_X1_copyFrom (l : Launch) (D : va_G) (ct : Nat → ClassId) (S : ty_S) (ws : va_W) (ph : va_W → Prop) (xx : Nat → Nat → Nat → Prop) (ch : Nat) (idx : Int32) (cl : Nat) (mt : Nat) (sta : Int32) (prg : Int32) (stp : Int32) (las : Int32) (tb : Nat) (qu : Nat) (wai : Int32) (bin : Int64) (bou : Int64) (hel : Int32) (sbo : Int64) (cur : Nat) (pts : Int32) (nom : Int32) (ohm : Int32) (pol : Int32) (tau : Int32) (chg : Int32) (lft : Int32) (cap : Int32) (thr : Int32) (pz : Int32) (tmp : Int32) (het : Int32) (cun : Int32) (vol : Int32) (bk : Nat) (cv : Nat → Int32) (cin : Int64) (cou : Int64) (ein : Int64) (eou : Int64) (res : Int32) (mca : Int32) (mre : Int32) (trr : Int32) (wfo : Int32) (wct : Int32) (bd : Nat) (fbd : Nat → Int32) (ftb : Nat → Int32) (fqu : Nat → Int32) (och : Nat) (oidx : Int32) (ocl : Nat) (omt : Nat) (osta : Int32) (oprg : Int32) (ostp : Int32) (olas : Int32) (otb : Nat) (oqu : Nat) (owai : Int32) (obin : Int64) (obou : Int64) (ohel : Int32) (osbo : Int64) (ocur : Nat) (opts : Int32) (onom : Int32) (oohm : Int32) (opol : Int32) (otau : Int32) (ochg : Int32) (olft : Int32) (ocap : Int32) (othr : Int32) (opz : Int32) (otmp : Int32) (ohet : Int32) (ocun : Int32) (ovol : Int32) (obk : Nat) (ocv : Nat → Int32) (ocin : Int64) (ocou : Int64) (oein : Int64) (oeou : Int64) (ores : Int32) (omca : Int32) (omre : Int32) (otrr : Int32) (owfo : Int32) (owct : Int32) (obd : Nat) (ofbd : Nat → Int32) (oftb : Nat → Int32) (ofqu : Nat → Int32) (sz : Nat) (hT : ty_V ct S ph ws) (hph : ty_C ph xx) (hy1 : ty_y1 xx) (hzo : a_nb ohel) : Met l yX1_copyFrom (ws_ yX1_copyFrom cX1_copyFrom 2 none) ({ frames := 3, cells := 0, slots := 0, locals := 122 } : Room) (va_Pc [.ref ch, .ref och] (cmP D ct sz ([(fn_1 ch idx cl mt sta prg stp las tb qu wai bin bou hel sbo), (fn_0 cl cur pts nom ohm pol tau chg lft cap thr pz tmp het cun vol bk), (rf_RW ct 0 cur 11 cv), (fn_3 bk cin cou ein eou), (fn_4 mt res mca mre trr wfo wct bd), (rf_RW ct 0 bd 10 fbd), (rf_RW ct 0 tb 12 ftb), (rf_RW ct 0 qu 4 fqu), (fn_1 och oidx ocl omt osta oprg ostp olas otb oqu owai obin obou ohel osbo), (fn_0 ocl ocur opts onom oohm opol otau ochg olft ocap othr opz otmp ohet ocun ovol obk), (rf_RW ct 0 ocur 11 ocv), (fn_3 obk ocin ocou oein oeou), (fn_4 omt ores omca omre otrr owfo owct obd), (rf_RW ct 0 obd 10 ofbd), (rf_RW ct 0 otb 12 oftb), (rf_RW ct 0 oqu 4 ofqu)] ++ ws))) (va_Qv (fun (u9 : va_W) => ty_V ct S ph u9) (cmB D ([(fn_1 ch idx cl mt sta prg stp las tb qu wai bin bou hel sbo), (fn_0 cl cur pts nom ohm pol tau chg lft cap thr pz tmp het cun vol bk), (rf_RW ct 0 cur 11 cv), (fn_3 bk cin cou ein eou), (fn_4 mt res mca mre trr wfo wct bd), (rf_RW ct 0 bd 10 fbd), (rf_RW ct 0 tb 12 ftb), (rf_RW ct 0 qu 4 fqu), (fn_1 och oidx ocl omt osta oprg ostp olas otb oqu owai obin obou ohel osbo), (fn_0 ocl ocur opts onom oohm opol otau ochg olft ocap othr opz otmp ohet ocun ovol obk), (rf_RW ct 0 ocur 11 ocv), (fn_3 obk ocin ocou oein oeou), (fn_4 omt ores omca omre otrr owfo owct obd), (rf_RW ct 0 obd 10 ofbd), (rf_RW ct 0 otb 12 oftb), (rf_RW ct 0 oqu 4 ofqu)] ++ ws) sz (fun (u9 : va_W) => ([(fn_1 ch idx cl mt osta oprg ostp olas tb qu owai obin obou ohel osbo), (fn_0 cl cur opts onom oohm opol otau ochg olft ocap othr opz otmp ohet ocun ovol bk), (rf_RW ct 0 cur 11 (cm_cpy 11 ocv cv)), (fn_3 bk ocin ocou oein oeou), (fn_4 mt ores omca omre otrr owfo owct bd), (rf_RW ct 0 bd 10 (cm_cpy 10 ofbd fbd)), (rf_RW ct 0 tb 12 (cm_cpy 12 oftb ftb)), (rf_RW ct 0 qu 4 (cm_cpy 4 ofqu fqu)), (fn_1 och oidx ocl omt osta oprg ostp olas otb oqu owai obin obou ohel osbo), (fn_0 ocl ocur opts onom oohm opol otau ochg olft ocap othr opz otmp ohet ocun ovol obk), (rf_RW ct 0 ocur 11 ocv), (fn_3 obk ocin ocou oein oeou), (fn_4 omt ores omca omre otrr owfo owct obd), (rf_RW ct 0 obd 10 ofbd), (rf_RW ct 0 otb 12 oftb), (rf_RW ct 0 oqu 4 ofqu)] ++ u9))) (va_A ([(fn_1 ch idx cl mt sta prg stp las tb qu wai bin bou hel sbo), (fn_0 cl cur pts nom ohm pol tau chg lft cap thr pz tmp het cun vol bk), (rf_RW ct 0 cur 11 cv), (fn_3 bk cin cou ein eou), (fn_4 mt res mca mre trr wfo wct bd), (rf_RW ct 0 bd 10 fbd), (rf_RW ct 0 tb 12 ftb), (rf_RW ct 0 qu 4 fqu), (fn_1 och oidx ocl omt osta oprg ostp olas otb oqu owai obin obou ohel osbo), (fn_0 ocl ocur opts onom oohm opol otau ochg olft ocap othr opz otmp ohet ocun ovol obk), (rf_RW ct 0 ocur 11 ocv), (fn_3 obk ocin ocou oein oeou), (fn_4 omt ores omca omre otrr owfo owct obd), (rf_RW ct 0 obd 10 ofbd), (rf_RW ct 0 otb 12 oftb), (rf_RW ct 0 oqu 4 ofqu)] ++ ws) sz)) 0 0 (va_A ([(fn_1 ch idx cl mt sta prg stp las tb qu wai bin bou hel sbo), (fn_0 cl cur pts nom ohm pol tau chg lft cap thr pz tmp het cun vol bk), (rf_RW ct 0 cur 11 cv), (fn_3 bk cin cou ein eou), (fn_4 mt res mca mre trr wfo wct bd), (rf_RW ct 0 bd 10 fbd), (rf_RW ct 0 tb 12 ftb), (rf_RW ct 0 qu 4 fqu), (fn_1 och oidx ocl omt osta oprg ostp olas otb oqu owai obin obou ohel osbo), (fn_0 ocl ocur opts onom oohm opol otau ochg olft ocap othr opz otmp ohet ocun ovol obk), (rf_RW ct 0 ocur 11 ocv), (fn_3 obk ocin ocou oein oeou), (fn_4 omt ores omca omre otrr owfo owct obd), (rf_RW ct 0 obd 10 ofbd), (rf_RW ct 0 otb 12 oftb), (rf_RW ct 0 oqu 4 ofqu)] ++ ws) sz) := by
  refine Met.ofW (cc := cX1_copyFrom) (maxL := 2) (ret := none) (by decide) rfl ?_
  intro p e s m args below meth c s₁ B hml hv
  obtain ⟨rfl, hsz, hP, hK, hD0, hX⟩ := hv
  have hx := B.exec
  have hb := B.bytes
  have hr := B.returns
  have hts := ws_all (atoms_spec (ws := ws_ yX1_copyFrom cX1_copyFrom 2 none) B.pre)
  have hown : s.vm.findClass RX1 = some m.cls := findClass_of_methodNamed B.named
  have hlocks := B.notSynchronized
  subst hsz
  have hD := hD0.self (sz := s.heap.size)
  generalize hAe : va_A ([(fn_1 ch idx cl mt sta prg stp las tb qu wai bin bou hel sbo), (fn_0 cl cur pts nom ohm pol tau chg lft cap thr pz tmp het cun vol bk), (rf_RW ct 0 cur 11 cv), (fn_3 bk cin cou ein eou), (fn_4 mt res mca mre trr wfo wct bd), (rf_RW ct 0 bd 10 fbd), (rf_RW ct 0 tb 12 ftb), (rf_RW ct 0 qu 4 fqu), (fn_1 och oidx ocl omt osta oprg ostp olas otb oqu owai obin obou ohel osbo), (fn_0 ocl ocur opts onom oohm opol otau ochg olft ocap othr opz otmp ohet ocun ovol obk), (rf_RW ct 0 ocur 11 ocv), (fn_3 obk ocin ocou oein oeou), (fn_4 omt ores omca omre otrr owfo owct obd), (rf_RW ct 0 obd 10 ofbd), (rf_RW ct 0 otb 12 oftb), (rf_RW ct 0 oqu 4 ofqu)] ++ ws) s.heap.size = A at hD hX ⊢
  have hA : ∀ q : Nat, s.heap.size ≤ q → A q := fun q h => by rw [← hAe]; exact Or.inr h
  have hS : va_S A s.heap s.heap [] := va_S.rf
  have hl := lv_entry ([.ref ch, .ref och]) (n := 2) (Nat.le_of_ble_eq_true rfl)
  rw [lg_entry_eq]
  generalize (lg_sl ([.ref ch, .ref och]) ++ List.replicate (2 - (lg_sl ([.ref ch, .ref och])).length) Slot.unset).toArray = ls at hl ⊢
  have hl : lv_has ls 2 [(0, .ref ch), (1, .ref och)] := hl
  refine lv_aload_n hx hb dX1_copyFrom_0 rfl (lv_at hl 0 rfl) ?_
  refine va_get (v := .ref cl) (D := D) (ci := 1) (C := RX1) (T := TX1) (N := 14) hx hb hts in_X1 hown hK hP 0 rfl rfl 1 (by decide) (hts _ kl_RX1_18) (fun _ h9 => h9) rfl dX1_copyFrom_1 ?_
  refine lv_aload_n hx hb dX1_copyFrom_4 rfl (lv_at hl 1 rfl) ?_
  refine va_get (v := .ref ocl) (D := D) (ci := 1) (C := RX1) (T := TX1) (N := 14) hx hb hts in_X1 hown hK hP 8 rfl rfl 1 (by decide) (hts _ kl_RX1_18) (fun _ h9 => h9) rfl dX1_copyFrom_5 ?_
  obtain ⟨hP, hD⟩ := ty_opPD (E1 := [(fn_1 ch idx cl mt sta prg stp las tb qu wai bin bou hel sbo), (fn_4 mt res mca mre trr wfo wct bd), (rf_RW ct 0 bd 10 fbd), (rf_RW ct 0 tb 12 ftb), (rf_RW ct 0 qu 4 fqu), (fn_1 och oidx ocl omt osta oprg ostp olas otb oqu owai obin obou ohel osbo), (fn_4 omt ores omca omre otrr owfo owct obd), (rf_RW ct 0 obd 10 ofbd), (rf_RW ct 0 otb 12 oftb), (rf_RW ct 0 oqu 4 ofqu)]) (E2 := [(fn_0 cl cur pts nom ohm pol tau chg lft cap thr pz tmp het cun vol bk), (rf_RW ct 0 cur 11 cv), (fn_3 bk cin cou ein eou), (fn_0 ocl ocur opts onom oohm opol otau ochg olft ocap othr opz otmp ohet ocun ovol obk), (rf_RW ct 0 ocur 11 ocv), (fn_3 obk ocin ocou oein oeou)]) (n := 16) [0, 4, 5, 6, 7, 8, 12, 13, 14, 15, 1, 2, 3, 9, 10, 11] hP hD rfl rfl (by decide +kernel) ty_mv2
  refine ty_Kv hP hD hS hA (va_runVN (As := [.ref ocl]) (rest := []) ⟨hx, hb, hml, hown, hts⟩ (r_X0_copyFrom l D ct (fun _ => none) [] (fun _ => True) (fun _ _ _ => True) cl cur pts nom ohm pol tau chg lft cap thr pz tmp het cun vol bk cv cin cou ein eou ocl ocur opts onom oohm opol otau ochg olft ocap othr opz otmp ohet ocun ovol obk ocv ocin ocou oein oeou _ ty_V0 ty_C0 ty_y10) (cm_VN 1 hts kc_X0_copyFrom ki_RX0 kl_RX1_275 kv_X0_copyFrom kx_X0_copyFrom kd_X0_copyFrom ⟨Nat.le_of_ble_eq_true rfl, Nat.le_of_ble_eq_true rfl⟩) (ty_preE (ci := 0) hP hK hD hS hA hX rfl (ty_app (j := 0) rfl)) rfl rfl hl.1 rfl (lv_room (Nat.le_of_ble_eq_true rfl)) dX1_copyFrom_8 ⟨Nat.le_of_ble_eq_true rfl, Nat.le_of_ble_eq_true rfl⟩) (fun u H locs hw_2 hP hD hS => ?_)
  obtain ⟨ws_3, rfl⟩ : ∃ z, z = u := ⟨_, rfl⟩
  have hT9_4 := hw_2
  obtain ⟨hP, hD⟩ := ty_bkPD (E := [(fn_1 ch idx cl mt sta prg stp las tb qu wai bin bou hel sbo), (fn_4 mt res mca mre trr wfo wct bd), (rf_RW ct 0 bd 10 fbd), (rf_RW ct 0 tb 12 ftb), (rf_RW ct 0 qu 4 fqu), (fn_1 och oidx ocl omt osta oprg ostp olas otb oqu owai obin obou ohel osbo), (fn_4 omt ores omca omre otrr owfo owct obd), (rf_RW ct 0 obd 10 ofbd), (rf_RW ct 0 otb 12 oftb), (rf_RW ct 0 oqu 4 ofqu), (fn_0 cl cur opts onom oohm opol otau ochg olft ocap othr opz otmp ohet ocun ovol bk), (rf_RW ct 0 cur 11 (cm_cpy 11 ocv cv)), (fn_3 bk ocin ocou oein oeou), (fn_0 ocl ocur opts onom oohm opol otau ochg olft ocap othr opz otmp ohet ocun ovol obk), (rf_RW ct 0 ocur 11 ocv), (fn_3 obk ocin ocou oein oeou)]) hP hD rfl
  refine lv_aload_n hx hb dX1_copyFrom_11 rfl (lv_at hl 0 rfl) ?_
  refine va_get (v := .ref mt) (D := D) (ci := 1) (C := RX1) (T := TX1) (N := 14) hx hb hts in_X1 hown hK hP 0 rfl rfl 2 (by decide) (hts _ kl_RX1_25) (fun _ h9 => h9) rfl dX1_copyFrom_12 ?_
  refine lv_aload_n hx hb dX1_copyFrom_15 rfl (lv_at hl 1 rfl) ?_
  refine va_get (v := .ref omt) (D := D) (ci := 1) (C := RX1) (T := TX1) (N := 14) hx hb hts in_X1 hown hK hP 5 rfl rfl 2 (by decide) (hts _ kl_RX1_25) (fun _ h9 => h9) rfl dX1_copyFrom_16 ?_
  obtain ⟨hP, hD⟩ := ty_opPD (E1 := [(fn_1 ch idx cl mt sta prg stp las tb qu wai bin bou hel sbo), (rf_RW ct 0 tb 12 ftb), (rf_RW ct 0 qu 4 fqu), (fn_1 och oidx ocl omt osta oprg ostp olas otb oqu owai obin obou ohel osbo), (rf_RW ct 0 otb 12 oftb), (rf_RW ct 0 oqu 4 ofqu), (fn_0 cl cur opts onom oohm opol otau ochg olft ocap othr opz otmp ohet ocun ovol bk), (rf_RW ct 0 cur 11 (cm_cpy 11 ocv cv)), (fn_3 bk ocin ocou oein oeou), (fn_0 ocl ocur opts onom oohm opol otau ochg olft ocap othr opz otmp ohet ocun ovol obk), (rf_RW ct 0 ocur 11 ocv), (fn_3 obk ocin ocou oein oeou)]) (E2 := [(fn_4 mt res mca mre trr wfo wct bd), (rf_RW ct 0 bd 10 fbd), (fn_4 omt ores omca omre otrr owfo owct obd), (rf_RW ct 0 obd 10 ofbd)]) (n := 16) [0, 3, 4, 5, 8, 9, 10, 11, 12, 13, 14, 15, 1, 2, 6, 7] hP hD rfl rfl (by decide +kernel) ty_mv2
  refine ty_Kv hP hD hS hA (va_runVN (As := [.ref omt]) (rest := []) ⟨hx, hb, hml, hown, hts⟩ (r_X4_copyFrom l D ct (fun _ => none) [] (fun _ => True) (fun _ _ _ => True) mt res mca mre trr wfo wct bd fbd omt ores omca omre otrr owfo owct obd ofbd _ ty_V0 ty_C0 ty_y10) (cm_VN 1 hts kc_X4_copyFrom ki_RX4 kl_RX1_279 kv_X4_copyFrom kx_X4_copyFrom kd_X4_copyFrom ⟨Nat.le_of_ble_eq_true rfl, Nat.le_of_ble_eq_true rfl⟩) (ty_preE (ci := 4) hP hK hD hS hA hX rfl (ty_app (j := 0) rfl)) rfl rfl hl.1 rfl (lv_room (Nat.le_of_ble_eq_true rfl)) dX1_copyFrom_19 ⟨Nat.le_of_ble_eq_true rfl, Nat.le_of_ble_eq_true rfl⟩) (fun u H locs hw_6 hP hD hS => ?_)
  obtain ⟨ws_7, rfl⟩ : ∃ z, z = u := ⟨_, rfl⟩
  have hT9_8 := hw_6
  obtain ⟨hP, hD⟩ := ty_bkPD (E := [(fn_1 ch idx cl mt sta prg stp las tb qu wai bin bou hel sbo), (rf_RW ct 0 tb 12 ftb), (rf_RW ct 0 qu 4 fqu), (fn_1 och oidx ocl omt osta oprg ostp olas otb oqu owai obin obou ohel osbo), (rf_RW ct 0 otb 12 oftb), (rf_RW ct 0 oqu 4 ofqu), (fn_0 cl cur opts onom oohm opol otau ochg olft ocap othr opz otmp ohet ocun ovol bk), (rf_RW ct 0 cur 11 (cm_cpy 11 ocv cv)), (fn_3 bk ocin ocou oein oeou), (fn_0 ocl ocur opts onom oohm opol otau ochg olft ocap othr opz otmp ohet ocun ovol obk), (rf_RW ct 0 ocur 11 ocv), (fn_3 obk ocin ocou oein oeou), (fn_4 mt ores omca omre otrr owfo owct bd), (rf_RW ct 0 bd 10 (cm_cpy 10 ofbd fbd)), (fn_4 omt ores omca omre otrr owfo owct obd), (rf_RW ct 0 obd 10 ofbd)]) hP hD rfl
  refine lv_aload_n hx hb dX1_copyFrom_22 rfl (lv_at hl 0 rfl) ?_
  refine lv_aload_n hx hb dX1_copyFrom_23 rfl (lv_at hl 1 rfl) ?_
  refine va_get (v := .int osta) (D := D) (ci := 1) (C := RX1) (T := TX1) (N := 14) hx hb hts in_X1 hown hK hP 3 rfl rfl 3 (by decide) (hts _ kl_RX1_43) (fun _ h9 => h9) rfl dX1_copyFrom_24 ?_
  refine va_put (v := .int osta) (ty := .int) (D := D) (ci := 1) (C := RX1) (T := TX1) (N := 14) hx hb hts in_X1 tyX1 tyX1_ok nmX1 hown hK hP hD hS 0 rfl rfl 3 (by decide) (hts _ kl_RX1_43) (fun _ h9 => h9) rfl (by decide +kernel) rfl rfl (Nat.le_of_ble_eq_true rfl) dX1_copyFrom_27 (fun H locs hP hD hS => ?_)
  have hP : va_P D vwCl ([(fn_1 ch idx cl mt osta prg stp las tb qu wai bin bou hel sbo), (rf_RW ct 0 tb 12 ftb), (rf_RW ct 0 qu 4 fqu), (fn_1 och oidx ocl omt osta oprg ostp olas otb oqu owai obin obou ohel osbo), (rf_RW ct 0 otb 12 oftb), (rf_RW ct 0 oqu 4 ofqu), (fn_0 cl cur opts onom oohm opol otau ochg olft ocap othr opz otmp ohet ocun ovol bk), (rf_RW ct 0 cur 11 (cm_cpy 11 ocv cv)), (fn_3 bk ocin ocou oein oeou), (fn_0 ocl ocur opts onom oohm opol otau ochg olft ocap othr opz otmp ohet ocun ovol obk), (rf_RW ct 0 ocur 11 ocv), (fn_3 obk ocin ocou oein oeou), (fn_4 mt ores omca omre otrr owfo owct bd), (rf_RW ct 0 bd 10 (cm_cpy 10 ofbd fbd)), (fn_4 omt ores omca omre otrr owfo owct obd), (rf_RW ct 0 obd 10 ofbd)] ++ ws) H := hP
  have hD : va_D A ([(fn_1 ch idx cl mt osta prg stp las tb qu wai bin bou hel sbo), (rf_RW ct 0 tb 12 ftb), (rf_RW ct 0 qu 4 fqu), (fn_1 och oidx ocl omt osta oprg ostp olas otb oqu owai obin obou ohel osbo), (rf_RW ct 0 otb 12 oftb), (rf_RW ct 0 oqu 4 ofqu), (fn_0 cl cur opts onom oohm opol otau ochg olft ocap othr opz otmp ohet ocun ovol bk), (rf_RW ct 0 cur 11 (cm_cpy 11 ocv cv)), (fn_3 bk ocin ocou oein oeou), (fn_0 ocl ocur opts onom oohm opol otau ochg olft ocap othr opz otmp ohet ocun ovol obk), (rf_RW ct 0 ocur 11 ocv), (fn_3 obk ocin ocou oein oeou), (fn_4 mt ores omca omre otrr owfo owct bd), (rf_RW ct 0 bd 10 (cm_cpy 10 ofbd fbd)), (fn_4 omt ores omca omre otrr owfo owct obd), (rf_RW ct 0 obd 10 ofbd)] ++ ws) := hD
  refine lv_aload_n hx hb dX1_copyFrom_30 rfl (lv_at hl 0 rfl) ?_
  refine lv_aload_n hx hb dX1_copyFrom_31 rfl (lv_at hl 1 rfl) ?_
  refine va_get (v := .int oprg) (D := D) (ci := 1) (C := RX1) (T := TX1) (N := 14) hx hb hts in_X1 hown hK hP 3 rfl rfl 4 (by decide) (hts _ kl_RX1_46) (fun _ h9 => h9) rfl dX1_copyFrom_32 ?_
  refine va_put (v := .int oprg) (ty := .int) (D := D) (ci := 1) (C := RX1) (T := TX1) (N := 14) hx hb hts in_X1 tyX1 tyX1_ok nmX1 hown hK hP hD hS 0 rfl rfl 4 (by decide) (hts _ kl_RX1_46) (fun _ h9 => h9) rfl (by decide +kernel) rfl rfl (Nat.le_of_ble_eq_true rfl) dX1_copyFrom_35 (fun H locs hP hD hS => ?_)
  have hP : va_P D vwCl ([(fn_1 ch idx cl mt osta oprg stp las tb qu wai bin bou hel sbo), (rf_RW ct 0 tb 12 ftb), (rf_RW ct 0 qu 4 fqu), (fn_1 och oidx ocl omt osta oprg ostp olas otb oqu owai obin obou ohel osbo), (rf_RW ct 0 otb 12 oftb), (rf_RW ct 0 oqu 4 ofqu), (fn_0 cl cur opts onom oohm opol otau ochg olft ocap othr opz otmp ohet ocun ovol bk), (rf_RW ct 0 cur 11 (cm_cpy 11 ocv cv)), (fn_3 bk ocin ocou oein oeou), (fn_0 ocl ocur opts onom oohm opol otau ochg olft ocap othr opz otmp ohet ocun ovol obk), (rf_RW ct 0 ocur 11 ocv), (fn_3 obk ocin ocou oein oeou), (fn_4 mt ores omca omre otrr owfo owct bd), (rf_RW ct 0 bd 10 (cm_cpy 10 ofbd fbd)), (fn_4 omt ores omca omre otrr owfo owct obd), (rf_RW ct 0 obd 10 ofbd)] ++ ws) H := hP
  have hD : va_D A ([(fn_1 ch idx cl mt osta oprg stp las tb qu wai bin bou hel sbo), (rf_RW ct 0 tb 12 ftb), (rf_RW ct 0 qu 4 fqu), (fn_1 och oidx ocl omt osta oprg ostp olas otb oqu owai obin obou ohel osbo), (rf_RW ct 0 otb 12 oftb), (rf_RW ct 0 oqu 4 ofqu), (fn_0 cl cur opts onom oohm opol otau ochg olft ocap othr opz otmp ohet ocun ovol bk), (rf_RW ct 0 cur 11 (cm_cpy 11 ocv cv)), (fn_3 bk ocin ocou oein oeou), (fn_0 ocl ocur opts onom oohm opol otau ochg olft ocap othr opz otmp ohet ocun ovol obk), (rf_RW ct 0 ocur 11 ocv), (fn_3 obk ocin ocou oein oeou), (fn_4 mt ores omca omre otrr owfo owct bd), (rf_RW ct 0 bd 10 (cm_cpy 10 ofbd fbd)), (fn_4 omt ores omca omre otrr owfo owct obd), (rf_RW ct 0 obd 10 ofbd)] ++ ws) := hD
  refine lv_aload_n hx hb dX1_copyFrom_38 rfl (lv_at hl 0 rfl) ?_
  refine lv_aload_n hx hb dX1_copyFrom_39 rfl (lv_at hl 1 rfl) ?_
  refine va_get (v := .int ostp) (D := D) (ci := 1) (C := RX1) (T := TX1) (N := 14) hx hb hts in_X1 hown hK hP 3 rfl rfl 5 (by decide) (hts _ kl_RX1_49) (fun _ h9 => h9) rfl dX1_copyFrom_40 ?_
  refine va_put (v := .int ostp) (ty := .int) (D := D) (ci := 1) (C := RX1) (T := TX1) (N := 14) hx hb hts in_X1 tyX1 tyX1_ok nmX1 hown hK hP hD hS 0 rfl rfl 5 (by decide) (hts _ kl_RX1_49) (fun _ h9 => h9) rfl (by decide +kernel) rfl rfl (Nat.le_of_ble_eq_true rfl) dX1_copyFrom_43 (fun H locs hP hD hS => ?_)
  have hP : va_P D vwCl ([(fn_1 ch idx cl mt osta oprg ostp las tb qu wai bin bou hel sbo), (rf_RW ct 0 tb 12 ftb), (rf_RW ct 0 qu 4 fqu), (fn_1 och oidx ocl omt osta oprg ostp olas otb oqu owai obin obou ohel osbo), (rf_RW ct 0 otb 12 oftb), (rf_RW ct 0 oqu 4 ofqu), (fn_0 cl cur opts onom oohm opol otau ochg olft ocap othr opz otmp ohet ocun ovol bk), (rf_RW ct 0 cur 11 (cm_cpy 11 ocv cv)), (fn_3 bk ocin ocou oein oeou), (fn_0 ocl ocur opts onom oohm opol otau ochg olft ocap othr opz otmp ohet ocun ovol obk), (rf_RW ct 0 ocur 11 ocv), (fn_3 obk ocin ocou oein oeou), (fn_4 mt ores omca omre otrr owfo owct bd), (rf_RW ct 0 bd 10 (cm_cpy 10 ofbd fbd)), (fn_4 omt ores omca omre otrr owfo owct obd), (rf_RW ct 0 obd 10 ofbd)] ++ ws) H := hP
  have hD : va_D A ([(fn_1 ch idx cl mt osta oprg ostp las tb qu wai bin bou hel sbo), (rf_RW ct 0 tb 12 ftb), (rf_RW ct 0 qu 4 fqu), (fn_1 och oidx ocl omt osta oprg ostp olas otb oqu owai obin obou ohel osbo), (rf_RW ct 0 otb 12 oftb), (rf_RW ct 0 oqu 4 ofqu), (fn_0 cl cur opts onom oohm opol otau ochg olft ocap othr opz otmp ohet ocun ovol bk), (rf_RW ct 0 cur 11 (cm_cpy 11 ocv cv)), (fn_3 bk ocin ocou oein oeou), (fn_0 ocl ocur opts onom oohm opol otau ochg olft ocap othr opz otmp ohet ocun ovol obk), (rf_RW ct 0 ocur 11 ocv), (fn_3 obk ocin ocou oein oeou), (fn_4 mt ores omca omre otrr owfo owct bd), (rf_RW ct 0 bd 10 (cm_cpy 10 ofbd fbd)), (fn_4 omt ores omca omre otrr owfo owct obd), (rf_RW ct 0 obd 10 ofbd)] ++ ws) := hD
  refine lv_aload_n hx hb dX1_copyFrom_46 rfl (lv_at hl 0 rfl) ?_
  refine lv_aload_n hx hb dX1_copyFrom_47 rfl (lv_at hl 1 rfl) ?_
  refine va_get (v := .int olas) (D := D) (ci := 1) (C := RX1) (T := TX1) (N := 14) hx hb hts in_X1 hown hK hP 3 rfl rfl 6 (by decide) (hts _ kl_RX1_52) (fun _ h9 => h9) rfl dX1_copyFrom_48 ?_
  refine va_put (v := .int olas) (ty := .int) (D := D) (ci := 1) (C := RX1) (T := TX1) (N := 14) hx hb hts in_X1 tyX1 tyX1_ok nmX1 hown hK hP hD hS 0 rfl rfl 6 (by decide) (hts _ kl_RX1_52) (fun _ h9 => h9) rfl (by decide +kernel) rfl rfl (Nat.le_of_ble_eq_true rfl) dX1_copyFrom_51 (fun H locs hP hD hS => ?_)
  have hP : va_P D vwCl ([(fn_1 ch idx cl mt osta oprg ostp olas tb qu wai bin bou hel sbo), (rf_RW ct 0 tb 12 ftb), (rf_RW ct 0 qu 4 fqu), (fn_1 och oidx ocl omt osta oprg ostp olas otb oqu owai obin obou ohel osbo), (rf_RW ct 0 otb 12 oftb), (rf_RW ct 0 oqu 4 ofqu), (fn_0 cl cur opts onom oohm opol otau ochg olft ocap othr opz otmp ohet ocun ovol bk), (rf_RW ct 0 cur 11 (cm_cpy 11 ocv cv)), (fn_3 bk ocin ocou oein oeou), (fn_0 ocl ocur opts onom oohm opol otau ochg olft ocap othr opz otmp ohet ocun ovol obk), (rf_RW ct 0 ocur 11 ocv), (fn_3 obk ocin ocou oein oeou), (fn_4 mt ores omca omre otrr owfo owct bd), (rf_RW ct 0 bd 10 (cm_cpy 10 ofbd fbd)), (fn_4 omt ores omca omre otrr owfo owct obd), (rf_RW ct 0 obd 10 ofbd)] ++ ws) H := hP
  have hD : va_D A ([(fn_1 ch idx cl mt osta oprg ostp olas tb qu wai bin bou hel sbo), (rf_RW ct 0 tb 12 ftb), (rf_RW ct 0 qu 4 fqu), (fn_1 och oidx ocl omt osta oprg ostp olas otb oqu owai obin obou ohel osbo), (rf_RW ct 0 otb 12 oftb), (rf_RW ct 0 oqu 4 ofqu), (fn_0 cl cur opts onom oohm opol otau ochg olft ocap othr opz otmp ohet ocun ovol bk), (rf_RW ct 0 cur 11 (cm_cpy 11 ocv cv)), (fn_3 bk ocin ocou oein oeou), (fn_0 ocl ocur opts onom oohm opol otau ochg olft ocap othr opz otmp ohet ocun ovol obk), (rf_RW ct 0 ocur 11 ocv), (fn_3 obk ocin ocou oein oeou), (fn_4 mt ores omca omre otrr owfo owct bd), (rf_RW ct 0 bd 10 (cm_cpy 10 ofbd fbd)), (fn_4 omt ores omca omre otrr owfo owct obd), (rf_RW ct 0 obd 10 ofbd)] ++ ws) := hD
  refine lv_aload_n hx hb dX1_copyFrom_54 rfl (lv_at hl 1 rfl) ?_
  refine va_get (v := .ref otb) (D := D) (ci := 1) (C := RX1) (T := TX1) (N := 14) hx hb hts in_X1 hown hK hP 3 rfl rfl 7 (by decide) (hts _ kl_RX1_29) (fun _ h9 => h9) rfl dX1_copyFrom_55 ?_
  refine lv_aload_n hx hb dX1_copyFrom_58 rfl (lv_at hl 0 rfl) ?_
  refine va_get (v := .ref tb) (D := D) (ci := 1) (C := RX1) (T := TX1) (N := 14) hx hb hts in_X1 hown hK hP 0 rfl rfl 7 (by decide) (hts _ kl_RX1_29) (fun _ h9 => h9) rfl dX1_copyFrom_59 ?_
  obtain ⟨hP, hD⟩ := ty_opPD (E1 := [(fn_1 ch idx cl mt osta oprg ostp olas tb qu wai bin bou hel sbo), (rf_RW ct 0 qu 4 fqu), (fn_1 och oidx ocl omt osta oprg ostp olas otb oqu owai obin obou ohel osbo), (rf_RW ct 0 oqu 4 ofqu), (fn_0 cl cur opts onom oohm opol otau ochg olft ocap othr opz otmp ohet ocun ovol bk), (rf_RW ct 0 cur 11 (cm_cpy 11 ocv cv)), (fn_3 bk ocin ocou oein oeou), (fn_0 ocl ocur opts onom oohm opol otau ochg olft ocap othr opz otmp ohet ocun ovol obk), (rf_RW ct 0 ocur 11 ocv), (fn_3 obk ocin ocou oein oeou), (fn_4 mt ores omca omre otrr owfo owct bd), (rf_RW ct 0 bd 10 (cm_cpy 10 ofbd fbd)), (fn_4 omt ores omca omre otrr owfo owct obd), (rf_RW ct 0 obd 10 ofbd)]) (E2 := [(rf_RW ct 0 otb 12 oftb), (rf_RW ct 0 tb 12 ftb)]) (n := 16) [0, 2, 3, 5, 6, 7, 8, 9, 10, 11, 12, 13, 14, 15, 4, 1] hP hD rfl rfl (by decide +kernel) ty_mv2
  refine ty_Kv hP hD hS hA (va_runSN (As := [.ref otb, .ref tb]) (rest := []) ⟨hx, hb, hml, hown, hts⟩ (r_X10_copyRow_12 l D ct (fun _ => none) [] (fun _ => True) (fun _ _ _ => True) otb oftb tb ftb _ ty_V0 ty_C0 ty_y10) (cm_SN 2 hts kc_X10_copyRow ki_RX10 kl_RX1_282 ks_X10_copyRow kd_X10_copyRow ⟨Nat.le_of_ble_eq_true rfl, Nat.le_of_ble_eq_true rfl⟩) (ty_preS hP hK hD hS hA hX) rfl rfl hl.1 rfl (lv_room (Nat.le_of_ble_eq_true rfl)) dX1_copyFrom_62 ⟨Nat.le_of_ble_eq_true rfl, Nat.le_of_ble_eq_true rfl⟩) (fun u H locs hw_10 hP hD hS => ?_)
  obtain ⟨ws_11, rfl⟩ : ∃ z, z = u := ⟨_, rfl⟩
  have hT9_12 := hw_10
  obtain ⟨hP, hD⟩ := ty_bkPD (E := [(fn_1 ch idx cl mt osta oprg ostp olas tb qu wai bin bou hel sbo), (rf_RW ct 0 qu 4 fqu), (fn_1 och oidx ocl omt osta oprg ostp olas otb oqu owai obin obou ohel osbo), (rf_RW ct 0 oqu 4 ofqu), (fn_0 cl cur opts onom oohm opol otau ochg olft ocap othr opz otmp ohet ocun ovol bk), (rf_RW ct 0 cur 11 (cm_cpy 11 ocv cv)), (fn_3 bk ocin ocou oein oeou), (fn_0 ocl ocur opts onom oohm opol otau ochg olft ocap othr opz otmp ohet ocun ovol obk), (rf_RW ct 0 ocur 11 ocv), (fn_3 obk ocin ocou oein oeou), (fn_4 mt ores omca omre otrr owfo owct bd), (rf_RW ct 0 bd 10 (cm_cpy 10 ofbd fbd)), (fn_4 omt ores omca omre otrr owfo owct obd), (rf_RW ct 0 obd 10 ofbd), (rf_RW ct 0 otb 12 oftb), (rf_RW ct 0 tb 12 (cm_cpy 12 oftb ftb))]) hP hD rfl
  refine lv_aload_n hx hb dX1_copyFrom_65 rfl (lv_at hl 1 rfl) ?_
  refine va_get (v := .ref oqu) (D := D) (ci := 1) (C := RX1) (T := TX1) (N := 14) hx hb hts in_X1 hown hK hP 2 rfl rfl 8 (by decide) (hts _ kl_RX1_33) (fun _ h9 => h9) rfl dX1_copyFrom_66 ?_
  refine lv_aload_n hx hb dX1_copyFrom_69 rfl (lv_at hl 0 rfl) ?_
  refine va_get (v := .ref qu) (D := D) (ci := 1) (C := RX1) (T := TX1) (N := 14) hx hb hts in_X1 hown hK hP 0 rfl rfl 8 (by decide) (hts _ kl_RX1_33) (fun _ h9 => h9) rfl dX1_copyFrom_70 ?_
  obtain ⟨hP, hD⟩ := ty_opPD (E1 := [(fn_1 ch idx cl mt osta oprg ostp olas tb qu wai bin bou hel sbo), (fn_1 och oidx ocl omt osta oprg ostp olas otb oqu owai obin obou ohel osbo), (fn_0 cl cur opts onom oohm opol otau ochg olft ocap othr opz otmp ohet ocun ovol bk), (rf_RW ct 0 cur 11 (cm_cpy 11 ocv cv)), (fn_3 bk ocin ocou oein oeou), (fn_0 ocl ocur opts onom oohm opol otau ochg olft ocap othr opz otmp ohet ocun ovol obk), (rf_RW ct 0 ocur 11 ocv), (fn_3 obk ocin ocou oein oeou), (fn_4 mt ores omca omre otrr owfo owct bd), (rf_RW ct 0 bd 10 (cm_cpy 10 ofbd fbd)), (fn_4 omt ores omca omre otrr owfo owct obd), (rf_RW ct 0 obd 10 ofbd), (rf_RW ct 0 otb 12 oftb), (rf_RW ct 0 tb 12 (cm_cpy 12 oftb ftb))]) (E2 := [(rf_RW ct 0 oqu 4 ofqu), (rf_RW ct 0 qu 4 fqu)]) (n := 16) [0, 2, 4, 5, 6, 7, 8, 9, 10, 11, 12, 13, 14, 15, 3, 1] hP hD rfl rfl (by decide +kernel) ty_mv2
  refine ty_Kv hP hD hS hA (va_runSN (As := [.ref oqu, .ref qu]) (rest := []) ⟨hx, hb, hml, hown, hts⟩ (r_X10_copyRow_4 l D ct (fun _ => none) [] (fun _ => True) (fun _ _ _ => True) oqu ofqu qu fqu _ ty_V0 ty_C0 ty_y10) (cm_SN 2 hts kc_X10_copyRow ki_RX10 kl_RX1_282 ks_X10_copyRow kd_X10_copyRow ⟨Nat.le_of_ble_eq_true rfl, Nat.le_of_ble_eq_true rfl⟩) (ty_preS hP hK hD hS hA hX) rfl rfl hl.1 rfl (lv_room (Nat.le_of_ble_eq_true rfl)) dX1_copyFrom_73 ⟨Nat.le_of_ble_eq_true rfl, Nat.le_of_ble_eq_true rfl⟩) (fun u H locs hw_14 hP hD hS => ?_)
  obtain ⟨ws_15, rfl⟩ : ∃ z, z = u := ⟨_, rfl⟩
  have hT9_16 := hw_14
  obtain ⟨hP, hD⟩ := ty_bkPD (E := [(fn_1 ch idx cl mt osta oprg ostp olas tb qu wai bin bou hel sbo), (fn_1 och oidx ocl omt osta oprg ostp olas otb oqu owai obin obou ohel osbo), (fn_0 cl cur opts onom oohm opol otau ochg olft ocap othr opz otmp ohet ocun ovol bk), (rf_RW ct 0 cur 11 (cm_cpy 11 ocv cv)), (fn_3 bk ocin ocou oein oeou), (fn_0 ocl ocur opts onom oohm opol otau ochg olft ocap othr opz otmp ohet ocun ovol obk), (rf_RW ct 0 ocur 11 ocv), (fn_3 obk ocin ocou oein oeou), (fn_4 mt ores omca omre otrr owfo owct bd), (rf_RW ct 0 bd 10 (cm_cpy 10 ofbd fbd)), (fn_4 omt ores omca omre otrr owfo owct obd), (rf_RW ct 0 obd 10 ofbd), (rf_RW ct 0 otb 12 oftb), (rf_RW ct 0 tb 12 (cm_cpy 12 oftb ftb)), (rf_RW ct 0 oqu 4 ofqu), (rf_RW ct 0 qu 4 (cm_cpy 4 ofqu fqu))]) hP hD rfl
  refine lv_aload_n hx hb dX1_copyFrom_76 rfl (lv_at hl 0 rfl) ?_
  refine lv_aload_n hx hb dX1_copyFrom_77 rfl (lv_at hl 1 rfl) ?_
  refine va_get (v := .int owai) (D := D) (ci := 1) (C := RX1) (T := TX1) (N := 14) hx hb hts in_X1 hown hK hP 1 rfl rfl 9 (by decide) (hts _ kl_RX1_59) (fun _ h9 => h9) rfl dX1_copyFrom_78 ?_
  refine va_put (v := .int owai) (ty := .int) (D := D) (ci := 1) (C := RX1) (T := TX1) (N := 14) hx hb hts in_X1 tyX1 tyX1_ok nmX1 hown hK hP hD hS 0 rfl rfl 9 (by decide) (hts _ kl_RX1_59) (fun _ h9 => h9) rfl (by decide +kernel) rfl rfl (Nat.le_of_ble_eq_true rfl) dX1_copyFrom_81 (fun H locs hP hD hS => ?_)
  have hP : va_P D vwCl ([(fn_1 ch idx cl mt osta oprg ostp olas tb qu owai bin bou hel sbo), (fn_1 och oidx ocl omt osta oprg ostp olas otb oqu owai obin obou ohel osbo), (fn_0 cl cur opts onom oohm opol otau ochg olft ocap othr opz otmp ohet ocun ovol bk), (rf_RW ct 0 cur 11 (cm_cpy 11 ocv cv)), (fn_3 bk ocin ocou oein oeou), (fn_0 ocl ocur opts onom oohm opol otau ochg olft ocap othr opz otmp ohet ocun ovol obk), (rf_RW ct 0 ocur 11 ocv), (fn_3 obk ocin ocou oein oeou), (fn_4 mt ores omca omre otrr owfo owct bd), (rf_RW ct 0 bd 10 (cm_cpy 10 ofbd fbd)), (fn_4 omt ores omca omre otrr owfo owct obd), (rf_RW ct 0 obd 10 ofbd), (rf_RW ct 0 otb 12 oftb), (rf_RW ct 0 tb 12 (cm_cpy 12 oftb ftb)), (rf_RW ct 0 oqu 4 ofqu), (rf_RW ct 0 qu 4 (cm_cpy 4 ofqu fqu))] ++ ws) H := hP
  have hD : va_D A ([(fn_1 ch idx cl mt osta oprg ostp olas tb qu owai bin bou hel sbo), (fn_1 och oidx ocl omt osta oprg ostp olas otb oqu owai obin obou ohel osbo), (fn_0 cl cur opts onom oohm opol otau ochg olft ocap othr opz otmp ohet ocun ovol bk), (rf_RW ct 0 cur 11 (cm_cpy 11 ocv cv)), (fn_3 bk ocin ocou oein oeou), (fn_0 ocl ocur opts onom oohm opol otau ochg olft ocap othr opz otmp ohet ocun ovol obk), (rf_RW ct 0 ocur 11 ocv), (fn_3 obk ocin ocou oein oeou), (fn_4 mt ores omca omre otrr owfo owct bd), (rf_RW ct 0 bd 10 (cm_cpy 10 ofbd fbd)), (fn_4 omt ores omca omre otrr owfo owct obd), (rf_RW ct 0 obd 10 ofbd), (rf_RW ct 0 otb 12 oftb), (rf_RW ct 0 tb 12 (cm_cpy 12 oftb ftb)), (rf_RW ct 0 oqu 4 ofqu), (rf_RW ct 0 qu 4 (cm_cpy 4 ofqu fqu))] ++ ws) := hD
  refine lv_aload_n hx hb dX1_copyFrom_84 rfl (lv_at hl 0 rfl) ?_
  refine lv_aload_n hx hb dX1_copyFrom_85 rfl (lv_at hl 1 rfl) ?_
  refine va_get (v := .long obin) (D := D) (ci := 1) (C := RX1) (T := TX1) (N := 14) hx hb hts in_X1 hown hK hP 1 rfl rfl 10 (by decide) (hts _ kl_RX1_62) (fun _ h9 => h9) rfl dX1_copyFrom_86 ?_
  refine va_put (v := .long obin) (ty := .long) (D := D) (ci := 1) (C := RX1) (T := TX1) (N := 14) hx hb hts in_X1 tyX1 tyX1_ok nmX1 hown hK hP hD hS 0 rfl rfl 10 (by decide) (hts _ kl_RX1_62) (fun _ h9 => h9) rfl (by decide +kernel) rfl rfl (Nat.le_of_ble_eq_true rfl) dX1_copyFrom_89 (fun H locs hP hD hS => ?_)
  have hP : va_P D vwCl ([(fn_1 ch idx cl mt osta oprg ostp olas tb qu owai obin bou hel sbo), (fn_1 och oidx ocl omt osta oprg ostp olas otb oqu owai obin obou ohel osbo), (fn_0 cl cur opts onom oohm opol otau ochg olft ocap othr opz otmp ohet ocun ovol bk), (rf_RW ct 0 cur 11 (cm_cpy 11 ocv cv)), (fn_3 bk ocin ocou oein oeou), (fn_0 ocl ocur opts onom oohm opol otau ochg olft ocap othr opz otmp ohet ocun ovol obk), (rf_RW ct 0 ocur 11 ocv), (fn_3 obk ocin ocou oein oeou), (fn_4 mt ores omca omre otrr owfo owct bd), (rf_RW ct 0 bd 10 (cm_cpy 10 ofbd fbd)), (fn_4 omt ores omca omre otrr owfo owct obd), (rf_RW ct 0 obd 10 ofbd), (rf_RW ct 0 otb 12 oftb), (rf_RW ct 0 tb 12 (cm_cpy 12 oftb ftb)), (rf_RW ct 0 oqu 4 ofqu), (rf_RW ct 0 qu 4 (cm_cpy 4 ofqu fqu))] ++ ws) H := hP
  have hD : va_D A ([(fn_1 ch idx cl mt osta oprg ostp olas tb qu owai obin bou hel sbo), (fn_1 och oidx ocl omt osta oprg ostp olas otb oqu owai obin obou ohel osbo), (fn_0 cl cur opts onom oohm opol otau ochg olft ocap othr opz otmp ohet ocun ovol bk), (rf_RW ct 0 cur 11 (cm_cpy 11 ocv cv)), (fn_3 bk ocin ocou oein oeou), (fn_0 ocl ocur opts onom oohm opol otau ochg olft ocap othr opz otmp ohet ocun ovol obk), (rf_RW ct 0 ocur 11 ocv), (fn_3 obk ocin ocou oein oeou), (fn_4 mt ores omca omre otrr owfo owct bd), (rf_RW ct 0 bd 10 (cm_cpy 10 ofbd fbd)), (fn_4 omt ores omca omre otrr owfo owct obd), (rf_RW ct 0 obd 10 ofbd), (rf_RW ct 0 otb 12 oftb), (rf_RW ct 0 tb 12 (cm_cpy 12 oftb ftb)), (rf_RW ct 0 oqu 4 ofqu), (rf_RW ct 0 qu 4 (cm_cpy 4 ofqu fqu))] ++ ws) := hD
  refine lv_aload_n hx hb dX1_copyFrom_92 rfl (lv_at hl 0 rfl) ?_
  refine lv_aload_n hx hb dX1_copyFrom_93 rfl (lv_at hl 1 rfl) ?_
  refine va_get (v := .long obou) (D := D) (ci := 1) (C := RX1) (T := TX1) (N := 14) hx hb hts in_X1 hown hK hP 1 rfl rfl 11 (by decide) (hts _ kl_RX1_66) (fun _ h9 => h9) rfl dX1_copyFrom_94 ?_
  refine va_put (v := .long obou) (ty := .long) (D := D) (ci := 1) (C := RX1) (T := TX1) (N := 14) hx hb hts in_X1 tyX1 tyX1_ok nmX1 hown hK hP hD hS 0 rfl rfl 11 (by decide) (hts _ kl_RX1_66) (fun _ h9 => h9) rfl (by decide +kernel) rfl rfl (Nat.le_of_ble_eq_true rfl) dX1_copyFrom_97 (fun H locs hP hD hS => ?_)
  have hP : va_P D vwCl ([(fn_1 ch idx cl mt osta oprg ostp olas tb qu owai obin obou hel sbo), (fn_1 och oidx ocl omt osta oprg ostp olas otb oqu owai obin obou ohel osbo), (fn_0 cl cur opts onom oohm opol otau ochg olft ocap othr opz otmp ohet ocun ovol bk), (rf_RW ct 0 cur 11 (cm_cpy 11 ocv cv)), (fn_3 bk ocin ocou oein oeou), (fn_0 ocl ocur opts onom oohm opol otau ochg olft ocap othr opz otmp ohet ocun ovol obk), (rf_RW ct 0 ocur 11 ocv), (fn_3 obk ocin ocou oein oeou), (fn_4 mt ores omca omre otrr owfo owct bd), (rf_RW ct 0 bd 10 (cm_cpy 10 ofbd fbd)), (fn_4 omt ores omca omre otrr owfo owct obd), (rf_RW ct 0 obd 10 ofbd), (rf_RW ct 0 otb 12 oftb), (rf_RW ct 0 tb 12 (cm_cpy 12 oftb ftb)), (rf_RW ct 0 oqu 4 ofqu), (rf_RW ct 0 qu 4 (cm_cpy 4 ofqu fqu))] ++ ws) H := hP
  have hD : va_D A ([(fn_1 ch idx cl mt osta oprg ostp olas tb qu owai obin obou hel sbo), (fn_1 och oidx ocl omt osta oprg ostp olas otb oqu owai obin obou ohel osbo), (fn_0 cl cur opts onom oohm opol otau ochg olft ocap othr opz otmp ohet ocun ovol bk), (rf_RW ct 0 cur 11 (cm_cpy 11 ocv cv)), (fn_3 bk ocin ocou oein oeou), (fn_0 ocl ocur opts onom oohm opol otau ochg olft ocap othr opz otmp ohet ocun ovol obk), (rf_RW ct 0 ocur 11 ocv), (fn_3 obk ocin ocou oein oeou), (fn_4 mt ores omca omre otrr owfo owct bd), (rf_RW ct 0 bd 10 (cm_cpy 10 ofbd fbd)), (fn_4 omt ores omca omre otrr owfo owct obd), (rf_RW ct 0 obd 10 ofbd), (rf_RW ct 0 otb 12 oftb), (rf_RW ct 0 tb 12 (cm_cpy 12 oftb ftb)), (rf_RW ct 0 oqu 4 ofqu), (rf_RW ct 0 qu 4 (cm_cpy 4 ofqu fqu))] ++ ws) := hD
  refine lv_aload_n hx hb dX1_copyFrom_100 rfl (lv_at hl 0 rfl) ?_
  refine lv_aload_n hx hb dX1_copyFrom_101 rfl (lv_at hl 1 rfl) ?_
  refine va_get (v := .int ohel) (D := D) (ci := 1) (C := RX1) (T := TX1) (N := 14) hx hb hts in_X1 hown hK hP 1 rfl rfl 12 (by decide) (hts _ kl_RX1_69) (fun _ h9 => h9) rfl dX1_copyFrom_102 ?_
  refine va_put (v := .int ohel) (ty := .boolean) (D := D) (ci := 1) (C := RX1) (T := TX1) (N := 14) hx hb hts in_X1 tyX1 tyX1_ok nmX1 hown hK hP hD hS 0 rfl rfl 12 (by decide) (hts _ kl_RX1_69) (fun _ h9 => h9) rfl (by decide +kernel) (a_zno hzo) (a_zfo hzo) (Nat.le_of_ble_eq_true rfl) dX1_copyFrom_105 (fun H locs hP hD hS => ?_)
  have hP : va_P D vwCl ([(fn_1 ch idx cl mt osta oprg ostp olas tb qu owai obin obou ohel sbo), (fn_1 och oidx ocl omt osta oprg ostp olas otb oqu owai obin obou ohel osbo), (fn_0 cl cur opts onom oohm opol otau ochg olft ocap othr opz otmp ohet ocun ovol bk), (rf_RW ct 0 cur 11 (cm_cpy 11 ocv cv)), (fn_3 bk ocin ocou oein oeou), (fn_0 ocl ocur opts onom oohm opol otau ochg olft ocap othr opz otmp ohet ocun ovol obk), (rf_RW ct 0 ocur 11 ocv), (fn_3 obk ocin ocou oein oeou), (fn_4 mt ores omca omre otrr owfo owct bd), (rf_RW ct 0 bd 10 (cm_cpy 10 ofbd fbd)), (fn_4 omt ores omca omre otrr owfo owct obd), (rf_RW ct 0 obd 10 ofbd), (rf_RW ct 0 otb 12 oftb), (rf_RW ct 0 tb 12 (cm_cpy 12 oftb ftb)), (rf_RW ct 0 oqu 4 ofqu), (rf_RW ct 0 qu 4 (cm_cpy 4 ofqu fqu))] ++ ws) H := hP
  have hD : va_D A ([(fn_1 ch idx cl mt osta oprg ostp olas tb qu owai obin obou ohel sbo), (fn_1 och oidx ocl omt osta oprg ostp olas otb oqu owai obin obou ohel osbo), (fn_0 cl cur opts onom oohm opol otau ochg olft ocap othr opz otmp ohet ocun ovol bk), (rf_RW ct 0 cur 11 (cm_cpy 11 ocv cv)), (fn_3 bk ocin ocou oein oeou), (fn_0 ocl ocur opts onom oohm opol otau ochg olft ocap othr opz otmp ohet ocun ovol obk), (rf_RW ct 0 ocur 11 ocv), (fn_3 obk ocin ocou oein oeou), (fn_4 mt ores omca omre otrr owfo owct bd), (rf_RW ct 0 bd 10 (cm_cpy 10 ofbd fbd)), (fn_4 omt ores omca omre otrr owfo owct obd), (rf_RW ct 0 obd 10 ofbd), (rf_RW ct 0 otb 12 oftb), (rf_RW ct 0 tb 12 (cm_cpy 12 oftb ftb)), (rf_RW ct 0 oqu 4 ofqu), (rf_RW ct 0 qu 4 (cm_cpy 4 ofqu fqu))] ++ ws) := hD
  refine lv_aload_n hx hb dX1_copyFrom_108 rfl (lv_at hl 0 rfl) ?_
  refine lv_aload_n hx hb dX1_copyFrom_109 rfl (lv_at hl 1 rfl) ?_
  refine va_get (v := .long osbo) (D := D) (ci := 1) (C := RX1) (T := TX1) (N := 14) hx hb hts in_X1 hown hK hP 1 rfl rfl 13 (by decide) (hts _ kl_RX1_73) (fun _ h9 => h9) rfl dX1_copyFrom_110 ?_
  refine va_put (v := .long osbo) (ty := .long) (D := D) (ci := 1) (C := RX1) (T := TX1) (N := 14) hx hb hts in_X1 tyX1 tyX1_ok nmX1 hown hK hP hD hS 0 rfl rfl 13 (by decide) (hts _ kl_RX1_73) (fun _ h9 => h9) rfl (by decide +kernel) rfl rfl (Nat.le_of_ble_eq_true rfl) dX1_copyFrom_113 (fun H locs hP hD hS => ?_)
  have hP : va_P D vwCl ([(fn_1 ch idx cl mt osta oprg ostp olas tb qu owai obin obou ohel osbo), (fn_1 och oidx ocl omt osta oprg ostp olas otb oqu owai obin obou ohel osbo), (fn_0 cl cur opts onom oohm opol otau ochg olft ocap othr opz otmp ohet ocun ovol bk), (rf_RW ct 0 cur 11 (cm_cpy 11 ocv cv)), (fn_3 bk ocin ocou oein oeou), (fn_0 ocl ocur opts onom oohm opol otau ochg olft ocap othr opz otmp ohet ocun ovol obk), (rf_RW ct 0 ocur 11 ocv), (fn_3 obk ocin ocou oein oeou), (fn_4 mt ores omca omre otrr owfo owct bd), (rf_RW ct 0 bd 10 (cm_cpy 10 ofbd fbd)), (fn_4 omt ores omca omre otrr owfo owct obd), (rf_RW ct 0 obd 10 ofbd), (rf_RW ct 0 otb 12 oftb), (rf_RW ct 0 tb 12 (cm_cpy 12 oftb ftb)), (rf_RW ct 0 oqu 4 ofqu), (rf_RW ct 0 qu 4 (cm_cpy 4 ofqu fqu))] ++ ws) H := hP
  have hD : va_D A ([(fn_1 ch idx cl mt osta oprg ostp olas tb qu owai obin obou ohel osbo), (fn_1 och oidx ocl omt osta oprg ostp olas otb oqu owai obin obou ohel osbo), (fn_0 cl cur opts onom oohm opol otau ochg olft ocap othr opz otmp ohet ocun ovol bk), (rf_RW ct 0 cur 11 (cm_cpy 11 ocv cv)), (fn_3 bk ocin ocou oein oeou), (fn_0 ocl ocur opts onom oohm opol otau ochg olft ocap othr opz otmp ohet ocun ovol obk), (rf_RW ct 0 ocur 11 ocv), (fn_3 obk ocin ocou oein oeou), (fn_4 mt ores omca omre otrr owfo owct bd), (rf_RW ct 0 bd 10 (cm_cpy 10 ofbd fbd)), (fn_4 omt ores omca omre otrr owfo owct obd), (rf_RW ct 0 obd 10 ofbd), (rf_RW ct 0 otb 12 oftb), (rf_RW ct 0 tb 12 (cm_cpy 12 oftb ftb)), (rf_RW ct 0 oqu 4 ofqu), (rf_RW ct 0 qu 4 (cm_cpy 4 ofqu fqu))] ++ ws) := hD
  obtain ⟨hP, hD⟩ := ty_ordPD (E2 := [(fn_1 ch idx cl mt osta oprg ostp olas tb qu owai obin obou ohel osbo), (fn_0 cl cur opts onom oohm opol otau ochg olft ocap othr opz otmp ohet ocun ovol bk), (rf_RW ct 0 cur 11 (cm_cpy 11 ocv cv)), (fn_3 bk ocin ocou oein oeou), (fn_4 mt ores omca omre otrr owfo owct bd), (rf_RW ct 0 bd 10 (cm_cpy 10 ofbd fbd)), (rf_RW ct 0 tb 12 (cm_cpy 12 oftb ftb)), (rf_RW ct 0 qu 4 (cm_cpy 4 ofqu fqu)), (fn_1 och oidx ocl omt osta oprg ostp olas otb oqu owai obin obou ohel osbo), (fn_0 ocl ocur opts onom oohm opol otau ochg olft ocap othr opz otmp ohet ocun ovol obk), (rf_RW ct 0 ocur 11 ocv), (fn_3 obk ocin ocou oein oeou), (fn_4 omt ores omca omre otrr owfo owct obd), (rf_RW ct 0 obd 10 ofbd), (rf_RW ct 0 otb 12 oftb), (rf_RW ct 0 oqu 4 ofqu)]) (n := 16) [0, 2, 3, 4, 8, 9, 13, 15, 1, 5, 6, 7, 10, 11, 12, 14] hP hD rfl rfl (by decide +kernel)
  exact W.vret hx hb hr (fun t ht hW => ⟨⟨ws, rfl, hT, by rw [ht]; exact hP, by rw [hAe]; exact hD⟩, hS.F ht⟩) hS.2.2 dX1_copyFrom_116
set_option maxRecDepth 100000 in
set_option maxHeartbeats 4000000 in
theorem r_X7_clear (l : Launch) (D : va_G) (ct : Nat → ClassId) (S : ty_S) (ws : va_W) (ph : va_W → Prop) (xx : Nat → Nat → Nat → Prop) (se : Nat) (efc : Int32) (fad : Int32) (hea : Int32) (coo : Int32) (low : Int32) (hig : Int32) (hot : Int32) (amb : Int32) (wlo : Int32) (whi : Int32) (who : Int32) (spa : Int32) (sz : Nat) (hT : ty_V ct S ph ws) (hph : ty_C ph xx) (hy1 : ty_y1 xx) : Met l yX7_clear (ws_ yX7_clear cX7_clear 1 none) ({ frames := 0, cells := 0, slots := 0, locals := 0 } : Room) (va_Pc [.ref se] (cmP D ct sz ([(fn_7 se efc fad hea coo low hig hot amb wlo whi who spa)] ++ ws))) (va_Qv (fun (u9 : va_W) => ty_V ct S ph u9) (cmB D ([(fn_7 se efc fad hea coo low hig hot amb wlo whi who spa)] ++ ws) sz (fun (u9 : va_W) => ([(fn_7 se (990) (100000) (100) (5) (0) (5000) (600) (250) (0) (5000) (1000) (0))] ++ u9))) (va_A ([(fn_7 se efc fad hea coo low hig hot amb wlo whi who spa)] ++ ws) sz)) 0 0 (va_A ([(fn_7 se efc fad hea coo low hig hot amb wlo whi who spa)] ++ ws) sz) := by
  refine Met.ofW (cc := cX7_clear) (maxL := 1) (ret := none) (by decide) rfl ?_
  intro p e s m args below meth c s₁ B hml hv
  obtain ⟨rfl, hsz, hP, hK, hD0, hX⟩ := hv
  have hx := B.exec
  have hb := B.bytes
  have hr := B.returns
  have hts := ws_all (atoms_spec (ws := ws_ yX7_clear cX7_clear 1 none) B.pre)
  have hown : s.vm.findClass RX7 = some m.cls := findClass_of_methodNamed B.named
  have hlocks := B.notSynchronized
  subst hsz
  have hD := hD0.self (sz := s.heap.size)
  generalize hAe : va_A ([(fn_7 se efc fad hea coo low hig hot amb wlo whi who spa)] ++ ws) s.heap.size = A at hD hX ⊢
  have hA : ∀ q : Nat, s.heap.size ≤ q → A q := fun q h => by rw [← hAe]; exact Or.inr h
  have hS : va_S A s.heap s.heap [] := va_S.rf
  have hl := lv_entry ([.ref se]) (n := 1) (Nat.le_of_ble_eq_true rfl)
  rw [lg_entry_eq]
  generalize (lg_sl ([.ref se]) ++ List.replicate (1 - (lg_sl ([.ref se])).length) Slot.unset).toArray = ls at hl ⊢
  have hl : lv_has ls 1 [(0, .ref se)] := hl
  refine lv_aload_n hx hb dX7_clear_0 rfl (lv_at hl 0 rfl) ?_
  refine lv_sipush (v := 990) hx hb dX7_clear_1 (by decide) ?_
  refine va_put (v := .int 990) (ty := .int) (D := D) (ci := 7) (C := RX7) (T := TX7) (N := 12) hx hb hts in_X7 tyX7 tyX7_ok nmX7 hown hK hP hD hS 0 rfl rfl 0 (by decide) (hts _ kl_RX7_12) (fun _ h9 => h9) rfl (by decide +kernel) rfl rfl (Nat.le_of_ble_eq_true rfl) dX7_clear_4 (fun H locs hP hD hS => ?_)
  have hP : va_P D vwCl ([(fn_7 se (990) fad hea coo low hig hot amb wlo whi who spa)] ++ ws) H := hP
  have hD : va_D A ([(fn_7 se (990) fad hea coo low hig hot amb wlo whi who spa)] ++ ws) := hD
  refine lv_aload_n hx hb dX7_clear_7 rfl (lv_at hl 0 rfl) ?_
  refine lv_ldc hx hb hown (hts _ kl_RX7_16) dX7_clear_8 ?_
  refine va_put (v := .int 100000) (ty := .int) (D := D) (ci := 7) (C := RX7) (T := TX7) (N := 12) hx hb hts in_X7 tyX7 tyX7_ok nmX7 hown hK hP hD hS 0 rfl rfl 1 (by decide) (hts _ kl_RX7_17) (fun _ h9 => h9) rfl (by decide +kernel) rfl rfl (Nat.le_of_ble_eq_true rfl) dX7_clear_10 (fun H locs hP hD hS => ?_)
  have hP : va_P D vwCl ([(fn_7 se (990) (100000) hea coo low hig hot amb wlo whi who spa)] ++ ws) H := hP
  have hD : va_D A ([(fn_7 se (990) (100000) hea coo low hig hot amb wlo whi who spa)] ++ ws) := hD
  refine lv_aload_n hx hb dX7_clear_13 rfl (lv_at hl 0 rfl) ?_
  refine lv_bipush (v := 100) hx hb dX7_clear_14 (by decide) ?_
  refine va_put (v := .int 100) (ty := .int) (D := D) (ci := 7) (C := RX7) (T := TX7) (N := 12) hx hb hts in_X7 tyX7 tyX7_ok nmX7 hown hK hP hD hS 0 rfl rfl 2 (by decide) (hts _ kl_RX7_20) (fun _ h9 => h9) rfl (by decide +kernel) rfl rfl (Nat.le_of_ble_eq_true rfl) dX7_clear_16 (fun H locs hP hD hS => ?_)
  have hP : va_P D vwCl ([(fn_7 se (990) (100000) (100) coo low hig hot amb wlo whi who spa)] ++ ws) H := hP
  have hD : va_D A ([(fn_7 se (990) (100000) (100) coo low hig hot amb wlo whi who spa)] ++ ws) := hD
  refine lv_aload_n hx hb dX7_clear_19 rfl (lv_at hl 0 rfl) ?_
  refine lv_iconst (v := 5) hx hb dX7_clear_20 (by decide) ?_
  refine va_put (v := .int 5) (ty := .int) (D := D) (ci := 7) (C := RX7) (T := TX7) (N := 12) hx hb hts in_X7 tyX7 tyX7_ok nmX7 hown hK hP hD hS 0 rfl rfl 3 (by decide) (hts _ kl_RX7_23) (fun _ h9 => h9) rfl (by decide +kernel) rfl rfl (Nat.le_of_ble_eq_true rfl) dX7_clear_21 (fun H locs hP hD hS => ?_)
  have hP : va_P D vwCl ([(fn_7 se (990) (100000) (100) (5) low hig hot amb wlo whi who spa)] ++ ws) H := hP
  have hD : va_D A ([(fn_7 se (990) (100000) (100) (5) low hig hot amb wlo whi who spa)] ++ ws) := hD
  refine lv_aload_n hx hb dX7_clear_24 rfl (lv_at hl 0 rfl) ?_
  refine lv_iconst (v := 0) hx hb dX7_clear_25 (by decide) ?_
  refine va_put (v := .int 0) (ty := .int) (D := D) (ci := 7) (C := RX7) (T := TX7) (N := 12) hx hb hts in_X7 tyX7 tyX7_ok nmX7 hown hK hP hD hS 0 rfl rfl 4 (by decide) (hts _ kl_RX7_26) (fun _ h9 => h9) rfl (by decide +kernel) rfl rfl (Nat.le_of_ble_eq_true rfl) dX7_clear_26 (fun H locs hP hD hS => ?_)
  have hP : va_P D vwCl ([(fn_7 se (990) (100000) (100) (5) (0) hig hot amb wlo whi who spa)] ++ ws) H := hP
  have hD : va_D A ([(fn_7 se (990) (100000) (100) (5) (0) hig hot amb wlo whi who spa)] ++ ws) := hD
  refine lv_aload_n hx hb dX7_clear_29 rfl (lv_at hl 0 rfl) ?_
  refine lv_sipush (v := 5000) hx hb dX7_clear_30 (by decide) ?_
  refine va_put (v := .int 5000) (ty := .int) (D := D) (ci := 7) (C := RX7) (T := TX7) (N := 12) hx hb hts in_X7 tyX7 tyX7_ok nmX7 hown hK hP hD hS 0 rfl rfl 5 (by decide) (hts _ kl_RX7_29) (fun _ h9 => h9) rfl (by decide +kernel) rfl rfl (Nat.le_of_ble_eq_true rfl) dX7_clear_33 (fun H locs hP hD hS => ?_)
  have hP : va_P D vwCl ([(fn_7 se (990) (100000) (100) (5) (0) (5000) hot amb wlo whi who spa)] ++ ws) H := hP
  have hD : va_D A ([(fn_7 se (990) (100000) (100) (5) (0) (5000) hot amb wlo whi who spa)] ++ ws) := hD
  refine lv_aload_n hx hb dX7_clear_36 rfl (lv_at hl 0 rfl) ?_
  refine lv_sipush (v := 600) hx hb dX7_clear_37 (by decide) ?_
  refine va_put (v := .int 600) (ty := .int) (D := D) (ci := 7) (C := RX7) (T := TX7) (N := 12) hx hb hts in_X7 tyX7 tyX7_ok nmX7 hown hK hP hD hS 0 rfl rfl 6 (by decide) (hts _ kl_RX7_32) (fun _ h9 => h9) rfl (by decide +kernel) rfl rfl (Nat.le_of_ble_eq_true rfl) dX7_clear_40 (fun H locs hP hD hS => ?_)
  have hP : va_P D vwCl ([(fn_7 se (990) (100000) (100) (5) (0) (5000) (600) amb wlo whi who spa)] ++ ws) H := hP
  have hD : va_D A ([(fn_7 se (990) (100000) (100) (5) (0) (5000) (600) amb wlo whi who spa)] ++ ws) := hD
  refine lv_aload_n hx hb dX7_clear_43 rfl (lv_at hl 0 rfl) ?_
  refine lv_sipush (v := 250) hx hb dX7_clear_44 (by decide) ?_
  refine va_put (v := .int 250) (ty := .int) (D := D) (ci := 7) (C := RX7) (T := TX7) (N := 12) hx hb hts in_X7 tyX7 tyX7_ok nmX7 hown hK hP hD hS 0 rfl rfl 7 (by decide) (hts _ kl_RX7_35) (fun _ h9 => h9) rfl (by decide +kernel) rfl rfl (Nat.le_of_ble_eq_true rfl) dX7_clear_47 (fun H locs hP hD hS => ?_)
  have hP : va_P D vwCl ([(fn_7 se (990) (100000) (100) (5) (0) (5000) (600) (250) wlo whi who spa)] ++ ws) H := hP
  have hD : va_D A ([(fn_7 se (990) (100000) (100) (5) (0) (5000) (600) (250) wlo whi who spa)] ++ ws) := hD
  refine lv_aload_n hx hb dX7_clear_50 rfl (lv_at hl 0 rfl) ?_
  refine lv_iconst (v := 0) hx hb dX7_clear_51 (by decide) ?_
  refine va_put (v := .int 0) (ty := .int) (D := D) (ci := 7) (C := RX7) (T := TX7) (N := 12) hx hb hts in_X7 tyX7 tyX7_ok nmX7 hown hK hP hD hS 0 rfl rfl 8 (by decide) (hts _ kl_RX7_38) (fun _ h9 => h9) rfl (by decide +kernel) rfl rfl (Nat.le_of_ble_eq_true rfl) dX7_clear_52 (fun H locs hP hD hS => ?_)
  have hP : va_P D vwCl ([(fn_7 se (990) (100000) (100) (5) (0) (5000) (600) (250) (0) whi who spa)] ++ ws) H := hP
  have hD : va_D A ([(fn_7 se (990) (100000) (100) (5) (0) (5000) (600) (250) (0) whi who spa)] ++ ws) := hD
  refine lv_aload_n hx hb dX7_clear_55 rfl (lv_at hl 0 rfl) ?_
  refine lv_sipush (v := 5000) hx hb dX7_clear_56 (by decide) ?_
  refine va_put (v := .int 5000) (ty := .int) (D := D) (ci := 7) (C := RX7) (T := TX7) (N := 12) hx hb hts in_X7 tyX7 tyX7_ok nmX7 hown hK hP hD hS 0 rfl rfl 9 (by decide) (hts _ kl_RX7_41) (fun _ h9 => h9) rfl (by decide +kernel) rfl rfl (Nat.le_of_ble_eq_true rfl) dX7_clear_59 (fun H locs hP hD hS => ?_)
  have hP : va_P D vwCl ([(fn_7 se (990) (100000) (100) (5) (0) (5000) (600) (250) (0) (5000) who spa)] ++ ws) H := hP
  have hD : va_D A ([(fn_7 se (990) (100000) (100) (5) (0) (5000) (600) (250) (0) (5000) who spa)] ++ ws) := hD
  refine lv_aload_n hx hb dX7_clear_62 rfl (lv_at hl 0 rfl) ?_
  refine lv_sipush (v := 1000) hx hb dX7_clear_63 (by decide) ?_
  refine va_put (v := .int 1000) (ty := .int) (D := D) (ci := 7) (C := RX7) (T := TX7) (N := 12) hx hb hts in_X7 tyX7 tyX7_ok nmX7 hown hK hP hD hS 0 rfl rfl 10 (by decide) (hts _ kl_RX7_44) (fun _ h9 => h9) rfl (by decide +kernel) rfl rfl (Nat.le_of_ble_eq_true rfl) dX7_clear_66 (fun H locs hP hD hS => ?_)
  have hP : va_P D vwCl ([(fn_7 se (990) (100000) (100) (5) (0) (5000) (600) (250) (0) (5000) (1000) spa)] ++ ws) H := hP
  have hD : va_D A ([(fn_7 se (990) (100000) (100) (5) (0) (5000) (600) (250) (0) (5000) (1000) spa)] ++ ws) := hD
  refine lv_aload_n hx hb dX7_clear_69 rfl (lv_at hl 0 rfl) ?_
  refine lv_iconst (v := 0) hx hb dX7_clear_70 (by decide) ?_
  refine va_put (v := .int 0) (ty := .int) (D := D) (ci := 7) (C := RX7) (T := TX7) (N := 12) hx hb hts in_X7 tyX7 tyX7_ok nmX7 hown hK hP hD hS 0 rfl rfl 11 (by decide) (hts _ kl_RX7_47) (fun _ h9 => h9) rfl (by decide +kernel) rfl rfl (Nat.le_of_ble_eq_true rfl) dX7_clear_71 (fun H locs hP hD hS => ?_)
  have hP : va_P D vwCl ([(fn_7 se (990) (100000) (100) (5) (0) (5000) (600) (250) (0) (5000) (1000) (0))] ++ ws) H := hP
  have hD : va_D A ([(fn_7 se (990) (100000) (100) (5) (0) (5000) (600) (250) (0) (5000) (1000) (0))] ++ ws) := hD
  exact W.vret hx hb hr (fun t ht hW => ⟨⟨ws, rfl, hT, by rw [ht]; exact hP, by rw [hAe]; exact hD⟩, hS.F ht⟩) hS.2.2 dX7_clear_74
set_option maxRecDepth 100000 in
set_option maxHeartbeats 4000000 in
theorem r_X8_clear (l : Launch) (D : va_G) (ct : Nat → ClassId) (S : ty_S) (ws : va_W) (ph : va_W → Prop) (xx : Nat → Nat → Nat → Prop) (rc : Nat) (rlim : Int32) (rwid : Int32) (rnu : Nat) (rold : Int32) (rsiz : Int32) (sz : Nat) (hT : ty_V ct S ph ws) (hph : ty_C ph xx) (hy1 : ty_y1 xx) : Met l yX8_clear (ws_ yX8_clear cX8_clear 1 none) ({ frames := 0, cells := 0, slots := 0, locals := 0 } : Room) (va_Pc [.ref rc] (cmP D ct sz ([(fn_8 rc rlim rwid rnu rold rsiz)] ++ ws))) (va_Qv (fun (u9 : va_W) => ty_V ct S ph u9) (cmB D ([(fn_8 rc rlim rwid rnu rold rsiz)] ++ ws) sz (fun (u9 : va_W) => ([(fn_8 rc rlim rwid rnu (0) (0))] ++ u9))) (va_A ([(fn_8 rc rlim rwid rnu rold rsiz)] ++ ws) sz)) 0 0 (va_A ([(fn_8 rc rlim rwid rnu rold rsiz)] ++ ws) sz) := by
  refine Met.ofW (cc := cX8_clear) (maxL := 1) (ret := none) (by decide) rfl ?_
  intro p e s m args below meth c s₁ B hml hv
  obtain ⟨rfl, hsz, hP, hK, hD0, hX⟩ := hv
  have hx := B.exec
  have hb := B.bytes
  have hr := B.returns
  have hts := ws_all (atoms_spec (ws := ws_ yX8_clear cX8_clear 1 none) B.pre)
  have hown : s.vm.findClass RX8 = some m.cls := findClass_of_methodNamed B.named
  have hlocks := B.notSynchronized
  subst hsz
  have hD := hD0.self (sz := s.heap.size)
  generalize hAe : va_A ([(fn_8 rc rlim rwid rnu rold rsiz)] ++ ws) s.heap.size = A at hD hX ⊢
  have hA : ∀ q : Nat, s.heap.size ≤ q → A q := fun q h => by rw [← hAe]; exact Or.inr h
  have hS : va_S A s.heap s.heap [] := va_S.rf
  have hl := lv_entry ([.ref rc]) (n := 1) (Nat.le_of_ble_eq_true rfl)
  rw [lg_entry_eq]
  generalize (lg_sl ([.ref rc]) ++ List.replicate (1 - (lg_sl ([.ref rc])).length) Slot.unset).toArray = ls at hl ⊢
  have hl : lv_has ls 1 [(0, .ref rc)] := hl
  refine lv_aload_n hx hb dX8_clear_0 rfl (lv_at hl 0 rfl) ?_
  refine lv_iconst (v := 0) hx hb dX8_clear_1 (by decide) ?_
  refine va_put (v := .int 0) (ty := .int) (D := D) (ci := 8) (C := RX8) (T := TX8) (N := 5) hx hb hts in_X8 tyX8 tyX8_ok nmX8 hown hK hP hD hS 0 rfl rfl 3 (by decide) (hts _ kl_RX8_26) (fun _ h9 => h9) rfl (by decide +kernel) rfl rfl (Nat.le_of_ble_eq_true rfl) dX8_clear_2 (fun H locs hP hD hS => ?_)
  have hP : va_P D vwCl ([(fn_8 rc rlim rwid rnu (0) rsiz)] ++ ws) H := hP
  have hD : va_D A ([(fn_8 rc rlim rwid rnu (0) rsiz)] ++ ws) := hD
  refine lv_aload_n hx hb dX8_clear_5 rfl (lv_at hl 0 rfl) ?_
  refine lv_iconst (v := 0) hx hb dX8_clear_6 (by decide) ?_
  refine va_put (v := .int 0) (ty := .int) (D := D) (ci := 8) (C := RX8) (T := TX8) (N := 5) hx hb hts in_X8 tyX8 tyX8_ok nmX8 hown hK hP hD hS 0 rfl rfl 4 (by decide) (hts _ kl_RX8_29) (fun _ h9 => h9) rfl (by decide +kernel) rfl rfl (Nat.le_of_ble_eq_true rfl) dX8_clear_7 (fun H locs hP hD hS => ?_)
  have hP : va_P D vwCl ([(fn_8 rc rlim rwid rnu (0) (0))] ++ ws) H := hP
  have hD : va_D A ([(fn_8 rc rlim rwid rnu (0) (0))] ++ ws) := hD
  exact W.vret hx hb hr (fun t ht hW => ⟨⟨ws, rfl, hT, by rw [ht]; exact hP, by rw [hAe]; exact hD⟩, hS.F ht⟩) hS.2.2 dX8_clear_10
def a_X8_get (rlim : Int32) (rwid : Int32) (rold : Int32) (frn : Nat → Int32) (p1 : Int32) (p2 : Int32) (r : Int32) : Prop := (∃ (r_1 : Int32), (a_X8_placeOf rlim rwid rold p1 r_1) ∧ (∃ (r_6 : Int32), (a_X10_at_150 frn (r_1 + p2) r_6) ∧ (r = r_6)))
set_option maxRecDepth 100000 in
set_option maxHeartbeats 4000000 in
theorem r_X8_get (l : Launch) (D : va_G) (ct : Nat → ClassId) (S : ty_S) (ws : va_W) (ph : va_W → Prop) (xx : Nat → Nat → Nat → Prop) (rc : Nat) (rlim : Int32) (rwid : Int32) (rnu : Nat) (rold : Int32) (rsiz : Int32) (frn : Nat → Int32) (p1 : Int32) (p2 : Int32) (sz : Nat) (hT : ty_V ct S ph ws) (hph : ty_C ph xx) (hy1 : ty_y1 xx) : Met l yX8_get (ws_ yX8_get cX8_get 3 (some .int)) ({ frames := 1, cells := 0, slots := 0, locals := 22 } : Room) (va_Pc [.ref rc, .int p1, .int p2] (cmP D ct sz ([(fn_8 rc rlim rwid rnu rold rsiz), (rf_RW ct 0 rnu 150 frn)] ++ ws))) (va_Qi (fun (r : Int32) (u9 : va_W) => ty_V ct S ph u9 ∧ (a_X8_get rlim rwid rold frn p1 p2 r)) (cmB D ([(fn_8 rc rlim rwid rnu rold rsiz), (rf_RW ct 0 rnu 150 frn)] ++ ws) sz (fun (u9 : va_W) => ([(fn_8 rc rlim rwid rnu rold rsiz), (rf_RW ct 0 rnu 150 frn)] ++ u9))) (va_A ([(fn_8 rc rlim rwid rnu rold rsiz), (rf_RW ct 0 rnu 150 frn)] ++ ws) sz)) 0 0 (va_A ([(fn_8 rc rlim rwid rnu rold rsiz), (rf_RW ct 0 rnu 150 frn)] ++ ws) sz) := by
  refine Met.ofW (cc := cX8_get) (maxL := 3) (ret := (some .int)) (by decide) rfl ?_
  intro p e s m args below meth c s₁ B hml hv
  obtain ⟨rfl, hsz, hP, hK, hD0, hX⟩ := hv
  have hx := B.exec
  have hb := B.bytes
  have hr := B.returns
  have hts := ws_all (atoms_spec (ws := ws_ yX8_get cX8_get 3 (some .int)) B.pre)
  have hown : s.vm.findClass RX8 = some m.cls := findClass_of_methodNamed B.named
  have hlocks := B.notSynchronized
  subst hsz
  have hD := hD0.self (sz := s.heap.size)
  generalize hAe : va_A ([(fn_8 rc rlim rwid rnu rold rsiz), (rf_RW ct 0 rnu 150 frn)] ++ ws) s.heap.size = A at hD hX ⊢
  have hA : ∀ q : Nat, s.heap.size ≤ q → A q := fun q h => by rw [← hAe]; exact Or.inr h
  have hS : va_S A s.heap s.heap [] := va_S.rf
  have hl := lv_entry ([.ref rc, .int p1, .int p2]) (n := 3) (Nat.le_of_ble_eq_true rfl)
  rw [lg_entry_eq]
  generalize (lg_sl ([.ref rc, .int p1, .int p2]) ++ List.replicate (3 - (lg_sl ([.ref rc, .int p1, .int p2])).length) Slot.unset).toArray = ls at hl ⊢
  have hl : lv_has ls 3 [(0, .ref rc), (1, .int p1), (2, .int p2)] := hl
  refine lv_aload_n hx hb dX8_get_0 rfl (lv_at hl 0 rfl) ?_
  refine va_get (v := .ref rnu) (D := D) (ci := 8) (C := RX8) (T := TX8) (N := 5) hx hb hts in_X8 hown hK hP 0 rfl rfl 2 (by decide) (hts _ kl_RX8_22) (fun _ h9 => h9) rfl dX8_get_1 ?_
  refine lv_aload_n hx hb dX8_get_4 rfl (lv_at hl 0 rfl) ?_
  refine lv_iload_n hx hb dX8_get_5 rfl (lv_at hl 1 rfl) ?_
  obtain ⟨hP, hD⟩ := ty_opPD (E1 := [(rf_RW ct 0 rnu 150 frn)]) (E2 := [(fn_8 rc rlim rwid rnu rold rsiz)]) (n := 2) [1, 0] hP hD rfl rfl (by decide +kernel) ty_mv2
  refine ty_Ki hP hD hS hA (va_runV (As := [.int p1]) (rest := [.ref rnu]) ⟨hx, hb, hml, hown, hts⟩ (r_X8_placeOf l D ct (fun _ => none) [] (fun _ => True) (fun _ _ _ => True) rc rlim rwid rnu rold rsiz p1 _ ty_V0 ty_C0 ty_y10) (cm_V 1 hts kc_X8_placeOf ki_RX8 kl_RX8_32 kv_X8_placeOf kx_X8_placeOf kd_X8_placeOf ⟨Nat.le_of_ble_eq_true rfl, Nat.le_of_ble_eq_true rfl⟩) (ty_preE (ci := 8) hP hK hD hS hA hX rfl (ty_app (j := 0) rfl)) rfl rfl hl.1 rfl (lv_room (Nat.le_of_ble_eq_true rfl)) dX8_get_6 ⟨Nat.le_of_ble_eq_true rfl, Nat.le_of_ble_eq_true rfl⟩) (fun r_1 u H locs hw_2 hP hD hS => ?_)
  obtain ⟨ws_3, rfl⟩ : ∃ z, z = u := ⟨_, rfl⟩
  obtain ⟨hT9_4, hp_5⟩ := hw_2
  have hp_5 : (a_X8_placeOf rlim rwid rold p1 r_1) := hp_5
  obtain ⟨hP, hD⟩ := ty_bkPD (E := [(rf_RW ct 0 rnu 150 frn), (fn_8 rc rlim rwid rnu rold rsiz)]) hP hD rfl
  refine lv_iload_n hx hb dX8_get_9 rfl (lv_at hl 2 rfl) ?_
  refine lv_iadd hx hb dX8_get_10 ?_
  obtain ⟨hP, hD⟩ := ty_opPD (E1 := [(fn_8 rc rlim rwid rnu rold rsiz)]) (E2 := [(rf_RW ct 0 rnu 150 frn)]) (n := 2) [1, 0] hP hD rfl rfl (by decide +kernel) ty_mv2
  refine ty_Ki hP hD hS hA (va_runSN (As := [.ref rnu, .int (r_1 + p2)]) (rest := []) ⟨hx, hb, hml, hown, hts⟩ (r_X10_at_150 l D ct (fun _ => none) [] (fun _ => True) (fun _ _ _ => True) rnu frn (r_1 + p2) _ ty_V0 ty_C0 ty_y10) (cm_SN 2 hts kc_X10_at ki_RX10 kl_RX8_36 ks_X10_at kd_X10_at ⟨Nat.le_of_ble_eq_true rfl, Nat.le_of_ble_eq_true rfl⟩) (ty_preS hP hK hD hS hA hX) rfl rfl hl.1 rfl (lv_room (Nat.le_of_ble_eq_true rfl)) dX8_get_11 ⟨Nat.le_of_ble_eq_true rfl, Nat.le_of_ble_eq_true rfl⟩) (fun r_6 u H locs hw_7 hP hD hS => ?_)
  obtain ⟨ws_8, rfl⟩ : ∃ z, z = u := ⟨_, rfl⟩
  obtain ⟨hT9_9, hp_10⟩ := hw_7
  have hp_10 : (a_X10_at_150 frn (r_1 + p2) r_6) := hp_10
  obtain ⟨hP, hD⟩ := ty_bkPD (E := [(fn_8 rc rlim rwid rnu rold rsiz), (rf_RW ct 0 rnu 150 frn)]) hP hD rfl
  exact W.iret (v := r_6) hx hb hr (fun t ht hW => ⟨⟨r_6, ws, rfl, ⟨hT, ⟨r_1, hp_5, ⟨r_6, hp_10, rfl⟩⟩⟩, by rw [ht]; exact hP, by rw [hAe]; exact hD⟩, hS.F ht⟩) hS.2.2 dX8_get_14
def a_X8_get_240 (llim : Int32) (lwid : Int32) (lold : Int32) (fln : Nat → Int32) (p1 : Int32) (p2 : Int32) (r : Int32) : Prop := (∃ (r_1 : Int32), (a_X8_placeOf llim lwid lold p1 r_1) ∧ (∃ (r_6 : Int32), (a_X10_at_240 fln (r_1 + p2) r_6) ∧ (r = r_6)))
set_option maxRecDepth 100000 in
set_option maxHeartbeats 4000000 in
theorem r_X8_get_240 (l : Launch) (D : va_G) (ct : Nat → ClassId) (S : ty_S) (ws : va_W) (ph : va_W → Prop) (xx : Nat → Nat → Nat → Prop) (lg : Nat) (llim : Int32) (lwid : Int32) (lnu : Nat) (lold : Int32) (lsiz : Int32) (fln : Nat → Int32) (p1 : Int32) (p2 : Int32) (sz : Nat) (hT : ty_V ct S ph ws) (hph : ty_C ph xx) (hy1 : ty_y1 xx) : Met l yX8_get (ws_ yX8_get cX8_get 3 (some .int)) ({ frames := 1, cells := 0, slots := 0, locals := 22 } : Room) (va_Pc [.ref lg, .int p1, .int p2] (cmP D ct sz ([(fn_8 lg llim lwid lnu lold lsiz), (rf_RW ct 0 lnu 240 fln)] ++ ws))) (va_Qi (fun (r : Int32) (u9 : va_W) => ty_V ct S ph u9 ∧ (a_X8_get_240 llim lwid lold fln p1 p2 r)) (cmB D ([(fn_8 lg llim lwid lnu lold lsiz), (rf_RW ct 0 lnu 240 fln)] ++ ws) sz (fun (u9 : va_W) => ([(fn_8 lg llim lwid lnu lold lsiz), (rf_RW ct 0 lnu 240 fln)] ++ u9))) (va_A ([(fn_8 lg llim lwid lnu lold lsiz), (rf_RW ct 0 lnu 240 fln)] ++ ws) sz)) 0 0 (va_A ([(fn_8 lg llim lwid lnu lold lsiz), (rf_RW ct 0 lnu 240 fln)] ++ ws) sz) := by
  refine Met.ofW (cc := cX8_get) (maxL := 3) (ret := (some .int)) (by decide) rfl ?_
  intro p e s m args below meth c s₁ B hml hv
  obtain ⟨rfl, hsz, hP, hK, hD0, hX⟩ := hv
  have hx := B.exec
  have hb := B.bytes
  have hr := B.returns
  have hts := ws_all (atoms_spec (ws := ws_ yX8_get cX8_get 3 (some .int)) B.pre)
  have hown : s.vm.findClass RX8 = some m.cls := findClass_of_methodNamed B.named
  have hlocks := B.notSynchronized
  subst hsz
  have hD := hD0.self (sz := s.heap.size)
  generalize hAe : va_A ([(fn_8 lg llim lwid lnu lold lsiz), (rf_RW ct 0 lnu 240 fln)] ++ ws) s.heap.size = A at hD hX ⊢
  have hA : ∀ q : Nat, s.heap.size ≤ q → A q := fun q h => by rw [← hAe]; exact Or.inr h
  have hS : va_S A s.heap s.heap [] := va_S.rf
  have hl := lv_entry ([.ref lg, .int p1, .int p2]) (n := 3) (Nat.le_of_ble_eq_true rfl)
  rw [lg_entry_eq]
  generalize (lg_sl ([.ref lg, .int p1, .int p2]) ++ List.replicate (3 - (lg_sl ([.ref lg, .int p1, .int p2])).length) Slot.unset).toArray = ls at hl ⊢
  have hl : lv_has ls 3 [(0, .ref lg), (1, .int p1), (2, .int p2)] := hl
  refine lv_aload_n hx hb dX8_get_0 rfl (lv_at hl 0 rfl) ?_
  refine va_get (v := .ref lnu) (D := D) (ci := 8) (C := RX8) (T := TX8) (N := 5) hx hb hts in_X8 hown hK hP 0 rfl rfl 2 (by decide) (hts _ kl_RX8_22) (fun _ h9 => h9) rfl dX8_get_1 ?_
  refine lv_aload_n hx hb dX8_get_4 rfl (lv_at hl 0 rfl) ?_
  refine lv_iload_n hx hb dX8_get_5 rfl (lv_at hl 1 rfl) ?_
  obtain ⟨hP, hD⟩ := ty_opPD (E1 := [(rf_RW ct 0 lnu 240 fln)]) (E2 := [(fn_8 lg llim lwid lnu lold lsiz)]) (n := 2) [1, 0] hP hD rfl rfl (by decide +kernel) ty_mv2
  refine ty_Ki hP hD hS hA (va_runV (As := [.int p1]) (rest := [.ref lnu]) ⟨hx, hb, hml, hown, hts⟩ (r_X8_placeOf l D ct (fun _ => none) [] (fun _ => True) (fun _ _ _ => True) lg llim lwid lnu lold lsiz p1 _ ty_V0 ty_C0 ty_y10) (cm_V 1 hts kc_X8_placeOf ki_RX8 kl_RX8_32 kv_X8_placeOf kx_X8_placeOf kd_X8_placeOf ⟨Nat.le_of_ble_eq_true rfl, Nat.le_of_ble_eq_true rfl⟩) (ty_preE (ci := 8) hP hK hD hS hA hX rfl (ty_app (j := 0) rfl)) rfl rfl hl.1 rfl (lv_room (Nat.le_of_ble_eq_true rfl)) dX8_get_6 ⟨Nat.le_of_ble_eq_true rfl, Nat.le_of_ble_eq_true rfl⟩) (fun r_1 u H locs hw_2 hP hD hS => ?_)
  obtain ⟨ws_3, rfl⟩ : ∃ z, z = u := ⟨_, rfl⟩
  obtain ⟨hT9_4, hp_5⟩ := hw_2
  have hp_5 : (a_X8_placeOf llim lwid lold p1 r_1) := hp_5
  obtain ⟨hP, hD⟩ := ty_bkPD (E := [(rf_RW ct 0 lnu 240 fln), (fn_8 lg llim lwid lnu lold lsiz)]) hP hD rfl
  refine lv_iload_n hx hb dX8_get_9 rfl (lv_at hl 2 rfl) ?_
  refine lv_iadd hx hb dX8_get_10 ?_
  obtain ⟨hP, hD⟩ := ty_opPD (E1 := [(fn_8 lg llim lwid lnu lold lsiz)]) (E2 := [(rf_RW ct 0 lnu 240 fln)]) (n := 2) [1, 0] hP hD rfl rfl (by decide +kernel) ty_mv2
  refine ty_Ki hP hD hS hA (va_runSN (As := [.ref lnu, .int (r_1 + p2)]) (rest := []) ⟨hx, hb, hml, hown, hts⟩ (r_X10_at_240 l D ct (fun _ => none) [] (fun _ => True) (fun _ _ _ => True) lnu fln (r_1 + p2) _ ty_V0 ty_C0 ty_y10) (cm_SN 2 hts kc_X10_at ki_RX10 kl_RX8_36 ks_X10_at kd_X10_at ⟨Nat.le_of_ble_eq_true rfl, Nat.le_of_ble_eq_true rfl⟩) (ty_preS hP hK hD hS hA hX) rfl rfl hl.1 rfl (lv_room (Nat.le_of_ble_eq_true rfl)) dX8_get_11 ⟨Nat.le_of_ble_eq_true rfl, Nat.le_of_ble_eq_true rfl⟩) (fun r_6 u H locs hw_7 hP hD hS => ?_)
  obtain ⟨ws_8, rfl⟩ : ∃ z, z = u := ⟨_, rfl⟩
  obtain ⟨hT9_9, hp_10⟩ := hw_7
  have hp_10 : (a_X10_at_240 fln (r_1 + p2) r_6) := hp_10
  obtain ⟨hP, hD⟩ := ty_bkPD (E := [(fn_8 lg llim lwid lnu lold lsiz), (rf_RW ct 0 lnu 240 fln)]) hP hD rfl
  exact W.iret (v := r_6) hx hb hr (fun t ht hW => ⟨⟨r_6, ws, rfl, ⟨hT, ⟨r_1, hp_5, ⟨r_6, hp_10, rfl⟩⟩⟩, by rw [ht]; exact hP, by rw [hAe]; exact hD⟩, hS.F ht⟩) hS.2.2 dX8_get_14
def a_X9_recordCounts (rlim : Int32) (rwid : Int32) (rold : Int32) (frn : Nat → Int32) (p1 : Int32) (p2 : Int32) (r : Int32) : Prop := (∃ (r_1 : Int32), (a_X8_get rlim rwid rold frn p1 (0 : Int32) r_1) ∧ ((¬ r_1 = p2 ∧ (r = 0)) ∨ (r_1 = p2 ∧ (∃ (r_7 : Int32), (a_X8_get rlim rwid rold frn p1 (4 : Int32) r_7) ∧ ((¬ r_7 = (1 : Int32) ∧ (r = 0)) ∨ (r_7 = (1 : Int32) ∧ (r = 1)))))))
set_option maxRecDepth 100000 in
set_option maxHeartbeats 4000000 in
theorem r_X9_recordCounts (l : Launch) (D : va_G) (ct : Nat → ClassId) (S : ty_S) (ws : va_W) (ph : va_W → Prop) (xx : Nat → Nat → Nat → Prop) (wo : Nat) (tim : Int32) (se : Nat) (cu : Nat) (pr : Nat) (cco : Int32) (chs : Nat) (rc : Nat) (lg : Nat) (rlim : Int32) (rwid : Int32) (rnu : Nat) (rold : Int32) (rsiz : Int32) (frn : Nat → Int32) (p1 : Int32) (p2 : Int32) (sz : Nat) (hT : ty_V ct S ph ws) (hph : ty_C ph xx) (hy1 : ty_y1 xx) : Met l yX9_recordCounts (ws_ yX9_recordCounts cX9_recordCounts 3 (some .boolean)) ({ frames := 2, cells := 0, slots := 0, locals := 44 } : Room) (va_Pc [.ref wo, .int p1, .int p2] (cmP D ct sz ([(fn_9 wo tim se cu pr cco chs rc lg), (fn_8 rc rlim rwid rnu rold rsiz), (rf_RW ct 0 rnu 150 frn)] ++ ws))) (va_Qi (fun (r : Int32) (u9 : va_W) => ty_V ct S ph u9 ∧ (a_X9_recordCounts rlim rwid rold frn p1 p2 r) ∧ (r = 0 ∨ r = 1)) (cmB D ([(fn_9 wo tim se cu pr cco chs rc lg), (fn_8 rc rlim rwid rnu rold rsiz), (rf_RW ct 0 rnu 150 frn)] ++ ws) sz (fun (u9 : va_W) => ([(fn_9 wo tim se cu pr cco chs rc lg), (fn_8 rc rlim rwid rnu rold rsiz), (rf_RW ct 0 rnu 150 frn)] ++ u9))) (va_A ([(fn_9 wo tim se cu pr cco chs rc lg), (fn_8 rc rlim rwid rnu rold rsiz), (rf_RW ct 0 rnu 150 frn)] ++ ws) sz)) 0 0 (va_A ([(fn_9 wo tim se cu pr cco chs rc lg), (fn_8 rc rlim rwid rnu rold rsiz), (rf_RW ct 0 rnu 150 frn)] ++ ws) sz) := by
  refine Met.ofW (cc := cX9_recordCounts) (maxL := 3) (ret := (some .boolean)) (by decide) rfl ?_
  intro p e s m args below meth c s₁ B hml hv
  obtain ⟨rfl, hsz, hP, hK, hD0, hX⟩ := hv
  have hx := B.exec
  have hb := B.bytes
  have hr := B.returns
  have hts := ws_all (atoms_spec (ws := ws_ yX9_recordCounts cX9_recordCounts 3 (some .boolean)) B.pre)
  have hown : s.vm.findClass RX9 = some m.cls := findClass_of_methodNamed B.named
  have hlocks := B.notSynchronized
  subst hsz
  have hD := hD0.self (sz := s.heap.size)
  generalize hAe : va_A ([(fn_9 wo tim se cu pr cco chs rc lg), (fn_8 rc rlim rwid rnu rold rsiz), (rf_RW ct 0 rnu 150 frn)] ++ ws) s.heap.size = A at hD hX ⊢
  have hA : ∀ q : Nat, s.heap.size ≤ q → A q := fun q h => by rw [← hAe]; exact Or.inr h
  have hS : va_S A s.heap s.heap [] := va_S.rf
  have hl := lv_entry ([.ref wo, .int p1, .int p2]) (n := 3) (Nat.le_of_ble_eq_true rfl)
  rw [lg_entry_eq]
  generalize (lg_sl ([.ref wo, .int p1, .int p2]) ++ List.replicate (3 - (lg_sl ([.ref wo, .int p1, .int p2])).length) Slot.unset).toArray = ls at hl ⊢
  have hl : lv_has ls 3 [(0, .ref wo), (1, .int p1), (2, .int p2)] := hl
  refine lv_aload_n hx hb dX9_recordCounts_0 rfl (lv_at hl 0 rfl) ?_
  refine va_get (v := .ref rc) (D := D) (ci := 9) (C := RX9) (T := TX9) (N := 8) hx hb hts in_X9 hown hK hP 0 rfl rfl 6 (by decide) (hts _ kl_RX9_46) (fun _ h9 => h9) rfl dX9_recordCounts_1 ?_
  refine lv_iload_n hx hb dX9_recordCounts_4 rfl (lv_at hl 1 rfl) ?_
  refine lv_iconst (v := 0) hx hb dX9_recordCounts_5 (by decide) ?_
  obtain ⟨hP, hD⟩ := ty_ipPD (E1 := [(fn_9 wo tim se cu pr cco chs rc lg)]) (E2 := [(fn_8 rc rlim rwid rnu rold rsiz), (rf_RW ct 0 rnu 150 frn)]) hP hD rfl ty_mv2
  refine ty_Ki hP hD hS hA (va_runVN (As := [.int p1, .int 0]) (rest := []) ⟨hx, hb, hml, hown, hts⟩ (r_X8_get l D ct (fun _ => none) [] (fun _ => True) (fun _ _ _ => True) rc rlim rwid rnu rold rsiz frn p1 (0 : Int32) _ ty_V0 ty_C0 ty_y10) (cm_VN 2 hts kc_X8_get ki_RX8 kl_RX9_108 kv_X8_get kx_X8_get kd_X8_get ⟨Nat.le_of_ble_eq_true rfl, Nat.le_of_ble_eq_true rfl⟩) (ty_preE (ci := 8) hP hK hD hS hA hX rfl (ty_app (j := 0) rfl)) rfl rfl hl.1 rfl (lv_room (Nat.le_of_ble_eq_true rfl)) dX9_recordCounts_6 ⟨Nat.le_of_ble_eq_true rfl, Nat.le_of_ble_eq_true rfl⟩) (fun r_1 u H locs hw_2 hP hD hS => ?_)
  obtain ⟨ws_3, rfl⟩ : ∃ z, z = u := ⟨_, rfl⟩
  obtain ⟨hT9_4, hp_5⟩ := hw_2
  have hp_5 : (a_X8_get rlim rwid rold frn p1 (0 : Int32) r_1) := hp_5
  obtain ⟨hP, hD⟩ := ty_bkPD (E := [(fn_9 wo tim se cu pr cco chs rc lg), (fn_8 rc rlim rwid rnu rold rsiz), (rf_RW ct 0 rnu 150 frn)]) hP hD rfl
  refine lv_iload_n hx hb dX9_recordCounts_9 rfl (lv_at hl 2 rfl) ?_
  refine lv_icmp_ne (tgt := 30) hx hb dX9_recordCounts_10 (by decide) (fun hc_6 => ?_) (fun hc_6 => ?_)
  · refine lv_iconst (v := 0) hx hb dX9_recordCounts_30 (by decide) ?_
    exact W.zret (v := 0) hx hb hr (by decide) (fun t ht hW => ⟨⟨0, ws, rfl, ⟨hT, ⟨⟨r_1, hp_5, (Or.inl ⟨hc_6, rfl⟩)⟩, (Or.inl rfl)⟩⟩, by rw [ht]; exact hP, by rw [hAe]; exact hD⟩, hS.F ht⟩) hS.2.2 dX9_recordCounts_31
  · refine lv_aload_n hx hb dX9_recordCounts_13 rfl (lv_at hl 0 rfl) ?_
    refine va_get (v := .ref rc) (D := D) (ci := 9) (C := RX9) (T := TX9) (N := 8) hx hb hts in_X9 hown hK hP 0 rfl rfl 6 (by decide) (hts _ kl_RX9_46) (fun _ h9 => h9) rfl dX9_recordCounts_14 ?_
    refine lv_iload_n hx hb dX9_recordCounts_17 rfl (lv_at hl 1 rfl) ?_
    refine lv_iconst (v := 4) hx hb dX9_recordCounts_18 (by decide) ?_
    obtain ⟨hP, hD⟩ := ty_ipPD (E1 := [(fn_9 wo tim se cu pr cco chs rc lg)]) (E2 := [(fn_8 rc rlim rwid rnu rold rsiz), (rf_RW ct 0 rnu 150 frn)]) hP hD rfl ty_mv2
    refine ty_Ki hP hD hS hA (va_runVN (As := [.int p1, .int 4]) (rest := []) ⟨hx, hb, hml, hown, hts⟩ (r_X8_get l D ct (fun _ => none) [] (fun _ => True) (fun _ _ _ => True) rc rlim rwid rnu rold rsiz frn p1 (4 : Int32) _ ty_V0 ty_C0 ty_y10) (cm_VN 2 hts kc_X8_get ki_RX8 kl_RX9_108 kv_X8_get kx_X8_get kd_X8_get ⟨Nat.le_of_ble_eq_true rfl, Nat.le_of_ble_eq_true rfl⟩) (ty_preE (ci := 8) hP hK hD hS hA hX rfl (ty_app (j := 0) rfl)) rfl rfl hl.1 rfl (lv_room (Nat.le_of_ble_eq_true rfl)) dX9_recordCounts_19 ⟨Nat.le_of_ble_eq_true rfl, Nat.le_of_ble_eq_true rfl⟩) (fun r_7 u H locs hw_8 hP hD hS => ?_)
    obtain ⟨ws_9, rfl⟩ : ∃ z, z = u := ⟨_, rfl⟩
    obtain ⟨hT9_10, hp_11⟩ := hw_8
    have hp_11 : (a_X8_get rlim rwid rold frn p1 (4 : Int32) r_7) := hp_11
    obtain ⟨hP, hD⟩ := ty_bkPD (E := [(fn_9 wo tim se cu pr cco chs rc lg), (fn_8 rc rlim rwid rnu rold rsiz), (rf_RW ct 0 rnu 150 frn)]) hP hD rfl
    refine lv_iconst (v := 1) hx hb dX9_recordCounts_22 (by decide) ?_
    refine lv_icmp_ne (tgt := 30) hx hb dX9_recordCounts_23 (by decide) (fun hc_12 => ?_) (fun hc_12 => ?_)
    · refine lv_iconst (v := 0) hx hb dX9_recordCounts_30 (by decide) ?_
      exact W.zret (v := 0) hx hb hr (by decide) (fun t ht hW => ⟨⟨0, ws, rfl, ⟨hT, ⟨⟨r_1, hp_5, (Or.inr ⟨hc_6, ⟨r_7, hp_11, (Or.inl ⟨hc_12, rfl⟩)⟩⟩)⟩, (Or.inl rfl)⟩⟩, by rw [ht]; exact hP, by rw [hAe]; exact hD⟩, hS.F ht⟩) hS.2.2 dX9_recordCounts_31
    · refine lv_iconst (v := 1) hx hb dX9_recordCounts_26 (by decide) ?_
      refine lv_goto (tgt := 31) hx hb dX9_recordCounts_27 (by decide) ?_
      exact W.zret (v := 1) hx hb hr (by decide) (fun t ht hW => ⟨⟨1, ws, rfl, ⟨hT, ⟨⟨r_1, hp_5, (Or.inr ⟨hc_6, ⟨r_7, hp_11, (Or.inr ⟨hc_12, rfl⟩)⟩⟩)⟩, (Or.inr rfl)⟩⟩, by rw [ht]; exact hP, by rw [hAe]; exact hD⟩, hS.F ht⟩) hS.2.2 dX9_recordCounts_31
def a_X2_voltageOf (fvt : Nat → Int32) (p1 : Int32) (p2 : Int32) (r : Int32) : Prop := (∃ (r_1 : Int32), (a_X10_at_44 fvt ((p1 * 11) + p2) r_1) ∧ (r = r_1))
set_option maxRecDepth 100000 in
set_option maxHeartbeats 4000000 in
theorem r_X2_voltageOf (l : Launch) (D : va_G) (ct : Nat → ClassId) (S : ty_S) (ws : va_W) (ph : va_W → Prop) (xx : Nat → Nat → Nat → Prop) (cu : Nat) (ccn : Int32) (nms : Nat) (pnt : Nat) (vts : Nat) (fvt : Nat → Int32) (p1 : Int32) (p2 : Int32) (sz : Nat) (hT : ty_V ct S ph ws) (hph : ty_C ph xx) (hy1 : ty_y1 xx) : Met l yX2_voltageOf (ws_ yX2_voltageOf cX2_voltageOf 3 (some .int)) ({ frames := 1, cells := 0, slots := 0, locals := 21 } : Room) (va_Pc [.ref cu, .int p1, .int p2] (cmP D ct sz ([(fn_2 cu ccn nms pnt vts), (rf_RW ct 0 vts 44 fvt)] ++ ws))) (va_Qi (fun (r : Int32) (u9 : va_W) => ty_V ct S ph u9 ∧ (a_X2_voltageOf fvt p1 p2 r)) (cmB D ([(fn_2 cu ccn nms pnt vts), (rf_RW ct 0 vts 44 fvt)] ++ ws) sz (fun (u9 : va_W) => ([(fn_2 cu ccn nms pnt vts), (rf_RW ct 0 vts 44 fvt)] ++ u9))) (va_A ([(fn_2 cu ccn nms pnt vts), (rf_RW ct 0 vts 44 fvt)] ++ ws) sz)) 0 0 (va_A ([(fn_2 cu ccn nms pnt vts), (rf_RW ct 0 vts 44 fvt)] ++ ws) sz) := by
  refine Met.ofW (cc := cX2_voltageOf) (maxL := 3) (ret := (some .int)) (by decide) rfl ?_
  intro p e s m args below meth c s₁ B hml hv
  obtain ⟨rfl, hsz, hP, hK, hD0, hX⟩ := hv
  have hx := B.exec
  have hb := B.bytes
  have hr := B.returns
  have hts := ws_all (atoms_spec (ws := ws_ yX2_voltageOf cX2_voltageOf 3 (some .int)) B.pre)
  have hown : s.vm.findClass RX2 = some m.cls := findClass_of_methodNamed B.named
  have hlocks := B.notSynchronized
  subst hsz
  have hD := hD0.self (sz := s.heap.size)
  generalize hAe : va_A ([(fn_2 cu ccn nms pnt vts), (rf_RW ct 0 vts 44 fvt)] ++ ws) s.heap.size = A at hD hX ⊢
  have hA : ∀ q : Nat, s.heap.size ≤ q → A q := fun q h => by rw [← hAe]; exact Or.inr h
  have hS : va_S A s.heap s.heap [] := va_S.rf
  have hl := lv_entry ([.ref cu, .int p1, .int p2]) (n := 3) (Nat.le_of_ble_eq_true rfl)
  rw [lg_entry_eq]
  generalize (lg_sl ([.ref cu, .int p1, .int p2]) ++ List.replicate (3 - (lg_sl ([.ref cu, .int p1, .int p2])).length) Slot.unset).toArray = ls at hl ⊢
  have hl : lv_has ls 3 [(0, .ref cu), (1, .int p1), (2, .int p2)] := hl
  refine lv_aload_n hx hb dX2_voltageOf_0 rfl (lv_at hl 0 rfl) ?_
  refine va_get (v := .ref vts) (D := D) (ci := 2) (C := RX2) (T := TX2) (N := 4) hx hb hts in_X2 hown hK hP 0 rfl rfl 3 (by decide) (hts _ kl_RX2_19) (fun _ h9 => h9) rfl dX2_voltageOf_1 ?_
  refine lv_iload_n hx hb dX2_voltageOf_4 rfl (lv_at hl 1 rfl) ?_
  refine lv_bipush (v := 11) hx hb dX2_voltageOf_5 (by decide) ?_
  refine lv_imul hx hb dX2_voltageOf_7 ?_
  refine lv_iload_n hx hb dX2_voltageOf_8 rfl (lv_at hl 2 rfl) ?_
  refine lv_iadd hx hb dX2_voltageOf_9 ?_
  obtain ⟨hP, hD⟩ := ty_ipPD (E1 := [(fn_2 cu ccn nms pnt vts)]) (E2 := [(rf_RW ct 0 vts 44 fvt)]) hP hD rfl ty_mv2
  refine ty_Ki hP hD hS hA (va_runSN (As := [.ref vts, .int ((p1 * 11) + p2)]) (rest := []) ⟨hx, hb, hml, hown, hts⟩ (r_X10_at_44 l D ct (fun _ => none) [] (fun _ => True) (fun _ _ _ => True) vts fvt ((p1 * 11) + p2) _ ty_V0 ty_C0 ty_y10) (cm_SN 2 hts kc_X10_at ki_RX10 kl_RX2_30 ks_X10_at kd_X10_at ⟨Nat.le_of_ble_eq_true rfl, Nat.le_of_ble_eq_true rfl⟩) (ty_preS hP hK hD hS hA hX) rfl rfl hl.1 rfl (lv_room (Nat.le_of_ble_eq_true rfl)) dX2_voltageOf_10 ⟨Nat.le_of_ble_eq_true rfl, Nat.le_of_ble_eq_true rfl⟩) (fun r_1 u H locs hw_2 hP hD hS => ?_)
  obtain ⟨ws_3, rfl⟩ : ∃ z, z = u := ⟨_, rfl⟩
  obtain ⟨hT9_4, hp_5⟩ := hw_2
  have hp_5 : (a_X10_at_44 fvt ((p1 * 11) + p2) r_1) := hp_5
  obtain ⟨hP, hD⟩ := ty_bkPD (E := [(fn_2 cu ccn nms pnt vts), (rf_RW ct 0 vts 44 fvt)]) hP hD rfl
  exact W.iret (v := r_1) hx hb hr (fun t ht hW => ⟨⟨r_1, ws, rfl, ⟨hT, ⟨r_1, hp_5, rfl⟩⟩, by rw [ht]; exact hP, by rw [hAe]; exact hD⟩, hS.F ht⟩) hS.2.2 dX2_voltageOf_13
def a_bc (pts cap : Int32) (cv : Nat → Int32) (v : Int32) (n : Nat) (lo hi : Int32) : Prop := match n with
  | 0 => lo = 0 ∧ hi = cap
  | n + 1 => ∃ lo2 hi2 x : Int32, a_bc pts cap cv v n lo2 hi2 ∧ lo2 < hi2 ∧ a_X0_restVoltageAt pts cap cv ((lo2 + hi2) / 2) x ∧ (x < v ∧ lo = (lo2 + hi2) / 2 + 1 ∧ hi = hi2 ∨ ¬ x < v ∧ lo = lo2 ∧ hi = (lo2 + hi2) / 2)
theorem a_bcN {y : Int32} (h0 : 0 ≤ y.toInt ∧ y.toInt ≤ 32) (h : ¬ (32 : Int32) ≤ y) : (y + Int32.ofInt 1).toInt.toNat = y.toInt.toNat + 1 ∧ 0 ≤ (y + Int32.ofInt 1).toInt ∧ (y + Int32.ofInt 1).toInt ≤ 32 := by
  rw [Int32.le_iff_toInt_le, show (32 : Int32).toInt = 32 from by decide] at h
  have e : (y + Int32.ofInt 1).toInt = y.toInt + 1 := rf_p1 (by omega)
  omega
theorem a_bcT {pts cap : Int32} {cv : Nat → Int32} {v lo hi x y : Int32} (h0 : 0 ≤ y.toInt ∧ y.toInt ≤ 32) (h : ¬ (32 : Int32) ≤ y) (hs : a_bc pts cap cv v y.toInt.toNat lo hi) (hl : lo < hi) (hx : a_X0_restVoltageAt pts cap cv ((lo + hi) / 2) x) (hv : x < v) : a_bc pts cap cv v (y + Int32.ofInt 1).toInt.toNat ((lo + hi) / 2 + 1) hi := by
  rw [(a_bcN h0 h).1]; exact ⟨lo, hi, x, hs, hl, hx, Or.inl ⟨hv, rfl, rfl⟩⟩
theorem a_bcF {pts cap : Int32} {cv : Nat → Int32} {v lo hi x y : Int32} (h0 : 0 ≤ y.toInt ∧ y.toInt ≤ 32) (h : ¬ (32 : Int32) ≤ y) (hs : a_bc pts cap cv v y.toInt.toNat lo hi) (hl : lo < hi) (hx : a_X0_restVoltageAt pts cap cv ((lo + hi) / 2) x) (hv : ¬ x < v) : a_bc pts cap cv v (y + Int32.ofInt 1).toInt.toNat lo ((lo + hi) / 2) := by
  rw [(a_bcN h0 h).1]; exact ⟨lo, hi, x, hs, hl, hx, Or.inr ⟨hv, rfl, rfl⟩⟩
def a_X0_smallestChargeFor (pts : Int32) (cap : Int32) (cv : Nat → Int32) (p1 : Int32) (r : Int32) : Prop := (∃ (r_1 : Int32), (a_X0_restVoltageAt pts cap cv cap r_1) ∧ ((p1 ≤ r_1 ∧ (∃ (y_7 : Int32) (y_8 : Int32) (y_9 : Int32), ((0 ≤ y_9.toInt ∧ y_9.toInt ≤ 32) ∧ a_bc pts cap cv p1 y_9.toInt.toNat y_7 y_8) ∧ (((32 : Int32) ≤ y_9 ∧ (r = y_7)) ∨ (¬ (32 : Int32) ≤ y_9 ∧ (y_8 ≤ y_7 ∧ (r = y_7)))))) ∨ (¬ p1 ≤ r_1 ∧ (r = (-1)))))
set_option maxRecDepth 100000 in
set_option maxHeartbeats 4000000 in
theorem r_X0_smallestChargeFor (l : Launch) (D : va_G) (ct : Nat → ClassId) (S : ty_S) (ws : va_W) (ph : va_W → Prop) (xx : Nat → Nat → Nat → Prop) (cl : Nat) (cur : Nat) (pts : Int32) (nom : Int32) (ohm : Int32) (pol : Int32) (tau : Int32) (chg : Int32) (lft : Int32) (cap : Int32) (thr : Int32) (pz : Int32) (tmp : Int32) (het : Int32) (cun : Int32) (vol : Int32) (bk : Nat) (cv : Nat → Int32) (p1 : Int32) (sz : Nat) (hT : ty_V ct S ph ws) (hph : ty_C ph xx) (hy1 : ty_y1 xx) : Met l yX0_smallestChargeFor (ws_ yX0_smallestChargeFor cX0_smallestChargeFor 6 (some .int)) ({ frames := 2, cells := 0, slots := 0, locals := 49 } : Room) (va_Pc [.ref cl, .int p1] (cmP D ct sz ([(fn_0 cl cur pts nom ohm pol tau chg lft cap thr pz tmp het cun vol bk), (rf_RW ct 0 cur 11 cv)] ++ ws))) (va_Qi (fun (r : Int32) (u9 : va_W) => ty_V ct S ph u9 ∧ (a_X0_smallestChargeFor pts cap cv p1 r)) (cmB D ([(fn_0 cl cur pts nom ohm pol tau chg lft cap thr pz tmp het cun vol bk), (rf_RW ct 0 cur 11 cv)] ++ ws) sz (fun (u9 : va_W) => ([(fn_0 cl cur pts nom ohm pol tau chg lft cap thr pz tmp het cun vol bk), (rf_RW ct 0 cur 11 cv)] ++ u9))) (va_A ([(fn_0 cl cur pts nom ohm pol tau chg lft cap thr pz tmp het cun vol bk), (rf_RW ct 0 cur 11 cv)] ++ ws) sz)) 0 0 (va_A ([(fn_0 cl cur pts nom ohm pol tau chg lft cap thr pz tmp het cun vol bk), (rf_RW ct 0 cur 11 cv)] ++ ws) sz) := by
  refine Met.ofW (cc := cX0_smallestChargeFor) (maxL := 6) (ret := (some .int)) (by decide) rfl ?_
  intro p e s m args below meth c s₁ B hml hv
  obtain ⟨rfl, hsz, hP, hK, hD0, hX⟩ := hv
  have hx := B.exec
  have hb := B.bytes
  have hr := B.returns
  have hts := ws_all (atoms_spec (ws := ws_ yX0_smallestChargeFor cX0_smallestChargeFor 6 (some .int)) B.pre)
  have hown : s.vm.findClass RX0 = some m.cls := findClass_of_methodNamed B.named
  have hlocks := B.notSynchronized
  subst hsz
  have hD := hD0.self (sz := s.heap.size)
  generalize hAe : va_A ([(fn_0 cl cur pts nom ohm pol tau chg lft cap thr pz tmp het cun vol bk), (rf_RW ct 0 cur 11 cv)] ++ ws) s.heap.size = A at hD hX ⊢
  have hA : ∀ q : Nat, s.heap.size ≤ q → A q := fun q h => by rw [← hAe]; exact Or.inr h
  have hS : va_S A s.heap s.heap [] := va_S.rf
  have hl := lv_entry ([.ref cl, .int p1]) (n := 6) (Nat.le_of_ble_eq_true rfl)
  rw [lg_entry_eq]
  generalize (lg_sl ([.ref cl, .int p1]) ++ List.replicate (6 - (lg_sl ([.ref cl, .int p1])).length) Slot.unset).toArray = ls at hl ⊢
  have hl : lv_has ls 6 [(0, .ref cl), (1, .int p1)] := hl
  refine lv_aload_n hx hb dX0_smallestChargeFor_0 rfl (lv_at hl 0 rfl) ?_
  refine lv_aload_n hx hb dX0_smallestChargeFor_1 rfl (lv_at hl 0 rfl) ?_
  refine va_get (v := .int cap) (D := D) (ci := 0) (C := RX0) (T := TX0) (N := 16) hx hb hts in_X0 hown hK hP 0 rfl rfl 8 (by decide) (hts _ kl_RX0_51) (fun _ h9 => h9) rfl dX0_smallestChargeFor_2 ?_
  obtain ⟨hP, hD⟩ := ty_ipPD (E1 := []) (E2 := [(fn_0 cl cur pts nom ohm pol tau chg lft cap thr pz tmp het cun vol bk), (rf_RW ct 0 cur 11 cv)]) hP hD rfl ty_mv2
  refine ty_Ki hP hD hS hA (va_runV (As := [.int cap]) (rest := []) ⟨hx, hb, hml, hown, hts⟩ (r_X0_restVoltageAt l D ct (fun _ => none) [] (fun _ => True) (fun _ _ _ => True) cl cur pts nom ohm pol tau chg lft cap thr pz tmp het cun vol bk cv cap _ ty_V0 ty_C0 ty_y10) (cm_V 1 hts kc_X0_restVoltageAt ki_RX0 kl_RX0_84 kv_X0_restVoltageAt kx_X0_restVoltageAt kd_X0_restVoltageAt ⟨Nat.le_of_ble_eq_true rfl, Nat.le_of_ble_eq_true rfl⟩) (ty_preE (ci := 0) hP hK hD hS hA hX rfl (ty_app (j := 0) rfl)) rfl rfl hl.1 rfl (lv_room (Nat.le_of_ble_eq_true rfl)) dX0_smallestChargeFor_5 ⟨Nat.le_of_ble_eq_true rfl, Nat.le_of_ble_eq_true rfl⟩) (fun r_1 u H locs hw_2 hP hD hS => ?_)
  obtain ⟨ws_3, rfl⟩ : ∃ z, z = u := ⟨_, rfl⟩
  obtain ⟨hT9_4, hp_5⟩ := hw_2
  have hp_5 : (a_X0_restVoltageAt pts cap cv cap r_1) := hp_5
  obtain ⟨hP, hD⟩ := ty_bkPD (E := [(fn_0 cl cur pts nom ohm pol tau chg lft cap thr pz tmp het cun vol bk), (rf_RW ct 0 cur 11 cv)]) hP hD rfl
  refine lv_iload_n hx hb dX0_smallestChargeFor_8 rfl (lv_at hl 1 rfl) ?_
  refine lv_icmp_ge (tgt := 14) hx hb dX0_smallestChargeFor_9 (by decide) (fun hc_6 => ?_) (fun hc_6 => ?_)
  · refine lv_iconst (v := 0) hx hb dX0_smallestChargeFor_14 (by decide) ?_
    refine lv_istore_n (lv' := [(2, .int 0), (0, .ref cl), (1, .int p1)]) hx hb dX0_smallestChargeFor_15 rfl hl (by decide) rfl (fun ls hl => ?_)
    refine lv_aload_n hx hb dX0_smallestChargeFor_16 rfl (lv_at hl 1 rfl) ?_
    refine va_get (v := .int cap) (D := D) (ci := 0) (C := RX0) (T := TX0) (N := 16) hx hb hts in_X0 hown hK hP 0 rfl rfl 8 (by decide) (hts _ kl_RX0_51) (fun _ h9 => h9) rfl dX0_smallestChargeFor_17 ?_
    refine lv_istore_n (lv' := [(3, .int cap), (2, .int 0), (0, .ref cl), (1, .int p1)]) hx hb dX0_smallestChargeFor_20 rfl hl (by decide) rfl (fun ls hl => ?_)
    refine lv_iconst (v := 0) hx hb dX0_smallestChargeFor_21 (by decide) ?_
    refine lv_istore (lv' := [(4, .int 0), (3, .int cap), (2, .int 0), (0, .ref cl), (1, .int p1)]) hx hb dX0_smallestChargeFor_22 hl (by decide) rfl (fun ls hl => ?_)
    refine ty_loop (I := fun μ H locs ls => ∃ (ws : va_W) (y_7 : Int32) (y_8 : Int32) (y_9 : Int32), μ = (2147483648 - y_9.toInt).toNat ∧ ty_V ct S ph ws ∧ va_P D vwCl ([(fn_0 cl cur pts nom ohm pol tau chg lft cap thr pz tmp het cun vol bk), (rf_RW ct 0 cur 11 cv)] ++ ws) H ∧ va_D A ([(fn_0 cl cur pts nom ohm pol tau chg lft cap thr pz tmp het cun vol bk), (rf_RW ct 0 cur 11 cv)] ++ ws) ∧ va_S A s.heap H locs ∧ lv_has ls 6 [(0, .ref cl), (1, .int p1), (2, .int y_7), (3, .int y_8), (4, .int y_9)] ∧ (0 ≤ y_9.toInt ∧ y_9.toInt ≤ 32) ∧ a_bc pts cap cv p1 y_9.toInt.toNat y_7 y_8) ⟨_, ws, (0 : Int32), cap, (0 : Int32), rfl, hT, hP, hD, hS, (lv_sub hl [3, 4, 2, 1, 0] rfl), ⟨⟨by decide, by decide⟩, rfl, rfl⟩⟩ (fun μ H locs ls hI ih_24 => ?_)
    obtain ⟨ws, y_7, y_8, y_9, rfl, hT, hP, hD, hS, hl, hex_24⟩ := hI
    refine lv_iload hx hb dX0_smallestChargeFor_24 (lv_at hl 4 rfl) ?_
    refine lv_bipush (v := 32) hx hb dX0_smallestChargeFor_26 (by decide) ?_
    refine lv_icmp_ge (tgt := 70) hx hb dX0_smallestChargeFor_28 (by decide) (fun hc_10 => ?_) (fun hc_10 => ?_)
    · refine lv_iload_n hx hb dX0_smallestChargeFor_70 rfl (lv_at hl 2 rfl) ?_
      exact W.iret (v := y_7) hx hb hr (fun t ht hW => ⟨⟨y_7, ws, rfl, ⟨hT, ⟨r_1, hp_5, (Or.inl ⟨hc_6, ⟨y_7, y_8, y_9, hex_24, (Or.inl ⟨hc_10, rfl⟩)⟩⟩)⟩⟩, by rw [ht]; exact hP, by rw [hAe]; exact hD⟩, hS.F ht⟩) hS.2.2 dX0_smallestChargeFor_71
    · refine lv_iload_n hx hb dX0_smallestChargeFor_31 rfl (lv_at hl 2 rfl) ?_
      refine lv_iload_n hx hb dX0_smallestChargeFor_32 rfl (lv_at hl 3 rfl) ?_
      refine lv_icmp_ge (tgt := 70) hx hb dX0_smallestChargeFor_33 (by decide) (fun hc_11 => ?_) (fun hc_11 => ?_)
      · refine lv_iload_n hx hb dX0_smallestChargeFor_70 rfl (lv_at hl 2 rfl) ?_
        exact W.iret (v := y_7) hx hb hr (fun t ht hW => ⟨⟨y_7, ws, rfl, ⟨hT, ⟨r_1, hp_5, (Or.inl ⟨hc_6, ⟨y_7, y_8, y_9, hex_24, (Or.inr ⟨hc_10, ⟨hc_11, rfl⟩⟩)⟩⟩)⟩⟩, by rw [ht]; exact hP, by rw [hAe]; exact hD⟩, hS.F ht⟩) hS.2.2 dX0_smallestChargeFor_71
      · refine lv_iload_n hx hb dX0_smallestChargeFor_36 rfl (lv_at hl 2 rfl) ?_
        refine lv_iload_n hx hb dX0_smallestChargeFor_37 rfl (lv_at hl 3 rfl) ?_
        refine lv_iadd hx hb dX0_smallestChargeFor_38 ?_
        refine lv_iconst (v := 2) hx hb dX0_smallestChargeFor_39 (by decide) ?_
        refine lv_idiv hx hb dX0_smallestChargeFor_40 (by decide) ?_
        refine lv_istore (lv' := [(5, .int ((y_7 + y_8) / 2)), (0, .ref cl), (1, .int p1), (2, .int y_7), (3, .int y_8), (4, .int y_9)]) hx hb dX0_smallestChargeFor_41 hl (by decide) rfl (fun ls hl => ?_)
        refine lv_aload_n hx hb dX0_smallestChargeFor_43 rfl (lv_at hl 1 rfl) ?_
        refine lv_iload hx hb dX0_smallestChargeFor_44 (lv_at hl 0 rfl) ?_
        obtain ⟨hP, hD⟩ := ty_ipPD (E1 := []) (E2 := [(fn_0 cl cur pts nom ohm pol tau chg lft cap thr pz tmp het cun vol bk), (rf_RW ct 0 cur 11 cv)]) hP hD rfl ty_mv2
        refine ty_Ki hP hD hS hA (va_runV (As := [.int ((y_7 + y_8) / 2)]) (rest := []) ⟨hx, hb, hml, hown, hts⟩ (r_X0_restVoltageAt l D ct (fun _ => none) [] (fun _ => True) (fun _ _ _ => True) cl cur pts nom ohm pol tau chg lft cap thr pz tmp het cun vol bk cv ((y_7 + y_8) / 2) _ ty_V0 ty_C0 ty_y10) (cm_V 1 hts kc_X0_restVoltageAt ki_RX0 kl_RX0_84 kv_X0_restVoltageAt kx_X0_restVoltageAt kd_X0_restVoltageAt ⟨Nat.le_of_ble_eq_true rfl, Nat.le_of_ble_eq_true rfl⟩) (ty_preE (ci := 0) hP hK hD hS hA hX rfl (ty_app (j := 0) rfl)) rfl rfl hl.1 rfl (lv_room (Nat.le_of_ble_eq_true rfl)) dX0_smallestChargeFor_46 ⟨Nat.le_of_ble_eq_true rfl, Nat.le_of_ble_eq_true rfl⟩) (fun r_12 u H locs hw_13 hP hD hS => ?_)
        obtain ⟨ws_14, rfl⟩ : ∃ z, z = u := ⟨_, rfl⟩
        obtain ⟨hT9_15, hp_16⟩ := hw_13
        have hp_16 : (a_X0_restVoltageAt pts cap cv ((y_7 + y_8) / 2) r_12) := hp_16
        obtain ⟨hP, hD⟩ := ty_bkPD (E := [(fn_0 cl cur pts nom ohm pol tau chg lft cap thr pz tmp het cun vol bk), (rf_RW ct 0 cur 11 cv)]) hP hD rfl
        refine lv_iload_n hx hb dX0_smallestChargeFor_49 rfl (lv_at hl 2 rfl) ?_
        refine lv_icmp_ge (tgt := 61) hx hb dX0_smallestChargeFor_50 (by decide) (fun hc_17 => ?_) (fun hc_17 => ?_)
        · refine lv_iload hx hb dX0_smallestChargeFor_61 (lv_at hl 0 rfl) ?_
          refine lv_istore_n (lv' := [(3, .int ((y_7 + y_8) / 2)), (5, .int ((y_7 + y_8) / 2)), (0, .ref cl), (1, .int p1), (2, .int y_7), (4, .int y_9)]) hx hb dX0_smallestChargeFor_63 rfl hl (by decide) rfl (fun ls hl => ?_)
          refine lv_iinc (v := (y_9 + Int32.ofInt 1)) (lv' := [(4, .int (y_9 + Int32.ofInt 1)), (3, .int ((y_7 + y_8) / 2)), (5, .int ((y_7 + y_8) / 2)), (0, .ref cl), (1, .int p1), (2, .int y_7)]) hx hb dX0_smallestChargeFor_64 hl (k := 5) rfl rfl (by decide) rfl (fun ls hl => ?_)
          refine lv_goto (tgt := 24) hx hb dX0_smallestChargeFor_67 (by decide) ?_
          exact ih_24 _ _ _ _ (ty_inc (cm_lt hc_10)) ⟨ws, y_7, ((y_7 + y_8) / 2), (y_9 + Int32.ofInt 1), rfl, hT, hP, hD, hS, (lv_sub hl [3, 4, 5, 1, 0] rfl), ⟨(a_bcN hex_24.1 hc_10).2, a_bcF hex_24.1 hc_10 hex_24.2 (cm_lt hc_11) hp_16 (cm_nlt hc_17)⟩⟩
        · refine lv_iload hx hb dX0_smallestChargeFor_53 (lv_at hl 0 rfl) ?_
          refine lv_iconst (v := 1) hx hb dX0_smallestChargeFor_55 (by decide) ?_
          refine lv_iadd hx hb dX0_smallestChargeFor_56 ?_
          refine lv_istore_n (lv' := [(2, .int (((y_7 + y_8) / 2) + 1)), (5, .int ((y_7 + y_8) / 2)), (0, .ref cl), (1, .int p1), (3, .int y_8), (4, .int y_9)]) hx hb dX0_smallestChargeFor_57 rfl hl (by decide) rfl (fun ls hl => ?_)
          refine lv_goto (tgt := 64) hx hb dX0_smallestChargeFor_58 (by decide) ?_
          refine lv_iinc (v := (y_9 + Int32.ofInt 1)) (lv' := [(4, .int (y_9 + Int32.ofInt 1)), (2, .int (((y_7 + y_8) / 2) + 1)), (5, .int ((y_7 + y_8) / 2)), (0, .ref cl), (1, .int p1), (3, .int y_8)]) hx hb dX0_smallestChargeFor_64 hl (k := 5) rfl rfl (by decide) rfl (fun ls hl => ?_)
          refine lv_goto (tgt := 24) hx hb dX0_smallestChargeFor_67 (by decide) ?_
          exact ih_24 _ _ _ _ (ty_inc (cm_lt hc_10)) ⟨ws, (((y_7 + y_8) / 2) + 1), y_8, (y_9 + Int32.ofInt 1), rfl, hT, hP, hD, hS, (lv_sub hl [3, 4, 1, 5, 0] rfl), ⟨(a_bcN hex_24.1 hc_10).2, a_bcT hex_24.1 hc_10 hex_24.2 (cm_lt hc_11) hp_16 (cm_lt hc_17)⟩⟩
  · refine lv_iconst (v := (-1)) hx hb dX0_smallestChargeFor_12 (by decide) ?_
    exact W.iret (v := (-1)) hx hb hr (fun t ht hW => ⟨⟨(-1), ws, rfl, ⟨hT, ⟨r_1, hp_5, (Or.inr ⟨hc_6, rfl⟩)⟩⟩, by rw [ht]; exact hP, by rw [hAe]; exact hD⟩, hS.F ht⟩) hS.2.2 dX0_smallestChargeFor_13
theorem a_fdi {y n : Int32} (h0 : 0 ≤ y.toInt) (h : ¬ n ≤ y) : (y + Int32.ofInt 1).toInt = y.toInt + 1 := by
  rw [Int32.le_iff_toInt_le] at h
  have := Int32.toInt_lt n
  have o1 : (1 : Int32).toInt = 1 := by decide
  show (y + 1).toInt = y.toInt + 1
  rw [Jvm.Kit.i32_add (by omega) (by omega), o1]
theorem fw_incN0 {y n : Int32} (h0 : 0 ≤ y.toInt) (h : ¬ n ≤ y) : 0 ≤ (y + Int32.ofInt 1).toInt := by
  have := a_fdi h0 h
  omega
theorem a_fds {y n : Int32} {f : Nat → Int64} {p : Int64} (h0 : 0 ≤ y.toInt) (h : ¬ n ≤ y) (hs : ∀ i : Nat, (i : Int) < y.toInt → ¬ lg_cmp (f i) p = 0) (hn : ¬ lg_cmp (f y.toNatClampNeg) p = 0) : ∀ i : Nat, (i : Int) < (y + Int32.ofInt 1).toInt → ¬ lg_cmp (f i) p = 0 := by
  intro i hi
  rw [a_fdi h0 h] at hi
  by_cases q : i = y.toInt.toNat
  · rw [q]; exact hn
  · exact hs i (by omega)
def a_X2_find (ccn : Int32) (fnm : Nat → Int64) (p1 : Int64) (r : Int32) : Prop := (∃ (y_1 : Int32), (0 ≤ y_1.toInt ∧ ∀ i : Nat, (i : Int) < y_1.toInt → ¬ lg_cmp (fnm i) p1 = 0) ∧ ((ccn ≤ y_1 ∧ (r = (-1))) ∨ (¬ ccn ≤ y_1 ∧ (((4 : Int32) ≤ y_1 ∧ (r = (-1))) ∨ (¬ (4 : Int32) ≤ y_1 ∧ ((lg_cmp (fnm y_1.toNatClampNeg) p1) = (0 : Int32) ∧ (r = y_1)))))))
set_option maxRecDepth 100000 in
set_option maxHeartbeats 4000000 in
theorem r_X2_find (l : Launch) (D : va_G) (ct : Nat → ClassId) (S : ty_S) (ws : va_W) (ph : va_W → Prop) (xx : Nat → Nat → Nat → Prop) (cu : Nat) (ccn : Int32) (nms : Nat) (pnt : Nat) (vts : Nat) (fnm : Nat → Int64) (p1 : Int64) (sz : Nat) (hT : ty_V ct S ph ws) (hph : ty_C ph xx) (hy1 : ty_y1 xx) : Met l yX2_find (ws_ yX2_find cX2_find 4 (some .int)) ({ frames := 0, cells := 0, slots := 0, locals := 0 } : Room) (va_Pc [.ref cu, .long p1] (cmP D ct sz ([(fn_2 cu ccn nms pnt vts), (nms, .inl (ct 1, 4, .inr (.inl fnm)))] ++ ws))) (va_Qi (fun (r : Int32) (u9 : va_W) => ty_V ct S ph u9 ∧ (a_X2_find ccn fnm p1 r)) (cmB D ([(fn_2 cu ccn nms pnt vts), (nms, .inl (ct 1, 4, .inr (.inl fnm)))] ++ ws) sz (fun (u9 : va_W) => ([(fn_2 cu ccn nms pnt vts), (nms, .inl (ct 1, 4, .inr (.inl fnm)))] ++ u9))) (va_A ([(fn_2 cu ccn nms pnt vts), (nms, .inl (ct 1, 4, .inr (.inl fnm)))] ++ ws) sz)) 0 0 (va_A ([(fn_2 cu ccn nms pnt vts), (nms, .inl (ct 1, 4, .inr (.inl fnm)))] ++ ws) sz) := by
  refine Met.ofW (cc := cX2_find) (maxL := 4) (ret := (some .int)) (by decide) rfl ?_
  intro p e s m args below meth c s₁ B hml hv
  obtain ⟨rfl, hsz, hP, hK, hD0, hX⟩ := hv
  have hx := B.exec
  have hb := B.bytes
  have hr := B.returns
  have hts := ws_all (atoms_spec (ws := ws_ yX2_find cX2_find 4 (some .int)) B.pre)
  have hown : s.vm.findClass RX2 = some m.cls := findClass_of_methodNamed B.named
  have hlocks := B.notSynchronized
  subst hsz
  have hD := hD0.self (sz := s.heap.size)
  generalize hAe : va_A ([(fn_2 cu ccn nms pnt vts), (nms, .inl (ct 1, 4, .inr (.inl fnm)))] ++ ws) s.heap.size = A at hD hX ⊢
  have hA : ∀ q : Nat, s.heap.size ≤ q → A q := fun q h => by rw [← hAe]; exact Or.inr h
  have hS : va_S A s.heap s.heap [] := va_S.rf
  have hl := lv_entry ([.ref cu, .long p1]) (n := 4) (Nat.le_of_ble_eq_true rfl)
  rw [lg_entry_eq]
  generalize (lg_sl ([.ref cu, .long p1]) ++ List.replicate (4 - (lg_sl ([.ref cu, .long p1])).length) Slot.unset).toArray = ls at hl ⊢
  have hl : lv_has ls 4 [(0, .ref cu), (1, .long p1)] := hl
  refine lv_iconst (v := 0) hx hb dX2_find_0 (by decide) ?_
  refine lv_istore_n (lv' := [(3, .int 0), (0, .ref cu), (1, .long p1)]) hx hb dX2_find_1 rfl hl (by decide) rfl (fun ls hl => ?_)
  refine ty_loop (I := fun μ H locs ls => ∃ (ws : va_W) (y_1 : Int32), μ = (2147483648 - y_1.toInt).toNat ∧ ty_V ct S ph ws ∧ va_P D vwCl ([(fn_2 cu ccn nms pnt vts), (nms, .inl (ct 1, 4, .inr (.inl fnm)))] ++ ws) H ∧ va_D A ([(fn_2 cu ccn nms pnt vts), (nms, .inl (ct 1, 4, .inr (.inl fnm)))] ++ ws) ∧ va_S A s.heap H locs ∧ lv_has ls 4 [(0, .ref cu), (1, .long p1), (3, .int y_1)] ∧ 0 ≤ y_1.toInt ∧ ∀ i : Nat, (i : Int) < y_1.toInt → ¬ lg_cmp (fnm i) p1 = 0) ⟨_, ws, (0 : Int32), rfl, hT, hP, hD, hS, (lv_sub hl [1, 2, 0] rfl), ⟨by decide, fun i hi => absurd hi (by have z : (0 : Int32).toInt = 0 := (by decide); omega)⟩⟩ (fun μ H locs ls hI ih_2 => ?_)
  obtain ⟨ws, y_1, rfl, hT, hP, hD, hS, hl, hex_2⟩ := hI
  refine lv_iload_n hx hb dX2_find_2 rfl (lv_at hl 2 rfl) ?_
  refine lv_aload_n hx hb dX2_find_3 rfl (lv_at hl 0 rfl) ?_
  refine va_get (v := .int ccn) (D := D) (ci := 2) (C := RX2) (T := TX2) (N := 4) hx hb hts in_X2 hown hK hP 0 rfl rfl 0 (by decide) (hts _ kl_RX2_22) (fun _ h9 => h9) rfl dX2_find_4 ?_
  refine lv_icmp_ge (tgt := 38) hx hb dX2_find_7 (by decide) (fun hc_2 => ?_) (fun hc_2 => ?_)
  · refine lv_iconst (v := (-1)) hx hb dX2_find_38 (by decide) ?_
    exact W.iret (v := (-1)) hx hb hr (fun t ht hW => ⟨⟨(-1), ws, rfl, ⟨hT, ⟨y_1, hex_2, (Or.inl ⟨hc_2, rfl⟩)⟩⟩, by rw [ht]; exact hP, by rw [hAe]; exact hD⟩, hS.F ht⟩) hS.2.2 dX2_find_39
  · refine lv_iload_n hx hb dX2_find_10 rfl (lv_at hl 2 rfl) ?_
    refine lv_aload_n hx hb dX2_find_11 rfl (lv_at hl 0 rfl) ?_
    refine va_get (v := .ref nms) (D := D) (ci := 2) (C := RX2) (T := TX2) (N := 4) hx hb hts in_X2 hown hK hP 0 rfl rfl 1 (by decide) (hts _ kl_RX2_9) (fun _ h9 => h9) rfl dX2_find_12 ?_
    refine va_alen hx hb hK hP 1 1 rfl rfl (v := 4) (show Int32.ofNat 4 = (4 : Int32) from by decide) dX2_find_15 ?_
    refine lv_icmp_ge (tgt := 38) hx hb dX2_find_16 (by decide) (fun hc_3 => ?_) (fun hc_3 => ?_)
    · refine lv_iconst (v := (-1)) hx hb dX2_find_38 (by decide) ?_
      exact W.iret (v := (-1)) hx hb hr (fun t ht hW => ⟨⟨(-1), ws, rfl, ⟨hT, ⟨y_1, hex_2, (Or.inr ⟨hc_2, (Or.inl ⟨hc_3, rfl⟩)⟩)⟩⟩, by rw [ht]; exact hP, by rw [hAe]; exact hD⟩, hS.F ht⟩) hS.2.2 dX2_find_39
    · refine lv_aload_n hx hb dX2_find_19 rfl (lv_at hl 0 rfl) ?_
      refine va_get (v := .ref nms) (D := D) (ci := 2) (C := RX2) (T := TX2) (N := 4) hx hb hts in_X2 hown hK hP 0 rfl rfl 1 (by decide) (hts _ kl_RX2_9) (fun _ h9 => h9) rfl dX2_find_20 ?_
      refine lv_iload_n hx hb dX2_find_23 rfl (lv_at hl 2 rfl) ?_
      refine va_lald hx hb hK hP 1 1 rfl rfl (a_vin (k := 4) (by decide) (ty_nneg hex_2.1) (cm_lt hc_3)) dX2_find_24 ?_
      refine lv_lload_n hx hb dX2_find_25 rfl (lv_at hl 1 rfl) ?_
      refine W.lcmp hx hb dX2_find_26 ?_
      refine lv_if_ne (tgt := 32) hx hb dX2_find_27 (by decide) (fun hc_4 => ?_) (fun hc_4 => ?_)
      · refine lv_iinc (v := (y_1 + Int32.ofInt 1)) (lv' := [(3, .int (y_1 + Int32.ofInt 1)), (0, .ref cu), (1, .long p1)]) hx hb dX2_find_32 hl (k := 2) rfl rfl (by decide) rfl (fun ls hl => ?_)
        refine lv_goto (tgt := 2) hx hb dX2_find_35 (by decide) ?_
        exact ih_2 _ _ _ _ (ty_inc (cm_lt hc_2)) ⟨ws, (y_1 + Int32.ofInt 1), rfl, hT, hP, hD, hS, (lv_sub hl [1, 2, 0] rfl), ⟨(fw_incN0 hex_2.1 hc_2), (a_fds hex_2.1 hc_2 hex_2.2 hc_4)⟩⟩
      · refine lv_iload_n hx hb dX2_find_30 rfl (lv_at hl 2 rfl) ?_
        exact W.iret (v := y_1) hx hb hr (fun t ht hW => ⟨⟨y_1, ws, rfl, ⟨hT, ⟨y_1, hex_2, (Or.inr ⟨hc_2, (Or.inr ⟨hc_3, ⟨hc_4, rfl⟩⟩)⟩)⟩⟩, by rw [ht]; exact hP, by rw [hAe]; exact hD⟩, hS.F ht⟩) hS.2.2 dX2_find_31
def a_X10_put_11 (b : Nat → Int32) (p2 : Int32) (p3 : Int32) (b1 : Nat → Int32) : Prop := ((p2 < (0 : Int32) ∧ (b1 = b)) ∨ (¬ p2 < (0 : Int32) ∧ (((11 : Int32) ≤ p2 ∧ (b1 = b)) ∨ (¬ (11 : Int32) ≤ p2 ∧ (b1 = (upd b p2.toNatClampNeg p3))))))
set_option maxRecDepth 100000 in
set_option maxHeartbeats 4000000 in
theorem r_X10_put_11 (l : Launch) (D : va_G) (ct : Nat → ClassId) (S : ty_S) (ws : va_W) (ph : va_W → Prop) (xx : Nat → Nat → Nat → Prop) (p1 : Nat) (b : Nat → Int32) (p2 : Int32) (p3 : Int32) (sz : Nat) (hT : ty_V ct S ph ws) (hph : ty_C ph xx) (hy1 : ty_y1 xx) : Met l yX10_put (ws_ yX10_put cX10_put 3 none) ({ frames := 0, cells := 0, slots := 0, locals := 0 } : Room) (va_Pc [.ref p1, .int p2, .int p3] (cmP D ct sz ([(rf_RW ct 0 p1 11 b)] ++ ws))) (va_Qv (fun (u : va_W × (Nat → Int32)) => match u with | (u9, b1) => ty_V ct S ph u9 ∧ (a_X10_put_11 b p2 p3 b1)) (cmB D ([(rf_RW ct 0 p1 11 b)] ++ ws) sz (fun (u : va_W × (Nat → Int32)) => match u with | (u9, b1) => ([(rf_RW ct 0 p1 11 b1)] ++ u9))) (va_A ([(rf_RW ct 0 p1 11 b)] ++ ws) sz)) 0 0 (va_A ([(rf_RW ct 0 p1 11 b)] ++ ws) sz) := by
  refine Met.ofW (cc := cX10_put) (maxL := 3) (ret := none) (by decide) rfl ?_
  intro p e s m args below meth c s₁ B hml hv
  obtain ⟨rfl, hsz, hP, hK, hD0, hX⟩ := hv
  have hx := B.exec
  have hb := B.bytes
  have hr := B.returns
  have hts := ws_all (atoms_spec (ws := ws_ yX10_put cX10_put 3 none) B.pre)
  have hown : s.vm.findClass RX10 = some m.cls := findClass_of_methodNamed B.named
  have hlocks := B.notSynchronized
  subst hsz
  have hD := hD0.self (sz := s.heap.size)
  generalize hAe : va_A ([(rf_RW ct 0 p1 11 b)] ++ ws) s.heap.size = A at hD hX ⊢
  have hA : ∀ q : Nat, s.heap.size ≤ q → A q := fun q h => by rw [← hAe]; exact Or.inr h
  have hS : va_S A s.heap s.heap [] := va_S.rf
  have hl := lv_entry ([.ref p1, .int p2, .int p3]) (n := 3) (Nat.le_of_ble_eq_true rfl)
  rw [lg_entry_eq]
  generalize (lg_sl ([.ref p1, .int p2, .int p3]) ++ List.replicate (3 - (lg_sl ([.ref p1, .int p2, .int p3])).length) Slot.unset).toArray = ls at hl ⊢
  have hl : lv_has ls 3 [(0, .ref p1), (1, .int p2), (2, .int p3)] := hl
  refine lv_iload_n hx hb dX10_put_0 rfl (lv_at hl 1 rfl) ?_
  refine lv_if_lt (tgt := 14) hx hb dX10_put_1 (by decide) (fun hc_1 => ?_) (fun hc_1 => ?_)
  · exact W.vret hx hb hr (fun t ht hW => ⟨⟨(ws, b), rfl, ⟨hT, (Or.inl ⟨hc_1, rfl⟩)⟩, by rw [ht]; exact hP, by rw [hAe]; exact hD⟩, hS.F ht⟩) hS.2.2 dX10_put_14
  · refine lv_iload_n hx hb dX10_put_4 rfl (lv_at hl 1 rfl) ?_
    refine lv_aload_n hx hb dX10_put_5 rfl (lv_at hl 0 rfl) ?_
    refine va_alen hx hb hK hP 0 0 rfl rfl (v := 11) (show Int32.ofNat 11 = (11 : Int32) from by decide) dX10_put_6 ?_
    refine lv_icmp_ge (tgt := 14) hx hb dX10_put_7 (by decide) (fun hc_2 => ?_) (fun hc_2 => ?_)
    · exact W.vret hx hb hr (fun t ht hW => ⟨⟨(ws, b), rfl, ⟨hT, (Or.inr ⟨hc_1, (Or.inl ⟨hc_2, rfl⟩)⟩)⟩, by rw [ht]; exact hP, by rw [hAe]; exact hD⟩, hS.F ht⟩) hS.2.2 dX10_put_14
    · refine lv_aload_n hx hb dX10_put_10 rfl (lv_at hl 0 rfl) ?_
      refine lv_iload_n hx hb dX10_put_11 rfl (lv_at hl 1 rfl) ?_
      refine lv_iload_n hx hb dX10_put_12 rfl (lv_at hl 2 rfl) ?_
      refine va_iast hx hb hK hP hD hS 0 0 rfl rfl (a_vin2 (k := 11) (by decide) hc_1 hc_2) dX10_put_13 (fun H locs hP hD hS => ?_)
      have hP : va_P D vwCl ([(rf_RW ct 0 p1 11 (upd b p2.toNatClampNeg p3))] ++ ws) H := hP
      have hD : va_D A ([(rf_RW ct 0 p1 11 (upd b p2.toNatClampNeg p3))] ++ ws) := hD
      exact W.vret hx hb hr (fun t ht hW => ⟨⟨(ws, (upd b p2.toNatClampNeg p3)), rfl, ⟨hT, (Or.inr ⟨hc_1, (Or.inr ⟨hc_2, rfl⟩)⟩)⟩, by rw [ht]; exact hP, by rw [hAe]; exact hD⟩, hS.F ht⟩) hS.2.2 dX10_put_14
def a_X10_put_44 (b : Nat → Int32) (p2 : Int32) (p3 : Int32) (b1 : Nat → Int32) : Prop := ((p2 < (0 : Int32) ∧ (b1 = b)) ∨ (¬ p2 < (0 : Int32) ∧ (((44 : Int32) ≤ p2 ∧ (b1 = b)) ∨ (¬ (44 : Int32) ≤ p2 ∧ (b1 = (upd b p2.toNatClampNeg p3))))))
set_option maxRecDepth 100000 in
set_option maxHeartbeats 4000000 in
theorem r_X10_put_44 (l : Launch) (D : va_G) (ct : Nat → ClassId) (S : ty_S) (ws : va_W) (ph : va_W → Prop) (xx : Nat → Nat → Nat → Prop) (p1 : Nat) (b : Nat → Int32) (p2 : Int32) (p3 : Int32) (sz : Nat) (hT : ty_V ct S ph ws) (hph : ty_C ph xx) (hy1 : ty_y1 xx) : Met l yX10_put (ws_ yX10_put cX10_put 3 none) ({ frames := 0, cells := 0, slots := 0, locals := 0 } : Room) (va_Pc [.ref p1, .int p2, .int p3] (cmP D ct sz ([(rf_RW ct 0 p1 44 b)] ++ ws))) (va_Qv (fun (u : va_W × (Nat → Int32)) => match u with | (u9, b1) => ty_V ct S ph u9 ∧ (a_X10_put_44 b p2 p3 b1)) (cmB D ([(rf_RW ct 0 p1 44 b)] ++ ws) sz (fun (u : va_W × (Nat → Int32)) => match u with | (u9, b1) => ([(rf_RW ct 0 p1 44 b1)] ++ u9))) (va_A ([(rf_RW ct 0 p1 44 b)] ++ ws) sz)) 0 0 (va_A ([(rf_RW ct 0 p1 44 b)] ++ ws) sz) := by
  refine Met.ofW (cc := cX10_put) (maxL := 3) (ret := none) (by decide) rfl ?_
  intro p e s m args below meth c s₁ B hml hv
  obtain ⟨rfl, hsz, hP, hK, hD0, hX⟩ := hv
  have hx := B.exec
  have hb := B.bytes
  have hr := B.returns
  have hts := ws_all (atoms_spec (ws := ws_ yX10_put cX10_put 3 none) B.pre)
  have hown : s.vm.findClass RX10 = some m.cls := findClass_of_methodNamed B.named
  have hlocks := B.notSynchronized
  subst hsz
  have hD := hD0.self (sz := s.heap.size)
  generalize hAe : va_A ([(rf_RW ct 0 p1 44 b)] ++ ws) s.heap.size = A at hD hX ⊢
  have hA : ∀ q : Nat, s.heap.size ≤ q → A q := fun q h => by rw [← hAe]; exact Or.inr h
  have hS : va_S A s.heap s.heap [] := va_S.rf
  have hl := lv_entry ([.ref p1, .int p2, .int p3]) (n := 3) (Nat.le_of_ble_eq_true rfl)
  rw [lg_entry_eq]
  generalize (lg_sl ([.ref p1, .int p2, .int p3]) ++ List.replicate (3 - (lg_sl ([.ref p1, .int p2, .int p3])).length) Slot.unset).toArray = ls at hl ⊢
  have hl : lv_has ls 3 [(0, .ref p1), (1, .int p2), (2, .int p3)] := hl
  refine lv_iload_n hx hb dX10_put_0 rfl (lv_at hl 1 rfl) ?_
  refine lv_if_lt (tgt := 14) hx hb dX10_put_1 (by decide) (fun hc_1 => ?_) (fun hc_1 => ?_)
  · exact W.vret hx hb hr (fun t ht hW => ⟨⟨(ws, b), rfl, ⟨hT, (Or.inl ⟨hc_1, rfl⟩)⟩, by rw [ht]; exact hP, by rw [hAe]; exact hD⟩, hS.F ht⟩) hS.2.2 dX10_put_14
  · refine lv_iload_n hx hb dX10_put_4 rfl (lv_at hl 1 rfl) ?_
    refine lv_aload_n hx hb dX10_put_5 rfl (lv_at hl 0 rfl) ?_
    refine va_alen hx hb hK hP 0 0 rfl rfl (v := 44) (show Int32.ofNat 44 = (44 : Int32) from by decide) dX10_put_6 ?_
    refine lv_icmp_ge (tgt := 14) hx hb dX10_put_7 (by decide) (fun hc_2 => ?_) (fun hc_2 => ?_)
    · exact W.vret hx hb hr (fun t ht hW => ⟨⟨(ws, b), rfl, ⟨hT, (Or.inr ⟨hc_1, (Or.inl ⟨hc_2, rfl⟩)⟩)⟩, by rw [ht]; exact hP, by rw [hAe]; exact hD⟩, hS.F ht⟩) hS.2.2 dX10_put_14
    · refine lv_aload_n hx hb dX10_put_10 rfl (lv_at hl 0 rfl) ?_
      refine lv_iload_n hx hb dX10_put_11 rfl (lv_at hl 1 rfl) ?_
      refine lv_iload_n hx hb dX10_put_12 rfl (lv_at hl 2 rfl) ?_
      refine va_iast hx hb hK hP hD hS 0 0 rfl rfl (a_vin2 (k := 44) (by decide) hc_1 hc_2) dX10_put_13 (fun H locs hP hD hS => ?_)
      have hP : va_P D vwCl ([(rf_RW ct 0 p1 44 (upd b p2.toNatClampNeg p3))] ++ ws) H := hP
      have hD : va_D A ([(rf_RW ct 0 p1 44 (upd b p2.toNatClampNeg p3))] ++ ws) := hD
      exact W.vret hx hb hr (fun t ht hW => ⟨⟨(ws, (upd b p2.toNatClampNeg p3)), rfl, ⟨hT, (Or.inr ⟨hc_1, (Or.inr ⟨hc_2, rfl⟩)⟩)⟩, by rw [ht]; exact hP, by rw [hAe]; exact hD⟩, hS.F ht⟩) hS.2.2 dX10_put_14
def a_X10_put_48 (b : Nat → Int32) (p2 : Int32) (p3 : Int32) (b1 : Nat → Int32) : Prop := ((p2 < (0 : Int32) ∧ (b1 = b)) ∨ (¬ p2 < (0 : Int32) ∧ (((48 : Int32) ≤ p2 ∧ (b1 = b)) ∨ (¬ (48 : Int32) ≤ p2 ∧ (b1 = (upd b p2.toNatClampNeg p3))))))
set_option maxRecDepth 100000 in
set_option maxHeartbeats 4000000 in
theorem r_X10_put_48 (l : Launch) (D : va_G) (ct : Nat → ClassId) (S : ty_S) (ws : va_W) (ph : va_W → Prop) (xx : Nat → Nat → Nat → Prop) (p1 : Nat) (b : Nat → Int32) (p2 : Int32) (p3 : Int32) (sz : Nat) (hT : ty_V ct S ph ws) (hph : ty_C ph xx) (hy1 : ty_y1 xx) : Met l yX10_put (ws_ yX10_put cX10_put 3 none) ({ frames := 0, cells := 0, slots := 0, locals := 0 } : Room) (va_Pc [.ref p1, .int p2, .int p3] (cmP D ct sz ([(rf_RW ct 0 p1 48 b)] ++ ws))) (va_Qv (fun (u : va_W × (Nat → Int32)) => match u with | (u9, b1) => ty_V ct S ph u9 ∧ (a_X10_put_48 b p2 p3 b1)) (cmB D ([(rf_RW ct 0 p1 48 b)] ++ ws) sz (fun (u : va_W × (Nat → Int32)) => match u with | (u9, b1) => ([(rf_RW ct 0 p1 48 b1)] ++ u9))) (va_A ([(rf_RW ct 0 p1 48 b)] ++ ws) sz)) 0 0 (va_A ([(rf_RW ct 0 p1 48 b)] ++ ws) sz) := by
  refine Met.ofW (cc := cX10_put) (maxL := 3) (ret := none) (by decide) rfl ?_
  intro p e s m args below meth c s₁ B hml hv
  obtain ⟨rfl, hsz, hP, hK, hD0, hX⟩ := hv
  have hx := B.exec
  have hb := B.bytes
  have hr := B.returns
  have hts := ws_all (atoms_spec (ws := ws_ yX10_put cX10_put 3 none) B.pre)
  have hown : s.vm.findClass RX10 = some m.cls := findClass_of_methodNamed B.named
  have hlocks := B.notSynchronized
  subst hsz
  have hD := hD0.self (sz := s.heap.size)
  generalize hAe : va_A ([(rf_RW ct 0 p1 48 b)] ++ ws) s.heap.size = A at hD hX ⊢
  have hA : ∀ q : Nat, s.heap.size ≤ q → A q := fun q h => by rw [← hAe]; exact Or.inr h
  have hS : va_S A s.heap s.heap [] := va_S.rf
  have hl := lv_entry ([.ref p1, .int p2, .int p3]) (n := 3) (Nat.le_of_ble_eq_true rfl)
  rw [lg_entry_eq]
  generalize (lg_sl ([.ref p1, .int p2, .int p3]) ++ List.replicate (3 - (lg_sl ([.ref p1, .int p2, .int p3])).length) Slot.unset).toArray = ls at hl ⊢
  have hl : lv_has ls 3 [(0, .ref p1), (1, .int p2), (2, .int p3)] := hl
  refine lv_iload_n hx hb dX10_put_0 rfl (lv_at hl 1 rfl) ?_
  refine lv_if_lt (tgt := 14) hx hb dX10_put_1 (by decide) (fun hc_1 => ?_) (fun hc_1 => ?_)
  · exact W.vret hx hb hr (fun t ht hW => ⟨⟨(ws, b), rfl, ⟨hT, (Or.inl ⟨hc_1, rfl⟩)⟩, by rw [ht]; exact hP, by rw [hAe]; exact hD⟩, hS.F ht⟩) hS.2.2 dX10_put_14
  · refine lv_iload_n hx hb dX10_put_4 rfl (lv_at hl 1 rfl) ?_
    refine lv_aload_n hx hb dX10_put_5 rfl (lv_at hl 0 rfl) ?_
    refine va_alen hx hb hK hP 0 0 rfl rfl (v := 48) (show Int32.ofNat 48 = (48 : Int32) from by decide) dX10_put_6 ?_
    refine lv_icmp_ge (tgt := 14) hx hb dX10_put_7 (by decide) (fun hc_2 => ?_) (fun hc_2 => ?_)
    · exact W.vret hx hb hr (fun t ht hW => ⟨⟨(ws, b), rfl, ⟨hT, (Or.inr ⟨hc_1, (Or.inl ⟨hc_2, rfl⟩)⟩)⟩, by rw [ht]; exact hP, by rw [hAe]; exact hD⟩, hS.F ht⟩) hS.2.2 dX10_put_14
    · refine lv_aload_n hx hb dX10_put_10 rfl (lv_at hl 0 rfl) ?_
      refine lv_iload_n hx hb dX10_put_11 rfl (lv_at hl 1 rfl) ?_
      refine lv_iload_n hx hb dX10_put_12 rfl (lv_at hl 2 rfl) ?_
      refine va_iast hx hb hK hP hD hS 0 0 rfl rfl (a_vin2 (k := 48) (by decide) hc_1 hc_2) dX10_put_13 (fun H locs hP hD hS => ?_)
      have hP : va_P D vwCl ([(rf_RW ct 0 p1 48 (upd b p2.toNatClampNeg p3))] ++ ws) H := hP
      have hD : va_D A ([(rf_RW ct 0 p1 48 (upd b p2.toNatClampNeg p3))] ++ ws) := hD
      exact W.vret hx hb hr (fun t ht hW => ⟨⟨(ws, (upd b p2.toNatClampNeg p3)), rfl, ⟨hT, (Or.inr ⟨hc_1, (Or.inr ⟨hc_2, rfl⟩)⟩)⟩, by rw [ht]; exact hP, by rw [hAe]; exact hD⟩, hS.F ht⟩) hS.2.2 dX10_put_14
def a_X5_add (pcn : Int32) (fsps : Nat → Int32) (pcn1 : Int32) (fsps1 : Nat → Int32) : Prop := (∃ (b1_4 : Nat → Int32), (a_X10_put_4 fsps pcn (0 : Int32) b1_4) ∧ (pcn1 = (pcn + 1) ∧ fsps1 = b1_4))
set_option maxRecDepth 100000 in
set_option maxHeartbeats 4000000 in
theorem r_X5_add (l : Launch) (D : va_G) (ct : Nat → ClassId) (S : ty_S) (ws : va_W) (ph : va_W → Prop) (xx : Nat → Nat → Nat → Prop) (pr : Nat) (pcn : Int32) (sps : Nat) (kds : Nat) (fst : Nat) (scs : Nat) (fsps : Nat → Int32) (sz : Nat) (hT : ty_V ct S ph ws) (hph : ty_C ph xx) (hy1 : ty_y1 xx) : Met l yX5_add (ws_ yX5_add cX5_add 1 none) ({ frames := 1, cells := 0, slots := 0, locals := 22 } : Room) (va_Pc [.ref pr] (cmP D ct sz ([(fn_5 pr pcn sps kds fst scs), (rf_RW ct 0 sps 4 fsps)] ++ ws))) (va_Qv (fun (u : va_W × Int32 × (Nat → Int32)) => match u with | (u9, pcn1, fsps1) => ty_V ct S ph u9 ∧ (a_X5_add pcn fsps pcn1 fsps1)) (cmB D ([(fn_5 pr pcn sps kds fst scs), (rf_RW ct 0 sps 4 fsps)] ++ ws) sz (fun (u : va_W × Int32 × (Nat → Int32)) => match u with | (u9, pcn1, fsps1) => ([(fn_5 pr pcn1 sps kds fst scs), (rf_RW ct 0 sps 4 fsps1)] ++ u9))) (va_A ([(fn_5 pr pcn sps kds fst scs), (rf_RW ct 0 sps 4 fsps)] ++ ws) sz)) 0 0 (va_A ([(fn_5 pr pcn sps kds fst scs), (rf_RW ct 0 sps 4 fsps)] ++ ws) sz) := by
  refine Met.ofW (cc := cX5_add) (maxL := 1) (ret := none) (by decide) rfl ?_
  intro p e s m args below meth c s₁ B hml hv
  obtain ⟨rfl, hsz, hP, hK, hD0, hX⟩ := hv
  have hx := B.exec
  have hb := B.bytes
  have hr := B.returns
  have hts := ws_all (atoms_spec (ws := ws_ yX5_add cX5_add 1 none) B.pre)
  have hown : s.vm.findClass RX5 = some m.cls := findClass_of_methodNamed B.named
  have hlocks := B.notSynchronized
  subst hsz
  have hD := hD0.self (sz := s.heap.size)
  generalize hAe : va_A ([(fn_5 pr pcn sps kds fst scs), (rf_RW ct 0 sps 4 fsps)] ++ ws) s.heap.size = A at hD hX ⊢
  have hA : ∀ q : Nat, s.heap.size ≤ q → A q := fun q h => by rw [← hAe]; exact Or.inr h
  have hS : va_S A s.heap s.heap [] := va_S.rf
  have hl := lv_entry ([.ref pr]) (n := 1) (Nat.le_of_ble_eq_true rfl)
  rw [lg_entry_eq]
  generalize (lg_sl ([.ref pr]) ++ List.replicate (1 - (lg_sl ([.ref pr])).length) Slot.unset).toArray = ls at hl ⊢
  have hl : lv_has ls 1 [(0, .ref pr)] := hl
  refine lv_aload_n hx hb dX5_add_0 rfl (lv_at hl 0 rfl) ?_
  refine va_get (v := .ref sps) (D := D) (ci := 5) (C := RX5) (T := TX5) (N := 5) hx hb hts in_X5 hown hK hP 0 rfl rfl 1 (by decide) (hts _ kl_RX5_9) (fun _ h9 => h9) rfl dX5_add_1 ?_
  refine lv_aload_n hx hb dX5_add_4 rfl (lv_at hl 0 rfl) ?_
  refine va_get (v := .int pcn) (D := D) (ci := 5) (C := RX5) (T := TX5) (N := 5) hx hb hts in_X5 hown hK hP 0 rfl rfl 0 (by decide) (hts _ kl_RX5_24) (fun _ h9 => h9) rfl dX5_add_5 ?_
  refine lv_iconst (v := 0) hx hb dX5_add_8 (by decide) ?_
  obtain ⟨hP, hD⟩ := ty_ipPD (E1 := [(fn_5 pr pcn sps kds fst scs)]) (E2 := [(rf_RW ct 0 sps 4 fsps)]) hP hD rfl ty_mv2
  refine ty_Kv hP hD hS hA (va_runSN (As := [.ref sps, .int pcn, .int 0]) (rest := []) ⟨hx, hb, hml, hown, hts⟩ (r_X10_put_4 l D ct (fun _ => none) [] (fun _ => True) (fun _ _ _ => True) sps fsps pcn (0 : Int32) _ ty_V0 ty_C0 ty_y10) (cm_SN 3 hts kc_X10_put ki_RX10 kl_RX5_28 ks_X10_put kd_X10_put ⟨Nat.le_of_ble_eq_true rfl, Nat.le_of_ble_eq_true rfl⟩) (ty_preS hP hK hD hS hA hX) rfl rfl hl.1 rfl (lv_room (Nat.le_of_ble_eq_true rfl)) dX5_add_9 ⟨Nat.le_of_ble_eq_true rfl, Nat.le_of_ble_eq_true rfl⟩) (fun u H locs hw_2 hP hD hS => ?_)
  obtain ⟨ws_3, b1_4⟩ := u
  obtain ⟨hT9_5, hp_6⟩ := hw_2
  have hp_6 : (a_X10_put_4 fsps pcn (0 : Int32) b1_4) := hp_6
  obtain ⟨hP, hD⟩ := ty_bkPD (E := [(fn_5 pr pcn sps kds fst scs), (rf_RW ct 0 sps 4 b1_4)]) hP hD rfl
  refine lv_aload_n hx hb dX5_add_12 rfl (lv_at hl 0 rfl) ?_
  refine lv_dup hx hb dX5_add_13 rfl ?_
  refine va_get (v := .int pcn) (D := D) (ci := 5) (C := RX5) (T := TX5) (N := 5) hx hb hts in_X5 hown hK hP 0 rfl rfl 0 (by decide) (hts _ kl_RX5_24) (fun _ h9 => h9) rfl dX5_add_14 ?_
  refine lv_iconst (v := 1) hx hb dX5_add_17 (by decide) ?_
  refine lv_iadd hx hb dX5_add_18 ?_
  refine va_put (v := .int (pcn + 1)) (ty := .int) (D := D) (ci := 5) (C := RX5) (T := TX5) (N := 5) hx hb hts in_X5 tyX5 tyX5_ok nmX5 hown hK hP hD hS 0 rfl rfl 0 (by decide) (hts _ kl_RX5_24) (fun _ h9 => h9) rfl (by decide +kernel) rfl rfl (Nat.le_of_ble_eq_true rfl) dX5_add_19 (fun H locs hP hD hS => ?_)
  have hP : va_P D vwCl ([(fn_5 pr (pcn + 1) sps kds fst scs), (rf_RW ct 0 sps 4 b1_4)] ++ ws) H := hP
  have hD : va_D A ([(fn_5 pr (pcn + 1) sps kds fst scs), (rf_RW ct 0 sps 4 b1_4)] ++ ws) := hD
  exact W.vret hx hb hr (fun t ht hW => ⟨⟨(ws, (pcn + 1), b1_4), rfl, ⟨hT, ⟨b1_4, hp_6, ⟨rfl, rfl⟩⟩⟩, by rw [ht]; exact hP, by rw [hAe]; exact hD⟩, hS.F ht⟩) hS.2.2 dX5_add_22
def a_X5_addStepToLast (pcn : Int32) (fsps : Nat → Int32) (fkds : Nat → Int32) (ffst : Nat → Int32) (fscs : Nat → Int32) (p1 : Int32) (p2 : Int32) (p3 : Int32) (fsps1 : Nat → Int32) (fkds1 : Nat → Int32) (ffst1 : Nat → Int32) (fscs1 : Nat → Int32) : Prop := (∃ (r_1 : Int32), (a_X10_at_4 fsps (pcn - 1) r_1) ∧ (∃ (b1_9 : Nat → Int32), (a_X10_put_48 fkds (((pcn - 1) * 12) + r_1) p1 b1_9) ∧ (∃ (b1_15 : Nat → Int32), (a_X10_put_48 ffst (((pcn - 1) * 12) + r_1) p2 b1_15) ∧ (∃ (b1_21 : Nat → Int32), (a_X10_put_48 fscs (((pcn - 1) * 12) + r_1) p3 b1_21) ∧ (∃ (r_24 : Int32), (a_X10_at_4 fsps (pcn - 1) r_24) ∧ (∃ (b1_32 : Nat → Int32), (a_X10_put_4 fsps (pcn - 1) (r_24 + 1) b1_32) ∧ (fsps1 = b1_32 ∧ fkds1 = b1_9 ∧ ffst1 = b1_15 ∧ fscs1 = b1_21)))))))
set_option maxRecDepth 100000 in
set_option maxHeartbeats 4000000 in
theorem r_X5_addStepToLast (l : Launch) (D : va_G) (ct : Nat → ClassId) (S : ty_S) (ws : va_W) (ph : va_W → Prop) (xx : Nat → Nat → Nat → Prop) (pr : Nat) (pcn : Int32) (sps : Nat) (kds : Nat) (fst : Nat) (scs : Nat) (fsps : Nat → Int32) (fkds : Nat → Int32) (ffst : Nat → Int32) (fscs : Nat → Int32) (p1 : Int32) (p2 : Int32) (p3 : Int32) (sz : Nat) (hT : ty_V ct S ph ws) (hph : ty_C ph xx) (hy1 : ty_y1 xx) : Met l yX5_addStepToLast (ws_ yX5_addStepToLast cX5_addStepToLast 6 none) ({ frames := 1, cells := 0, slots := 0, locals := 22 } : Room) (va_Pc [.ref pr, .int p1, .int p2, .int p3] (cmP D ct sz ([(fn_5 pr pcn sps kds fst scs), (rf_RW ct 0 sps 4 fsps), (rf_RW ct 0 kds 48 fkds), (rf_RW ct 0 fst 48 ffst), (rf_RW ct 0 scs 48 fscs)] ++ ws))) (va_Qv (fun (u : va_W × (Nat → Int32) × (Nat → Int32) × (Nat → Int32) × (Nat → Int32)) => match u with | (u9, fsps1, fkds1, ffst1, fscs1) => ty_V ct S ph u9 ∧ (a_X5_addStepToLast pcn fsps fkds ffst fscs p1 p2 p3 fsps1 fkds1 ffst1 fscs1)) (cmB D ([(fn_5 pr pcn sps kds fst scs), (rf_RW ct 0 sps 4 fsps), (rf_RW ct 0 kds 48 fkds), (rf_RW ct 0 fst 48 ffst), (rf_RW ct 0 scs 48 fscs)] ++ ws) sz (fun (u : va_W × (Nat → Int32) × (Nat → Int32) × (Nat → Int32) × (Nat → Int32)) => match u with | (u9, fsps1, fkds1, ffst1, fscs1) => ([(fn_5 pr pcn sps kds fst scs), (rf_RW ct 0 sps 4 fsps1), (rf_RW ct 0 kds 48 fkds1), (rf_RW ct 0 fst 48 ffst1), (rf_RW ct 0 scs 48 fscs1)] ++ u9))) (va_A ([(fn_5 pr pcn sps kds fst scs), (rf_RW ct 0 sps 4 fsps), (rf_RW ct 0 kds 48 fkds), (rf_RW ct 0 fst 48 ffst), (rf_RW ct 0 scs 48 fscs)] ++ ws) sz)) 0 0 (va_A ([(fn_5 pr pcn sps kds fst scs), (rf_RW ct 0 sps 4 fsps), (rf_RW ct 0 kds 48 fkds), (rf_RW ct 0 fst 48 ffst), (rf_RW ct 0 scs 48 fscs)] ++ ws) sz) := by
  refine Met.ofW (cc := cX5_addStepToLast) (maxL := 6) (ret := none) (by decide) rfl ?_
  intro p e s m args below meth c s₁ B hml hv
  obtain ⟨rfl, hsz, hP, hK, hD0, hX⟩ := hv
  have hx := B.exec
  have hb := B.bytes
  have hr := B.returns
  have hts := ws_all (atoms_spec (ws := ws_ yX5_addStepToLast cX5_addStepToLast 6 none) B.pre)
  have hown : s.vm.findClass RX5 = some m.cls := findClass_of_methodNamed B.named
  have hlocks := B.notSynchronized
  subst hsz
  have hD := hD0.self (sz := s.heap.size)
  generalize hAe : va_A ([(fn_5 pr pcn sps kds fst scs), (rf_RW ct 0 sps 4 fsps), (rf_RW ct 0 kds 48 fkds), (rf_RW ct 0 fst 48 ffst), (rf_RW ct 0 scs 48 fscs)] ++ ws) s.heap.size = A at hD hX ⊢
  have hA : ∀ q : Nat, s.heap.size ≤ q → A q := fun q h => by rw [← hAe]; exact Or.inr h
  have hS : va_S A s.heap s.heap [] := va_S.rf
  have hl := lv_entry ([.ref pr, .int p1, .int p2, .int p3]) (n := 6) (Nat.le_of_ble_eq_true rfl)
  rw [lg_entry_eq]
  generalize (lg_sl ([.ref pr, .int p1, .int p2, .int p3]) ++ List.replicate (6 - (lg_sl ([.ref pr, .int p1, .int p2, .int p3])).length) Slot.unset).toArray = ls at hl ⊢
  have hl : lv_has ls 6 [(0, .ref pr), (1, .int p1), (2, .int p2), (3, .int p3)] := hl
  refine lv_aload_n hx hb dX5_addStepToLast_0 rfl (lv_at hl 0 rfl) ?_
  refine va_get (v := .int pcn) (D := D) (ci := 5) (C := RX5) (T := TX5) (N := 5) hx hb hts in_X5 hown hK hP 0 rfl rfl 0 (by decide) (hts _ kl_RX5_24) (fun _ h9 => h9) rfl dX5_addStepToLast_1 ?_
  refine lv_iconst (v := 1) hx hb dX5_addStepToLast_4 (by decide) ?_
  refine lv_isub hx hb dX5_addStepToLast_5 ?_
  refine lv_istore (lv' := [(4, .int (pcn - 1)), (0, .ref pr), (1, .int p1), (2, .int p2), (3, .int p3)]) hx hb dX5_addStepToLast_6 hl (by decide) rfl (fun ls hl => ?_)
  refine lv_iload hx hb dX5_addStepToLast_8 (lv_at hl 0 rfl) ?_
  refine lv_bipush (v := 12) hx hb dX5_addStepToLast_10 (by decide) ?_
  refine lv_imul hx hb dX5_addStepToLast_12 ?_
  refine lv_aload_n hx hb dX5_addStepToLast_13 rfl (lv_at hl 1 rfl) ?_
  refine va_get (v := .ref sps) (D := D) (ci := 5) (C := RX5) (T := TX5) (N := 5) hx hb hts in_X5 hown hK hP 0 rfl rfl 1 (by decide) (hts _ kl_RX5_9) (fun _ h9 => h9) rfl dX5_addStepToLast_14 ?_
  refine lv_iload hx hb dX5_addStepToLast_17 (lv_at hl 0 rfl) ?_
  obtain ⟨hP, hD⟩ := ty_opPD (E1 := [(fn_5 pr pcn sps kds fst scs), (rf_RW ct 0 kds 48 fkds), (rf_RW ct 0 fst 48 ffst), (rf_RW ct 0 scs 48 fscs)]) (E2 := [(rf_RW ct 0 sps 4 fsps)]) (n := 5) [0, 2, 3, 4, 1] hP hD rfl rfl (by decide +kernel) ty_mv2
  refine ty_Ki hP hD hS hA (va_runSN (As := [.ref sps, .int (pcn - 1)]) (rest := [.int ((pcn - 1) * 12)]) ⟨hx, hb, hml, hown, hts⟩ (r_X10_at_4 l D ct (fun _ => none) [] (fun _ => True) (fun _ _ _ => True) sps fsps (pcn - 1) _ ty_V0 ty_C0 ty_y10) (cm_SN 2 hts kc_X10_at ki_RX10 kl_RX5_32 ks_X10_at kd_X10_at ⟨Nat.le_of_ble_eq_true rfl, Nat.le_of_ble_eq_true rfl⟩) (ty_preS hP hK hD hS hA hX) rfl rfl hl.1 rfl (lv_room (Nat.le_of_ble_eq_true rfl)) dX5_addStepToLast_19 ⟨Nat.le_of_ble_eq_true rfl, Nat.le_of_ble_eq_true rfl⟩) (fun r_1 u H locs hw_2 hP hD hS => ?_)
  obtain ⟨ws_3, rfl⟩ : ∃ z, z = u := ⟨_, rfl⟩
  obtain ⟨hT9_4, hp_5⟩ := hw_2
  have hp_5 : (a_X10_at_4 fsps (pcn - 1) r_1) := hp_5
  obtain ⟨hP, hD⟩ := ty_bkPD (E := [(fn_5 pr pcn sps kds fst scs), (rf_RW ct 0 kds 48 fkds), (rf_RW ct 0 fst 48 ffst), (rf_RW ct 0 scs 48 fscs), (rf_RW ct 0 sps 4 fsps)]) hP hD rfl
  refine lv_iadd hx hb dX5_addStepToLast_22 ?_
  refine lv_istore (lv' := [(5, .int (((pcn - 1) * 12) + r_1)), (4, .int (pcn - 1)), (0, .ref pr), (1, .int p1), (2, .int p2), (3, .int p3)]) hx hb dX5_addStepToLast_23 hl (by decide) rfl (fun ls hl => ?_)
  refine lv_aload_n hx hb dX5_addStepToLast_25 rfl (lv_at hl 2 rfl) ?_
  refine va_get (v := .ref kds) (D := D) (ci := 5) (C := RX5) (T := TX5) (N := 5) hx hb hts in_X5 hown hK hP 0 rfl rfl 2 (by decide) (hts _ kl_RX5_15) (fun _ h9 => h9) rfl dX5_addStepToLast_26 ?_
  refine lv_iload hx hb dX5_addStepToLast_29 (lv_at hl 0 rfl) ?_
  refine lv_iload_n hx hb dX5_addStepToLast_31 rfl (lv_at hl 3 rfl) ?_
  obtain ⟨hP, hD⟩ := ty_opPD (E1 := [(fn_5 pr pcn sps kds fst scs), (rf_RW ct 0 fst 48 ffst), (rf_RW ct 0 scs 48 fscs), (rf_RW ct 0 sps 4 fsps)]) (E2 := [(rf_RW ct 0 kds 48 fkds)]) (n := 5) [0, 2, 3, 4, 1] hP hD rfl rfl (by decide +kernel) ty_mv2
  refine ty_Kv hP hD hS hA (va_runSN (As := [.ref kds, .int (((pcn - 1) * 12) + r_1), .int p1]) (rest := []) ⟨hx, hb, hml, hown, hts⟩ (r_X10_put_48 l D ct (fun _ => none) [] (fun _ => True) (fun _ _ _ => True) kds fkds (((pcn - 1) * 12) + r_1) p1 _ ty_V0 ty_C0 ty_y10) (cm_SN 3 hts kc_X10_put ki_RX10 kl_RX5_28 ks_X10_put kd_X10_put ⟨Nat.le_of_ble_eq_true rfl, Nat.le_of_ble_eq_true rfl⟩) (ty_preS hP hK hD hS hA hX) rfl rfl hl.1 rfl (lv_room (Nat.le_of_ble_eq_true rfl)) dX5_addStepToLast_32 ⟨Nat.le_of_ble_eq_true rfl, Nat.le_of_ble_eq_true rfl⟩) (fun u H locs hw_7 hP hD hS => ?_)
  obtain ⟨ws_8, b1_9⟩ := u
  obtain ⟨hT9_10, hp_11⟩ := hw_7
  have hp_11 : (a_X10_put_48 fkds (((pcn - 1) * 12) + r_1) p1 b1_9) := hp_11
  obtain ⟨hP, hD⟩ := ty_bkPD (E := [(fn_5 pr pcn sps kds fst scs), (rf_RW ct 0 fst 48 ffst), (rf_RW ct 0 scs 48 fscs), (rf_RW ct 0 sps 4 fsps), (rf_RW ct 0 kds 48 b1_9)]) hP hD rfl
  refine lv_aload_n hx hb dX5_addStepToLast_35 rfl (lv_at hl 2 rfl) ?_
  refine va_get (v := .ref fst) (D := D) (ci := 5) (C := RX5) (T := TX5) (N := 5) hx hb hts in_X5 hown hK hP 0 rfl rfl 3 (by decide) (hts _ kl_RX5_18) (fun _ h9 => h9) rfl dX5_addStepToLast_36 ?_
  refine lv_iload hx hb dX5_addStepToLast_39 (lv_at hl 0 rfl) ?_
  refine lv_iload_n hx hb dX5_addStepToLast_41 rfl (lv_at hl 4 rfl) ?_
  obtain ⟨hP, hD⟩ := ty_opPD (E1 := [(fn_5 pr pcn sps kds fst scs), (rf_RW ct 0 scs 48 fscs), (rf_RW ct 0 sps 4 fsps), (rf_RW ct 0 kds 48 b1_9)]) (E2 := [(rf_RW ct 0 fst 48 ffst)]) (n := 5) [0, 2, 3, 4, 1] hP hD rfl rfl (by decide +kernel) ty_mv2
  refine ty_Kv hP hD hS hA (va_runSN (As := [.ref fst, .int (((pcn - 1) * 12) + r_1), .int p2]) (rest := []) ⟨hx, hb, hml, hown, hts⟩ (r_X10_put_48 l D ct (fun _ => none) [] (fun _ => True) (fun _ _ _ => True) fst ffst (((pcn - 1) * 12) + r_1) p2 _ ty_V0 ty_C0 ty_y10) (cm_SN 3 hts kc_X10_put ki_RX10 kl_RX5_28 ks_X10_put kd_X10_put ⟨Nat.le_of_ble_eq_true rfl, Nat.le_of_ble_eq_true rfl⟩) (ty_preS hP hK hD hS hA hX) rfl rfl hl.1 rfl (lv_room (Nat.le_of_ble_eq_true rfl)) dX5_addStepToLast_42 ⟨Nat.le_of_ble_eq_true rfl, Nat.le_of_ble_eq_true rfl⟩) (fun u H locs hw_13 hP hD hS => ?_)
  obtain ⟨ws_14, b1_15⟩ := u
  obtain ⟨hT9_16, hp_17⟩ := hw_13
  have hp_17 : (a_X10_put_48 ffst (((pcn - 1) * 12) + r_1) p2 b1_15) := hp_17
  obtain ⟨hP, hD⟩ := ty_bkPD (E := [(fn_5 pr pcn sps kds fst scs), (rf_RW ct 0 scs 48 fscs), (rf_RW ct 0 sps 4 fsps), (rf_RW ct 0 kds 48 b1_9), (rf_RW ct 0 fst 48 b1_15)]) hP hD rfl
  refine lv_aload_n hx hb dX5_addStepToLast_45 rfl (lv_at hl 2 rfl) ?_
  refine va_get (v := .ref scs) (D := D) (ci := 5) (C := RX5) (T := TX5) (N := 5) hx hb hts in_X5 hown hK hP 0 rfl rfl 4 (by decide) (hts _ kl_RX5_21) (fun _ h9 => h9) rfl dX5_addStepToLast_46 ?_
  refine lv_iload hx hb dX5_addStepToLast_49 (lv_at hl 0 rfl) ?_
  refine lv_iload_n hx hb dX5_addStepToLast_51 rfl (lv_at hl 5 rfl) ?_
  obtain ⟨hP, hD⟩ := ty_opPD (E1 := [(fn_5 pr pcn sps kds fst scs), (rf_RW ct 0 sps 4 fsps), (rf_RW ct 0 kds 48 b1_9), (rf_RW ct 0 fst 48 b1_15)]) (E2 := [(rf_RW ct 0 scs 48 fscs)]) (n := 5) [0, 2, 3, 4, 1] hP hD rfl rfl (by decide +kernel) ty_mv2
  refine ty_Kv hP hD hS hA (va_runSN (As := [.ref scs, .int (((pcn - 1) * 12) + r_1), .int p3]) (rest := []) ⟨hx, hb, hml, hown, hts⟩ (r_X10_put_48 l D ct (fun _ => none) [] (fun _ => True) (fun _ _ _ => True) scs fscs (((pcn - 1) * 12) + r_1) p3 _ ty_V0 ty_C0 ty_y10) (cm_SN 3 hts kc_X10_put ki_RX10 kl_RX5_28 ks_X10_put kd_X10_put ⟨Nat.le_of_ble_eq_true rfl, Nat.le_of_ble_eq_true rfl⟩) (ty_preS hP hK hD hS hA hX) rfl rfl hl.1 rfl (lv_room (Nat.le_of_ble_eq_true rfl)) dX5_addStepToLast_52 ⟨Nat.le_of_ble_eq_true rfl, Nat.le_of_ble_eq_true rfl⟩) (fun u H locs hw_19 hP hD hS => ?_)
  obtain ⟨ws_20, b1_21⟩ := u
  obtain ⟨hT9_22, hp_23⟩ := hw_19
  have hp_23 : (a_X10_put_48 fscs (((pcn - 1) * 12) + r_1) p3 b1_21) := hp_23
  obtain ⟨hP, hD⟩ := ty_bkPD (E := [(fn_5 pr pcn sps kds fst scs), (rf_RW ct 0 sps 4 fsps), (rf_RW ct 0 kds 48 b1_9), (rf_RW ct 0 fst 48 b1_15), (rf_RW ct 0 scs 48 b1_21)]) hP hD rfl
  refine lv_aload_n hx hb dX5_addStepToLast_55 rfl (lv_at hl 2 rfl) ?_
  refine va_get (v := .ref sps) (D := D) (ci := 5) (C := RX5) (T := TX5) (N := 5) hx hb hts in_X5 hown hK hP 0 rfl rfl 1 (by decide) (hts _ kl_RX5_9) (fun _ h9 => h9) rfl dX5_addStepToLast_56 ?_
  refine lv_iload hx hb dX5_addStepToLast_59 (lv_at hl 1 rfl) ?_
  refine lv_aload_n hx hb dX5_addStepToLast_61 rfl (lv_at hl 2 rfl) ?_
  refine va_get (v := .ref sps) (D := D) (ci := 5) (C := RX5) (T := TX5) (N := 5) hx hb hts in_X5 hown hK hP 0 rfl rfl 1 (by decide) (hts _ kl_RX5_9) (fun _ h9 => h9) rfl dX5_addStepToLast_62 ?_
  refine lv_iload hx hb dX5_addStepToLast_65 (lv_at hl 1 rfl) ?_
  obtain ⟨hP, hD⟩ := ty_opPD (E1 := [(fn_5 pr pcn sps kds fst scs), (rf_RW ct 0 kds 48 b1_9), (rf_RW ct 0 fst 48 b1_15), (rf_RW ct 0 scs 48 b1_21)]) (E2 := [(rf_RW ct 0 sps 4 fsps)]) (n := 5) [0, 2, 3, 4, 1] hP hD rfl rfl (by decide +kernel) ty_mv2
  refine ty_Ki hP hD hS hA (va_runSN (As := [.ref sps, .int (pcn - 1)]) (rest := [.int (pcn - 1), .ref sps]) ⟨hx, hb, hml, hown, hts⟩ (r_X10_at_4 l D ct (fun _ => none) [] (fun _ => True) (fun _ _ _ => True) sps fsps (pcn - 1) _ ty_V0 ty_C0 ty_y10) (cm_SN 2 hts kc_X10_at ki_RX10 kl_RX5_32 ks_X10_at kd_X10_at ⟨Nat.le_of_ble_eq_true rfl, Nat.le_of_ble_eq_true rfl⟩) (ty_preS hP hK hD hS hA hX) rfl rfl hl.1 rfl (lv_room (Nat.le_of_ble_eq_true rfl)) dX5_addStepToLast_67 ⟨Nat.le_of_ble_eq_true rfl, Nat.le_of_ble_eq_true rfl⟩) (fun r_24 u H locs hw_25 hP hD hS => ?_)
  obtain ⟨ws_26, rfl⟩ : ∃ z, z = u := ⟨_, rfl⟩
  obtain ⟨hT9_27, hp_28⟩ := hw_25
  have hp_28 : (a_X10_at_4 fsps (pcn - 1) r_24) := hp_28
  obtain ⟨hP, hD⟩ := ty_bkPD (E := [(fn_5 pr pcn sps kds fst scs), (rf_RW ct 0 kds 48 b1_9), (rf_RW ct 0 fst 48 b1_15), (rf_RW ct 0 scs 48 b1_21), (rf_RW ct 0 sps 4 fsps)]) hP hD rfl
  refine lv_iconst (v := 1) hx hb dX5_addStepToLast_70 (by decide) ?_
  refine lv_iadd hx hb dX5_addStepToLast_71 ?_
  obtain ⟨hP, hD⟩ := ty_ipPD (E1 := [(fn_5 pr pcn sps kds fst scs), (rf_RW ct 0 kds 48 b1_9), (rf_RW ct 0 fst 48 b1_15), (rf_RW ct 0 scs 48 b1_21)]) (E2 := [(rf_RW ct 0 sps 4 fsps)]) hP hD rfl ty_mv2
  refine ty_Kv hP hD hS hA (va_runSN (As := [.ref sps, .int (pcn - 1), .int (r_24 + 1)]) (rest := []) ⟨hx, hb, hml, hown, hts⟩ (r_X10_put_4 l D ct (fun _ => none) [] (fun _ => True) (fun _ _ _ => True) sps fsps (pcn - 1) (r_24 + 1) _ ty_V0 ty_C0 ty_y10) (cm_SN 3 hts kc_X10_put ki_RX10 kl_RX5_28 ks_X10_put kd_X10_put ⟨Nat.le_of_ble_eq_true rfl, Nat.le_of_ble_eq_true rfl⟩) (ty_preS hP hK hD hS hA hX) rfl rfl hl.1 rfl (lv_room (Nat.le_of_ble_eq_true rfl)) dX5_addStepToLast_72 ⟨Nat.le_of_ble_eq_true rfl, Nat.le_of_ble_eq_true rfl⟩) (fun u H locs hw_30 hP hD hS => ?_)
  obtain ⟨ws_31, b1_32⟩ := u
  obtain ⟨hT9_33, hp_34⟩ := hw_30
  have hp_34 : (a_X10_put_4 fsps (pcn - 1) (r_24 + 1) b1_32) := hp_34
  obtain ⟨hP, hD⟩ := ty_bkPD (E := [(fn_5 pr pcn sps kds fst scs), (rf_RW ct 0 kds 48 b1_9), (rf_RW ct 0 fst 48 b1_15), (rf_RW ct 0 scs 48 b1_21), (rf_RW ct 0 sps 4 b1_32)]) hP hD rfl
  obtain ⟨hP, hD⟩ := ty_ordPD (E2 := [(fn_5 pr pcn sps kds fst scs), (rf_RW ct 0 sps 4 b1_32), (rf_RW ct 0 kds 48 b1_9), (rf_RW ct 0 fst 48 b1_15), (rf_RW ct 0 scs 48 b1_21)]) (n := 5) [0, 4, 1, 2, 3] hP hD rfl rfl (by decide +kernel)
  exact W.vret hx hb hr (fun t ht hW => ⟨⟨(ws, b1_32, b1_9, b1_15, b1_21), rfl, ⟨hT, ⟨r_1, hp_5, ⟨b1_9, hp_11, ⟨b1_15, hp_17, ⟨b1_21, hp_23, ⟨r_24, hp_28, ⟨b1_32, hp_34, ⟨rfl, rfl, rfl, rfl⟩⟩⟩⟩⟩⟩⟩⟩, by rw [ht]; exact hP, by rw [hAe]; exact hD⟩, hS.F ht⟩) hS.2.2 dX5_addStepToLast_75
