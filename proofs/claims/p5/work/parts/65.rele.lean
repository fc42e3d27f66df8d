def a_X2_add (ccn : Int32) (fnm : Nat → Int64) (fpn : Nat → Int32) (p1 : Int64) (ccn1 : Int32) (fnm1 : Nat → Int64) (fpn1 : Nat → Int32) : Prop := ((ccn < (0 : Int32) ∧ (ccn1 = ccn ∧ fnm1 = fnm ∧ fpn1 = fpn)) ∨ (¬ ccn < (0 : Int32) ∧ (((4 : Int32) ≤ ccn ∧ (ccn1 = ccn ∧ fnm1 = fnm ∧ fpn1 = fpn)) ∨ (¬ (4 : Int32) ≤ ccn ∧ (∃ (b1_6 : Nat → Int32), (a_X10_put_4 fpn ccn (0 : Int32) b1_6) ∧ (ccn1 = (ccn + 1) ∧ fnm1 = (vp_updL fnm ccn.toNatClampNeg p1) ∧ fpn1 = b1_6))))))
set_option maxRecDepth 100000 in
set_option maxHeartbeats 4000000 in
theorem r_X2_add (l : Launch) (D : va_G) (ct : Nat → ClassId) (S : ty_S) (ws : va_W) (ph : va_W → Prop) (xx : Nat → Nat → Nat → Prop) (cu : Nat) (ccn : Int32) (nms : Nat) (pnt : Nat) (vts : Nat) (fnm : Nat → Int64) (fpn : Nat → Int32) (p1 : Int64) (sz : Nat) (hT : ty_V ct S ph ws) (hph : ty_C ph xx) (hy1 : ty_y1 xx) : Met l yX2_add (ws_ yX2_add cX2_add 3 none) ({ frames := 1, cells := 0, slots := 0, locals := 22 } : Room) (va_Pc [.ref cu, .long p1] (cmP D ct sz ([(fn_2 cu ccn nms pnt vts), (nms, .inl (ct 1, 4, .inr (.inl fnm))), (rf_RW ct 0 pnt 4 fpn)] ++ ws))) (va_Qv (fun (u : va_W × Int32 × (Nat → Int64) × (Nat → Int32)) => match u with | (u9, ccn1, fnm1, fpn1) => ty_V ct S ph u9 ∧ (a_X2_add ccn fnm fpn p1 ccn1 fnm1 fpn1)) (cmB D ([(fn_2 cu ccn nms pnt vts), (nms, .inl (ct 1, 4, .inr (.inl fnm))), (rf_RW ct 0 pnt 4 fpn)] ++ ws) sz (fun (u : va_W × Int32 × (Nat → Int64) × (Nat → Int32)) => match u with | (u9, ccn1, fnm1, fpn1) => ([(fn_2 cu ccn1 nms pnt vts), (nms, .inl (ct 1, 4, .inr (.inl fnm1))), (rf_RW ct 0 pnt 4 fpn1)] ++ u9))) (va_A ([(fn_2 cu ccn nms pnt vts), (nms, .inl (ct 1, 4, .inr (.inl fnm))), (rf_RW ct 0 pnt 4 fpn)] ++ ws) sz)) 0 0 (va_A ([(fn_2 cu ccn nms pnt vts), (nms, .inl (ct 1, 4, .inr (.inl fnm))), (rf_RW ct 0 pnt 4 fpn)] ++ ws) sz) := by
  refine Met.ofW (cc := cX2_add) (maxL := 3) (ret := none) (by decide) rfl ?_
  intro p e s m args below meth c s₁ B hml hv
  obtain ⟨rfl, hsz, hP, hK, hD0, hX⟩ := hv
  have hx := B.exec
  have hb := B.bytes
  have hr := B.returns
  have hts := ws_all (atoms_spec (ws := ws_ yX2_add cX2_add 3 none) B.pre)
  have hown : s.vm.findClass RX2 = some m.cls := findClass_of_methodNamed B.named
  have hlocks := B.notSynchronized
  subst hsz
  have hD := hD0.self (sz := s.heap.size)
  generalize hAe : va_A ([(fn_2 cu ccn nms pnt vts), (nms, .inl (ct 1, 4, .inr (.inl fnm))), (rf_RW ct 0 pnt 4 fpn)] ++ ws) s.heap.size = A at hD hX ⊢
  have hA : ∀ q : Nat, s.heap.size ≤ q → A q := fun q h => by rw [← hAe]; exact Or.inr h
  have hS : va_S A s.heap s.heap [] := va_S.rf
  have hl := lv_entry ([.ref cu, .long p1]) (n := 3) (Nat.le_of_ble_eq_true rfl)
  rw [lg_entry_eq]
  generalize (lg_sl ([.ref cu, .long p1]) ++ List.replicate (3 - (lg_sl ([.ref cu, .long p1])).length) Slot.unset).toArray = ls at hl ⊢
  have hl : lv_has ls 3 [(0, .ref cu), (1, .long p1)] := hl
  refine lv_aload_n hx hb dX2_add_0 rfl (lv_at hl 0 rfl) ?_
  refine va_get (v := .int ccn) (D := D) (ci := 2) (C := RX2) (T := TX2) (N := 4) hx hb hts in_X2 hown hK hP 0 rfl rfl 0 (by decide) (hts _ kl_RX2_22) (fun _ h9 => h9) rfl dX2_add_1 ?_
  refine lv_if_lt (tgt := 51) hx hb dX2_add_4 (by decide) (fun hc_1 => ?_) (fun hc_1 => ?_)
  · exact W.vret hx hb hr (fun t ht hW => ⟨⟨(ws, ccn, fnm, fpn), rfl, ⟨hT, (Or.inl ⟨hc_1, ⟨rfl, rfl, rfl⟩⟩)⟩, by rw [ht]; exact hP, by rw [hAe]; exact hD⟩, hS.F ht⟩) hS.2.2 dX2_add_51
  · refine lv_aload_n hx hb dX2_add_7 rfl (lv_at hl 0 rfl) ?_
    refine va_get (v := .int ccn) (D := D) (ci := 2) (C := RX2) (T := TX2) (N := 4) hx hb hts in_X2 hown hK hP 0 rfl rfl 0 (by decide) (hts _ kl_RX2_22) (fun _ h9 => h9) rfl dX2_add_8 ?_
    refine lv_aload_n hx hb dX2_add_11 rfl (lv_at hl 0 rfl) ?_
    refine va_get (v := .ref nms) (D := D) (ci := 2) (C := RX2) (T := TX2) (N := 4) hx hb hts in_X2 hown hK hP 0 rfl rfl 1 (by decide) (hts _ kl_RX2_9) (fun _ h9 => h9) rfl dX2_add_12 ?_
    refine va_alen hx hb hK hP 1 1 rfl rfl (v := 4) (show Int32.ofNat 4 = (4 : Int32) from by decide) dX2_add_15 ?_
    refine lv_icmp_ge (tgt := 51) hx hb dX2_add_16 (by decide) (fun hc_2 => ?_) (fun hc_2 => ?_)
    · exact W.vret hx hb hr (fun t ht hW => ⟨⟨(ws, ccn, fnm, fpn), rfl, ⟨hT, (Or.inr ⟨hc_1, (Or.inl ⟨hc_2, ⟨rfl, rfl, rfl⟩⟩)⟩)⟩, by rw [ht]; exact hP, by rw [hAe]; exact hD⟩, hS.F ht⟩) hS.2.2 dX2_add_51
    · refine lv_aload_n hx hb dX2_add_19 rfl (lv_at hl 0 rfl) ?_
      refine va_get (v := .ref nms) (D := D) (ci := 2) (C := RX2) (T := TX2) (N := 4) hx hb hts in_X2 hown hK hP 0 rfl rfl 1 (by decide) (hts _ kl_RX2_9) (fun _ h9 => h9) rfl dX2_add_20 ?_
      refine lv_aload_n hx hb dX2_add_23 rfl (lv_at hl 0 rfl) ?_
      refine va_get (v := .int ccn) (D := D) (ci := 2) (C := RX2) (T := TX2) (N := 4) hx hb hts in_X2 hown hK hP 0 rfl rfl 0 (by decide) (hts _ kl_RX2_22) (fun _ h9 => h9) rfl dX2_add_24 ?_
      refine lv_lload_n hx hb dX2_add_27 rfl (lv_at hl 1 rfl) ?_
      refine va_last hx hb hK hP hD hS 1 1 rfl rfl (a_vin2 (k := 4) (by decide) hc_1 hc_2) dX2_add_28 (fun H locs hP hD hS => ?_)
      have hP : va_P D vwCl ([(fn_2 cu ccn nms pnt vts), (nms, .inl (ct 1, 4, .inr (.inl (vp_updL fnm ccn.toNatClampNeg p1)))), (rf_RW ct 0 pnt 4 fpn)] ++ ws) H := hP
      have hD : va_D A ([(fn_2 cu ccn nms pnt vts), (nms, .inl (ct 1, 4, .inr (.inl (vp_updL fnm ccn.toNatClampNeg p1)))), (rf_RW ct 0 pnt 4 fpn)] ++ ws) := hD
      refine lv_aload_n hx hb dX2_add_29 rfl (lv_at hl 0 rfl) ?_
      refine va_get (v := .ref pnt) (D := D) (ci := 2) (C := RX2) (T := TX2) (N := 4) hx hb hts in_X2 hown hK hP 0 rfl rfl 2 (by decide) (hts _ kl_RX2_15) (fun _ h9 => h9) rfl dX2_add_30 ?_
      refine lv_aload_n hx hb dX2_add_33 rfl (lv_at hl 0 rfl) ?_
      refine va_get (v := .int ccn) (D := D) (ci := 2) (C := RX2) (T := TX2) (N := 4) hx hb hts in_X2 hown hK hP 0 rfl rfl 0 (by decide) (hts _ kl_RX2_22) (fun _ h9 => h9) rfl dX2_add_34 ?_
      refine lv_iconst (v := 0) hx hb dX2_add_37 (by decide) ?_
      obtain ⟨hP, hD⟩ := ty_ipPD (E1 := [(fn_2 cu ccn nms pnt vts), (nms, .inl (ct 1, 4, .inr (.inl (vp_updL fnm ccn.toNatClampNeg p1))))]) (E2 := [(rf_RW ct 0 pnt 4 fpn)]) hP hD rfl ty_mv2
      refine ty_Kv hP hD hS hA (va_runSN (As := [.ref pnt, .int ccn, .int 0]) (rest := []) ⟨hx, hb, hml, hown, hts⟩ (r_X10_put_4 l D ct (fun _ => none) [] (fun _ => True) (fun _ _ _ => True) pnt fpn ccn (0 : Int32) _ ty_V0 ty_C0 ty_y10) (cm_SN 3 hts kc_X10_put ki_RX10 kl_RX2_26 ks_X10_put kd_X10_put ⟨Nat.le_of_ble_eq_true rfl, Nat.le_of_ble_eq_true rfl⟩) (ty_preS hP hK hD hS hA hX) rfl rfl hl.1 rfl (lv_room (Nat.le_of_ble_eq_true rfl)) dX2_add_38 ⟨Nat.le_of_ble_eq_true rfl, Nat.le_of_ble_eq_true rfl⟩) (fun u H locs hw_4 hP hD hS => ?_)
      obtain ⟨ws_5, b1_6⟩ := u
      obtain ⟨hT9_7, hp_8⟩ := hw_4
      have hp_8 : (a_X10_put_4 fpn ccn (0 : Int32) b1_6) := hp_8
      obtain ⟨hP, hD⟩ := ty_bkPD (E := [(fn_2 cu ccn nms pnt vts), (nms, .inl (ct 1, 4, .inr (.inl (vp_updL fnm ccn.toNatClampNeg p1)))), (rf_RW ct 0 pnt 4 b1_6)]) hP hD rfl
      refine lv_aload_n hx hb dX2_add_41 rfl (lv_at hl 0 rfl) ?_
      refine lv_dup hx hb dX2_add_42 rfl ?_
      refine va_get (v := .int ccn) (D := D) (ci := 2) (C := RX2) (T := TX2) (N := 4) hx hb hts in_X2 hown hK hP 0 rfl rfl 0 (by decide) (hts _ kl_RX2_22) (fun _ h9 => h9) rfl dX2_add_43 ?_
      refine lv_iconst (v := 1) hx hb dX2_add_46 (by decide) ?_
      refine lv_iadd hx hb dX2_add_47 ?_
      refine va_put (v := .int (ccn + 1)) (ty := .int) (D := D) (ci := 2) (C := RX2) (T := TX2) (N := 4) hx hb hts in_X2 tyX2 tyX2_ok nmX2 hown hK hP hD hS 0 rfl rfl 0 (by decide) (hts _ kl_RX2_22) (fun _ h9 => h9) rfl (by decide +kernel) rfl rfl (Nat.le_of_ble_eq_true rfl) dX2_add_48 (fun H locs hP hD hS => ?_)
      have hP : va_P D vwCl ([(fn_2 cu (ccn + 1) nms pnt vts), (nms, .inl (ct 1, 4, .inr (.inl (vp_updL fnm ccn.toNatClampNeg p1)))), (rf_RW ct 0 pnt 4 b1_6)] ++ ws) H := hP
      have hD : va_D A ([(fn_2 cu (ccn + 1) nms pnt vts), (nms, .inl (ct 1, 4, .inr (.inl (vp_updL fnm ccn.toNatClampNeg p1)))), (rf_RW ct 0 pnt 4 b1_6)] ++ ws) := hD
      exact W.vret hx hb hr (fun t ht hW => ⟨⟨(ws, (ccn + 1), (vp_updL fnm ccn.toNatClampNeg p1), b1_6), rfl, ⟨hT, (Or.inr ⟨hc_1, (Or.inr ⟨hc_2, ⟨b1_6, hp_8, ⟨rfl, rfl, rfl⟩⟩⟩)⟩)⟩, by rw [ht]; exact hP, by rw [hAe]; exact hD⟩, hS.F ht⟩) hS.2.2 dX2_add_51
def a_X2_addVoltageToLast (ccn : Int32) (fpn : Nat → Int32) (fvt : Nat → Int32) (p1 : Int32) (fpn1 : Nat → Int32) (fvt1 : Nat → Int32) : Prop := (∃ (r_1 : Int32), (a_X10_at_4 fpn (ccn - 1) r_1) ∧ (∃ (b1_9 : Nat → Int32), (a_X10_put_44 fvt (((ccn - 1) * 11) + r_1) p1 b1_9) ∧ (∃ (b1_15 : Nat → Int32), (a_X10_put_4 fpn (ccn - 1) (r_1 + 1) b1_15) ∧ (fpn1 = b1_15 ∧ fvt1 = b1_9))))
set_option maxRecDepth 100000 in
set_option maxHeartbeats 4000000 in
theorem r_X2_addVoltageToLast (l : Launch) (D : va_G) (ct : Nat → ClassId) (S : ty_S) (ws : va_W) (ph : va_W → Prop) (xx : Nat → Nat → Nat → Prop) (cu : Nat) (ccn : Int32) (nms : Nat) (pnt : Nat) (vts : Nat) (fpn : Nat → Int32) (fvt : Nat → Int32) (p1 : Int32) (sz : Nat) (hT : ty_V ct S ph ws) (hph : ty_C ph xx) (hy1 : ty_y1 xx) : Met l yX2_addVoltageToLast (ws_ yX2_addVoltageToLast cX2_addVoltageToLast 4 none) ({ frames := 1, cells := 0, slots := 0, locals := 22 } : Room) (va_Pc [.ref cu, .int p1] (cmP D ct sz ([(fn_2 cu ccn nms pnt vts), (rf_RW ct 0 pnt 4 fpn), (rf_RW ct 0 vts 44 fvt)] ++ ws))) (va_Qv (fun (u : va_W × (Nat → Int32) × (Nat → Int32)) => match u with | (u9, fpn1, fvt1) => ty_V ct S ph u9 ∧ (a_X2_addVoltageToLast ccn fpn fvt p1 fpn1 fvt1)) (cmB D ([(fn_2 cu ccn nms pnt vts), (rf_RW ct 0 pnt 4 fpn), (rf_RW ct 0 vts 44 fvt)] ++ ws) sz (fun (u : va_W × (Nat → Int32) × (Nat → Int32)) => match u with | (u9, fpn1, fvt1) => ([(fn_2 cu ccn nms pnt vts), (rf_RW ct 0 pnt 4 fpn1), (rf_RW ct 0 vts 44 fvt1)] ++ u9))) (va_A ([(fn_2 cu ccn nms pnt vts), (rf_RW ct 0 pnt 4 fpn), (rf_RW ct 0 vts 44 fvt)] ++ ws) sz)) 0 0 (va_A ([(fn_2 cu ccn nms pnt vts), (rf_RW ct 0 pnt 4 fpn), (rf_RW ct 0 vts 44 fvt)] ++ ws) sz) := by
  refine Met.ofW (cc := cX2_addVoltageToLast) (maxL := 4) (ret := none) (by decide) rfl ?_
  intro p e s m args below meth c s₁ B hml hv
  obtain ⟨rfl, hsz, hP, hK, hD0, hX⟩ := hv
  have hx := B.exec
  have hb := B.bytes
  have hr := B.returns
  have hts := ws_all (atoms_spec (ws := ws_ yX2_addVoltageToLast cX2_addVoltageToLast 4 none) B.pre)
  have hown : s.vm.findClass RX2 = some m.cls := findClass_of_methodNamed B.named
  have hlocks := B.notSynchronized
  subst hsz
  have hD := hD0.self (sz := s.heap.size)
  generalize hAe : va_A ([(fn_2 cu ccn nms pnt vts), (rf_RW ct 0 pnt 4 fpn), (rf_RW ct 0 vts 44 fvt)] ++ ws) s.heap.size = A at hD hX ⊢
  have hA : ∀ q : Nat, s.heap.size ≤ q → A q := fun q h => by rw [← hAe]; exact Or.inr h
  have hS : va_S A s.heap s.heap [] := va_S.rf
  have hl := lv_entry ([.ref cu, .int p1]) (n := 4) (Nat.le_of_ble_eq_true rfl)
  rw [lg_entry_eq]
  generalize (lg_sl ([.ref cu, .int p1]) ++ List.replicate (4 - (lg_sl ([.ref cu, .int p1])).length) Slot.unset).toArray = ls at hl ⊢
  have hl : lv_has ls 4 [(0, .ref cu), (1, .int p1)] := hl
  refine lv_aload_n hx hb dX2_addVoltageToLast_0 rfl (lv_at hl 0 rfl) ?_
  refine va_get (v := .int ccn) (D := D) (ci := 2) (C := RX2) (T := TX2) (N := 4) hx hb hts in_X2 hown hK hP 0 rfl rfl 0 (by decide) (hts _ kl_RX2_22) (fun _ h9 => h9) rfl dX2_addVoltageToLast_1 ?_
  refine lv_iconst (v := 1) hx hb dX2_addVoltageToLast_4 (by decide) ?_
  refine lv_isub hx hb dX2_addVoltageToLast_5 ?_
  refine lv_istore_n (lv' := [(2, .int (ccn - 1)), (0, .ref cu), (1, .int p1)]) hx hb dX2_addVoltageToLast_6 rfl hl (by decide) rfl (fun ls hl => ?_)
  refine lv_aload_n hx hb dX2_addVoltageToLast_7 rfl (lv_at hl 1 rfl) ?_
  refine va_get (v := .ref pnt) (D := D) (ci := 2) (C := RX2) (T := TX2) (N := 4) hx hb hts in_X2 hown hK hP 0 rfl rfl 2 (by decide) (hts _ kl_RX2_15) (fun _ h9 => h9) rfl dX2_addVoltageToLast_8 ?_
  refine lv_iload_n hx hb dX2_addVoltageToLast_11 rfl (lv_at hl 0 rfl) ?_
  obtain ⟨hP, hD⟩ := ty_opPD (E1 := [(fn_2 cu ccn nms pnt vts), (rf_RW ct 0 vts 44 fvt)]) (E2 := [(rf_RW ct 0 pnt 4 fpn)]) (n := 3) [0, 2, 1] hP hD rfl rfl (by decide +kernel) ty_mv2
  refine ty_Ki hP hD hS hA (va_runSN (As := [.ref pnt, .int (ccn - 1)]) (rest := []) ⟨hx, hb, hml, hown, hts⟩ (r_X10_at_4 l D ct (fun _ => none) [] (fun _ => True) (fun _ _ _ => True) pnt fpn (ccn - 1) _ ty_V0 ty_C0 ty_y10) (cm_SN 2 hts kc_X10_at ki_RX10 kl_RX2_30 ks_X10_at kd_X10_at ⟨Nat.le_of_ble_eq_true rfl, Nat.le_of_ble_eq_true rfl⟩) (ty_preS hP hK hD hS hA hX) rfl rfl hl.1 rfl (lv_room (Nat.le_of_ble_eq_true rfl)) dX2_addVoltageToLast_12 ⟨Nat.le_of_ble_eq_true rfl, Nat.le_of_ble_eq_true rfl⟩) (fun r_1 u H locs hw_2 hP hD hS => ?_)
  obtain ⟨ws_3, rfl⟩ : ∃ z, z = u := ⟨_, rfl⟩
  obtain ⟨hT9_4, hp_5⟩ := hw_2
  have hp_5 : (a_X10_at_4 fpn (ccn - 1) r_1) := hp_5
  obtain ⟨hP, hD⟩ := ty_bkPD (E := [(fn_2 cu ccn nms pnt vts), (rf_RW ct 0 vts 44 fvt), (rf_RW ct 0 pnt 4 fpn)]) hP hD rfl
  refine lv_istore_n (lv' := [(3, .int r_1), (2, .int (ccn - 1)), (0, .ref cu), (1, .int p1)]) hx hb dX2_addVoltageToLast_15 rfl hl (by decide) rfl (fun ls hl => ?_)
  refine lv_aload_n hx hb dX2_addVoltageToLast_16 rfl (lv_at hl 2 rfl) ?_
  refine va_get (v := .ref vts) (D := D) (ci := 2) (C := RX2) (T := TX2) (N := 4) hx hb hts in_X2 hown hK hP 0 rfl rfl 3 (by decide) (hts _ kl_RX2_19) (fun _ h9 => h9) rfl dX2_addVoltageToLast_17 ?_
  refine lv_iload_n hx hb dX2_addVoltageToLast_20 rfl (lv_at hl 1 rfl) ?_
  refine lv_bipush (v := 11) hx hb dX2_addVoltageToLast_21 (by decide) ?_
  refine lv_imul hx hb dX2_addVoltageToLast_23 ?_
  refine lv_iload_n hx hb dX2_addVoltageToLast_24 rfl (lv_at hl 0 rfl) ?_
  refine lv_iadd hx hb dX2_addVoltageToLast_25 ?_
  refine lv_iload_n hx hb dX2_addVoltageToLast_26 rfl (lv_at hl 3 rfl) ?_
  obtain ⟨hP, hD⟩ := ty_opPD (E1 := [(fn_2 cu ccn nms pnt vts), (rf_RW ct 0 pnt 4 fpn)]) (E2 := [(rf_RW ct 0 vts 44 fvt)]) (n := 3) [0, 2, 1] hP hD rfl rfl (by decide +kernel) ty_mv2
  refine ty_Kv hP hD hS hA (va_runSN (As := [.ref vts, .int (((ccn - 1) * 11) + r_1), .int p1]) (rest := []) ⟨hx, hb, hml, hown, hts⟩ (r_X10_put_44 l D ct (fun _ => none) [] (fun _ => True) (fun _ _ _ => True) vts fvt (((ccn - 1) * 11) + r_1) p1 _ ty_V0 ty_C0 ty_y10) (cm_SN 3 hts kc_X10_put ki_RX10 kl_RX2_26 ks_X10_put kd_X10_put ⟨Nat.le_of_ble_eq_true rfl, Nat.le_of_ble_eq_true rfl⟩) (ty_preS hP hK hD hS hA hX) rfl rfl hl.1 rfl (lv_room (Nat.le_of_ble_eq_true rfl)) dX2_addVoltageToLast_27 ⟨Nat.le_of_ble_eq_true rfl, Nat.le_of_ble_eq_true rfl⟩) (fun u H locs hw_7 hP hD hS => ?_)
  obtain ⟨ws_8, b1_9⟩ := u
  obtain ⟨hT9_10, hp_11⟩ := hw_7
  have hp_11 : (a_X10_put_44 fvt (((ccn - 1) * 11) + r_1) p1 b1_9) := hp_11
  obtain ⟨hP, hD⟩ := ty_bkPD (E := [(fn_2 cu ccn nms pnt vts), (rf_RW ct 0 pnt 4 fpn), (rf_RW ct 0 vts 44 b1_9)]) hP hD rfl
  refine lv_aload_n hx hb dX2_addVoltageToLast_30 rfl (lv_at hl 2 rfl) ?_
  refine va_get (v := .ref pnt) (D := D) (ci := 2) (C := RX2) (T := TX2) (N := 4) hx hb hts in_X2 hown hK hP 0 rfl rfl 2 (by decide) (hts _ kl_RX2_15) (fun _ h9 => h9) rfl dX2_addVoltageToLast_31 ?_
  refine lv_iload_n hx hb dX2_addVoltageToLast_34 rfl (lv_at hl 1 rfl) ?_
  refine lv_iload_n hx hb dX2_addVoltageToLast_35 rfl (lv_at hl 0 rfl) ?_
  refine lv_iconst (v := 1) hx hb dX2_addVoltageToLast_36 (by decide) ?_
  refine lv_iadd hx hb dX2_addVoltageToLast_37 ?_
  obtain ⟨hP, hD⟩ := ty_opPD (E1 := [(fn_2 cu ccn nms pnt vts), (rf_RW ct 0 vts 44 b1_9)]) (E2 := [(rf_RW ct 0 pnt 4 fpn)]) (n := 3) [0, 2, 1] hP hD rfl rfl (by decide +kernel) ty_mv2
  refine ty_Kv hP hD hS hA (va_runSN (As := [.ref pnt, .int (ccn - 1), .int (r_1 + 1)]) (rest := []) ⟨hx, hb, hml, hown, hts⟩ (r_X10_put_4 l D ct (fun _ => none) [] (fun _ => True) (fun _ _ _ => True) pnt fpn (ccn - 1) (r_1 + 1) _ ty_V0 ty_C0 ty_y10) (cm_SN 3 hts kc_X10_put ki_RX10 kl_RX2_26 ks_X10_put kd_X10_put ⟨Nat.le_of_ble_eq_true rfl, Nat.le_of_ble_eq_true rfl⟩) (ty_preS hP hK hD hS hA hX) rfl rfl hl.1 rfl (lv_room (Nat.le_of_ble_eq_true rfl)) dX2_addVoltageToLast_38 ⟨Nat.le_of_ble_eq_true rfl, Nat.le_of_ble_eq_true rfl⟩) (fun u H locs hw_13 hP hD hS => ?_)
  obtain ⟨ws_14, b1_15⟩ := u
  obtain ⟨hT9_16, hp_17⟩ := hw_13
  have hp_17 : (a_X10_put_4 fpn (ccn - 1) (r_1 + 1) b1_15) := hp_17
  obtain ⟨hP, hD⟩ := ty_bkPD (E := [(fn_2 cu ccn nms pnt vts), (rf_RW ct 0 vts 44 b1_9), (rf_RW ct 0 pnt 4 b1_15)]) hP hD rfl
  obtain ⟨hP, hD⟩ := ty_ordPD (E2 := [(fn_2 cu ccn nms pnt vts), (rf_RW ct 0 pnt 4 b1_15), (rf_RW ct 0 vts 44 b1_9)]) (n := 3) [0, 2, 1] hP hD rfl rfl (by decide +kernel)
  exact W.vret hx hb hr (fun t ht hW => ⟨⟨(ws, b1_15, b1_9), rfl, ⟨hT, ⟨r_1, hp_5, ⟨b1_9, hp_11, ⟨b1_15, hp_17, ⟨rfl, rfl⟩⟩⟩⟩⟩, by rw [ht]; exact hP, by rw [hAe]; exact hD⟩, hS.F ht⟩) hS.2.2 dX2_addVoltageToLast_41
def fw_at (n : Nat) (b : Nat → Int32) (i : Int32) : Int32 := if 0 ≤ i.toInt ∧ i.toInt < n then b i.toInt.toNat else 0
def fw_pt (n : Nat) (b : Nat → Int32) (i v : Int32) : Nat → Int32 := if 0 ≤ i.toInt ∧ i.toInt < n then upd b i.toInt.toNat v else b
theorem fw_atE {k : Int32} {n : Nat} (hk : k.toInt = n) {b : Nat → Int32} {i r : Int32} (h : (i < 0 ∧ r = 0) ∨ (¬ i < 0 ∧ ((i < k ∧ r = b i.toNatClampNeg) ∨ (¬ i < k ∧ r = 0)))) : r = fw_at n b i := by
  unfold fw_at
  rcases h with ⟨h, e⟩ | ⟨h, ⟨h2, e⟩ | ⟨h2, e⟩⟩
  · rw [Int32.lt_iff_toInt_lt, show (0 : Int32).toInt = 0 from by decide] at h
    rw [e, if_neg (by omega)]
  · rw [Int32.lt_iff_toInt_lt, show (0 : Int32).toInt = 0 from by decide] at h
    rw [Int32.lt_iff_toInt_lt, hk] at h2
    rw [e, if_pos (by omega)]
    rfl
  · rw [Int32.lt_iff_toInt_lt, show (0 : Int32).toInt = 0 from by decide] at h
    rw [Int32.lt_iff_toInt_lt, hk] at h2
    rw [e, if_neg (by omega)]
theorem fw_ptE {k : Int32} {n : Nat} (hk : k.toInt = n) {b b1 : Nat → Int32} {i v : Int32} (h : (i < 0 ∧ b1 = b) ∨ (¬ i < 0 ∧ ((k ≤ i ∧ b1 = b) ∨ (¬ k ≤ i ∧ b1 = upd b i.toNatClampNeg v)))) : b1 = fw_pt n b i v := by
  unfold fw_pt
  rcases h with ⟨h, e⟩ | ⟨h, ⟨h2, e⟩ | ⟨h2, e⟩⟩
  · rw [Int32.lt_iff_toInt_lt, show (0 : Int32).toInt = 0 from by decide] at h
    rw [e, if_neg (by omega)]
  · rw [Int32.lt_iff_toInt_lt, show (0 : Int32).toInt = 0 from by decide] at h
    rw [Int32.le_iff_toInt_le, hk] at h2
    rw [e, if_neg (by omega)]
  · rw [Int32.lt_iff_toInt_lt, show (0 : Int32).toInt = 0 from by decide] at h
    rw [Int32.le_iff_toInt_le, hk] at h2
    rw [e, if_pos (by omega)]
    rfl
/-- a row whose first places are another's -/
def a_tc (f : Nat → Int32) (k : Int32) (n : Nat) (b c : Nat → Int32) : Prop := ∀ j : Nat, c j = if j < n ∧ j < 11 then fw_at 44 f (k * 11 + Int32.ofNat j) else b j
theorem a_tc0 {f b : Nat → Int32} {k : Int32} : a_tc f k (0 : Int32).toInt.toNat b b := fun j => (if_neg (fun q => by have : (0 : Int32).toInt.toNat = 0 := (by decide); omega)).symm
theorem a_tc1 {f b c d : Nat → Int32} {k y n r : Int32} (h0 : 0 ≤ y.toInt) (hl : ¬ n ≤ y) (h : a_tc f k y.toInt.toNat b c) (hr : a_X2_voltageOf f k y r) (hp : a_X10_put_11 c y r d) : a_tc f k (y + Int32.ofInt 1).toInt.toNat b d := by
  obtain ⟨r2, hr2, hr3⟩ := hr
  have e1 : r2 = fw_at 44 f (k * 11 + y) := fw_atE (k := 44) (by decide) hr2
  have e2 : d = fw_pt 11 c y r := fw_ptE (k := 11) (by decide) hp
  have e3 : (y + Int32.ofInt 1).toInt = y.toInt + 1 := a_fdi h0 hl
  have e4 : Int32.ofNat y.toInt.toNat = y := by
    refine Int32.toInt.inj ?_
    have := Int32.toInt_lt y
    rw [Int32.toInt_ofNat_of_lt (by omega)]
    omega
  intro j
  rw [e2, e3]
  unfold fw_pt
  by_cases q : 0 ≤ y.toInt ∧ y.toInt < (11 : Nat)
  · rw [if_pos q]
    show (if j = y.toInt.toNat then r else c j) = _
    by_cases q2 : j = y.toInt.toNat
    · rw [if_pos q2, if_pos (by omega), q2, e4, hr3, e1]
    · rw [if_neg q2, h j]
      by_cases q3 : j < y.toInt.toNat ∧ j < 11
      · rw [if_pos q3, if_pos (by omega)]
      · rw [if_neg q3, if_neg (by omega)]
  · rw [if_neg q, h j]
    by_cases q3 : j < y.toInt.toNat ∧ j < 11
    · rw [if_pos q3, if_pos (by omega)]
    · rw [if_neg q3, if_neg (by omega)]
theorem a_tc2 {y n : Int32} (h0 : 0 ≤ y.toInt) (h : ¬ n ≤ y) : y + Int32.ofInt 1 ≤ n := by
  rw [Int32.le_iff_toInt_le, a_fdi h0 h]
  rw [Int32.le_iff_toInt_le] at h
  omega
/-- a cell's curve, taken from the list -/
def fw_tc (f : Nat → Int32) (k n : Int32) (b : Nat → Int32) : Nat → Int32 := fun j => if j < n.toInt.toNat ∧ j < 11 then fw_at 44 f (k * 11 + Int32.ofNat j) else b j
def a_X0_takeCurve (cv : Nat → Int32) (fpn : Nat → Int32) (fvt : Nat → Int32) (p2 : Int32) (pts1 : Int32) (cv1 : Nat → Int32) : Prop := (∃ (r_1 : Int32), (a_X10_at_4 fpn p2 r_1) ∧ (∃ (y_6 : Int32) (g_7 : Nat → Int32), (0 ≤ y_6.toInt ∧ (y_6 ≤ r_1 ∨ y_6 = 0) ∧ a_tc fvt p2 y_6.toInt.toNat cv g_7) ∧ (r_1 ≤ y_6 ∧ (pts1 = r_1 ∧ cv1 = g_7))))
set_option maxRecDepth 100000 in
set_option maxHeartbeats 4000000 in
theorem r_X0_takeCurve (l : Launch) (D : va_G) (ct : Nat → ClassId) (S : ty_S) (ws : va_W) (ph : va_W → Prop) (xx : Nat → Nat → Nat → Prop) (cl : Nat) (cur : Nat) (pts : Int32) (nom : Int32) (ohm : Int32) (pol : Int32) (tau : Int32) (chg : Int32) (lft : Int32) (cap : Int32) (thr : Int32) (pz : Int32) (tmp : Int32) (het : Int32) (cun : Int32) (vol : Int32) (bk : Nat) (cv : Nat → Int32) (cu : Nat) (ccn : Int32) (nms : Nat) (pnt : Nat) (vts : Nat) (fpn : Nat → Int32) (fvt : Nat → Int32) (p2 : Int32) (sz : Nat) (hT : ty_V ct S ph ws) (hph : ty_C ph xx) (hy1 : ty_y1 xx) : Met l yX0_takeCurve (ws_ yX0_takeCurve cX0_takeCurve 4 none) ({ frames := 2, cells := 0, slots := 0, locals := 43 } : Room) (va_Pc [.ref cl, .ref cu, .int p2] (cmP D ct sz ([(fn_0 cl cur pts nom ohm pol tau chg lft cap thr pz tmp het cun vol bk), (rf_RW ct 0 cur 11 cv), (fn_2 cu ccn nms pnt vts), (rf_RW ct 0 pnt 4 fpn), (rf_RW ct 0 vts 44 fvt)] ++ ws))) (va_Qv (fun (u : va_W × Int32 × (Nat → Int32)) => match u with | (u9, pts1, cv1) => ty_V ct S ph u9 ∧ (a_X0_takeCurve cv fpn fvt p2 pts1 cv1)) (cmB D ([(fn_0 cl cur pts nom ohm pol tau chg lft cap thr pz tmp het cun vol bk), (rf_RW ct 0 cur 11 cv), (fn_2 cu ccn nms pnt vts), (rf_RW ct 0 pnt 4 fpn), (rf_RW ct 0 vts 44 fvt)] ++ ws) sz (fun (u : va_W × Int32 × (Nat → Int32)) => match u with | (u9, pts1, cv1) => ([(fn_0 cl cur pts1 nom ohm pol tau chg lft cap thr pz tmp het cun vol bk), (rf_RW ct 0 cur 11 cv1), (fn_2 cu ccn nms pnt vts), (rf_RW ct 0 pnt 4 fpn), (rf_RW ct 0 vts 44 fvt)] ++ u9))) (va_A ([(fn_0 cl cur pts nom ohm pol tau chg lft cap thr pz tmp het cun vol bk), (rf_RW ct 0 cur 11 cv), (fn_2 cu ccn nms pnt vts), (rf_RW ct 0 pnt 4 fpn), (rf_RW ct 0 vts 44 fvt)] ++ ws) sz)) 0 0 (va_A ([(fn_0 cl cur pts nom ohm pol tau chg lft cap thr pz tmp het cun vol bk), (rf_RW ct 0 cur 11 cv), (fn_2 cu ccn nms pnt vts), (rf_RW ct 0 pnt 4 fpn), (rf_RW ct 0 vts 44 fvt)] ++ ws) sz) := by
  refine Met.ofW (cc := cX0_takeCurve) (maxL := 4) (ret := none) (by decide) rfl ?_
  intro p e s m args below meth c s₁ B hml hv
  obtain ⟨rfl, hsz, hP, hK, hD0, hX⟩ := hv
  have hx := B.exec
  have hb := B.bytes
  have hr := B.returns
  have hts := ws_all (atoms_spec (ws := ws_ yX0_takeCurve cX0_takeCurve 4 none) B.pre)
  have hown : s.vm.findClass RX0 = some m.cls := findClass_of_methodNamed B.named
  have hlocks := B.notSynchronized
  subst hsz
  have hD := hD0.self (sz := s.heap.size)
  generalize hAe : va_A ([(fn_0 cl cur pts nom ohm pol tau chg lft cap thr pz tmp het cun vol bk), (rf_RW ct 0 cur 11 cv), (fn_2 cu ccn nms pnt vts), (rf_RW ct 0 pnt 4 fpn), (rf_RW ct 0 vts 44 fvt)] ++ ws) s.heap.size = A at hD hX ⊢
  have hA : ∀ q : Nat, s.heap.size ≤ q → A q := fun q h => by rw [← hAe]; exact Or.inr h
  have hS : va_S A s.heap s.heap [] := va_S.rf
  have hl := lv_entry ([.ref cl, .ref cu, .int p2]) (n := 4) (Nat.le_of_ble_eq_true rfl)
  rw [lg_entry_eq]
  generalize (lg_sl ([.ref cl, .ref cu, .int p2]) ++ List.replicate (4 - (lg_sl ([.ref cl, .ref cu, .int p2])).length) Slot.unset).toArray = ls at hl ⊢
  have hl : lv_has ls 4 [(0, .ref cl), (1, .ref cu), (2, .int p2)] := hl
  refine lv_aload_n hx hb dX0_takeCurve_0 rfl (lv_at hl 0 rfl) ?_
  refine lv_aload_n hx hb dX0_takeCurve_1 rfl (lv_at hl 1 rfl) ?_
  refine va_getN (v := .ref pnt) (D := D) (ci := 2) (C := RX2) (T := TX2) (N := 4) hx hb hts in_X2 hown hK hP 2 rfl rfl 2 (by decide) (hts _ kl_RX0_22) (fun _ h9 => h9) rfl dX0_takeCurve_2 ?_
  refine lv_iload_n hx hb dX0_takeCurve_5 rfl (lv_at hl 2 rfl) ?_
  obtain ⟨hP, hD⟩ := ty_opPD (E1 := [(fn_0 cl cur pts nom ohm pol tau chg lft cap thr pz tmp het cun vol bk), (rf_RW ct 0 cur 11 cv), (fn_2 cu ccn nms pnt vts), (rf_RW ct 0 vts 44 fvt)]) (E2 := [(rf_RW ct 0 pnt 4 fpn)]) (n := 5) [0, 1, 2, 4, 3] hP hD rfl rfl (by decide +kernel) ty_mv2
  refine ty_Ki hP hD hS hA (va_runSN (As := [.ref pnt, .int p2]) (rest := [.ref cl]) ⟨hx, hb, hml, hown, hts⟩ (r_X10_at_4 l D ct (fun _ => none) [] (fun _ => True) (fun _ _ _ => True) pnt fpn p2 _ ty_V0 ty_C0 ty_y10) (cm_SN 2 hts kc_X10_at ki_RX10 kl_RX0_27 ks_X10_at kd_X10_at ⟨Nat.le_of_ble_eq_true rfl, Nat.le_of_ble_eq_true rfl⟩) (ty_preS hP hK hD hS hA hX) rfl rfl hl.1 rfl (lv_room (Nat.le_of_ble_eq_true rfl)) dX0_takeCurve_6 ⟨Nat.le_of_ble_eq_true rfl, Nat.le_of_ble_eq_true rfl⟩) (fun r_1 u H locs hw_2 hP hD hS => ?_)
  obtain ⟨ws_3, rfl⟩ : ∃ z, z = u := ⟨_, rfl⟩
  obtain ⟨hT9_4, hp_5⟩ := hw_2
  have hp_5 : (a_X10_at_4 fpn p2 r_1) := hp_5
  obtain ⟨hP, hD⟩ := ty_bkPD (E := [(fn_0 cl cur pts nom ohm pol tau chg lft cap thr pz tmp het cun vol bk), (rf_RW ct 0 cur 11 cv), (fn_2 cu ccn nms pnt vts), (rf_RW ct 0 vts 44 fvt), (rf_RW ct 0 pnt 4 fpn)]) hP hD rfl
  refine va_put (v := .int r_1) (ty := .int) (D := D) (ci := 0) (C := RX0) (T := TX0) (N := 16) hx hb hts in_X0 tyX0 tyX0_ok nmX0 hown hK hP hD hS 0 rfl rfl 1 (by decide) (hts _ kl_RX0_31) (fun _ h9 => h9) rfl (by decide +kernel) rfl rfl (Nat.le_of_ble_eq_true rfl) dX0_takeCurve_9 (fun H locs hP hD hS => ?_)
  have hP : va_P D vwCl ([(fn_0 cl cur r_1 nom ohm pol tau chg lft cap thr pz tmp het cun vol bk), (rf_RW ct 0 cur 11 cv), (fn_2 cu ccn nms pnt vts), (rf_RW ct 0 vts 44 fvt), (rf_RW ct 0 pnt 4 fpn)] ++ ws) H := hP
  have hD : va_D A ([(fn_0 cl cur r_1 nom ohm pol tau chg lft cap thr pz tmp het cun vol bk), (rf_RW ct 0 cur 11 cv), (fn_2 cu ccn nms pnt vts), (rf_RW ct 0 vts 44 fvt), (rf_RW ct 0 pnt 4 fpn)] ++ ws) := hD
  refine lv_iconst (v := 0) hx hb dX0_takeCurve_12 (by decide) ?_
  refine lv_istore_n (lv' := [(3, .int 0), (0, .ref cl), (1, .ref cu), (2, .int p2)]) hx hb dX0_takeCurve_13 rfl hl (by decide) rfl (fun ls hl => ?_)
  refine ty_loop (I := fun μ H locs ls => ∃ (ws : va_W) (y_6 : Int32) (g_7 : Nat → Int32), μ = (2147483648 - y_6.toInt).toNat ∧ ty_V ct S ph ws ∧ va_P D vwCl ([(fn_0 cl cur r_1 nom ohm pol tau chg lft cap thr pz tmp het cun vol bk), (rf_RW ct 0 cur 11 g_7), (fn_2 cu ccn nms pnt vts), (rf_RW ct 0 vts 44 fvt), (rf_RW ct 0 pnt 4 fpn)] ++ ws) H ∧ va_D A ([(fn_0 cl cur r_1 nom ohm pol tau chg lft cap thr pz tmp het cun vol bk), (rf_RW ct 0 cur 11 g_7), (fn_2 cu ccn nms pnt vts), (rf_RW ct 0 vts 44 fvt), (rf_RW ct 0 pnt 4 fpn)] ++ ws) ∧ va_S A s.heap H locs ∧ lv_has ls 4 [(0, .ref cl), (1, .ref cu), (2, .int p2), (3, .int y_6)] ∧ 0 ≤ y_6.toInt ∧ (y_6 ≤ r_1 ∨ y_6 = 0) ∧ a_tc fvt p2 y_6.toInt.toNat cv g_7) ⟨_, ws, (0 : Int32), cv, rfl, hT, hP, hD, hS, (lv_sub hl [1, 2, 3, 0] rfl), ⟨by decide, Or.inr rfl, a_tc0⟩⟩ (fun μ H locs ls hI ih_14 => ?_)
  obtain ⟨ws, y_6, g_7, rfl, hT, hP, hD, hS, hl, hex_14⟩ := hI
  refine lv_iload_n hx hb dX0_takeCurve_14 rfl (lv_at hl 3 rfl) ?_
  refine lv_aload_n hx hb dX0_takeCurve_15 rfl (lv_at hl 0 rfl) ?_
  refine va_get (v := .int r_1) (D := D) (ci := 0) (C := RX0) (T := TX0) (N := 16) hx hb hts in_X0 hown hK hP 0 rfl rfl 1 (by decide) (hts _ kl_RX0_31) (fun _ h9 => h9) rfl dX0_takeCurve_16 ?_
  refine lv_icmp_ge (tgt := 42) hx hb dX0_takeCurve_19 (by decide) (fun hc_8 => ?_) (fun hc_8 => ?_)
  · obtain ⟨hP, hD⟩ := ty_ordPD (E2 := [(fn_0 cl cur r_1 nom ohm pol tau chg lft cap thr pz tmp het cun vol bk), (rf_RW ct 0 cur 11 g_7), (fn_2 cu ccn nms pnt vts), (rf_RW ct 0 pnt 4 fpn), (rf_RW ct 0 vts 44 fvt)]) (n := 5) [0, 1, 2, 4, 3] hP hD rfl rfl (by decide +kernel)
    exact W.vret hx hb hr (fun t ht hW => ⟨⟨(ws, r_1, g_7), rfl, ⟨hT, ⟨r_1, hp_5, ⟨y_6, g_7, hex_14, ⟨hc_8, ⟨rfl, rfl⟩⟩⟩⟩⟩, by rw [ht]; exact hP, by rw [hAe]; exact hD⟩, hS.F ht⟩) hS.2.2 dX0_takeCurve_42
  · refine lv_aload_n hx hb dX0_takeCurve_22 rfl (lv_at hl 0 rfl) ?_
    refine va_get (v := .ref cur) (D := D) (ci := 0) (C := RX0) (T := TX0) (N := 16) hx hb hts in_X0 hown hK hP 0 rfl rfl 0 (by decide) (hts _ kl_RX0_9) (fun _ h9 => h9) rfl dX0_takeCurve_23 ?_
    refine lv_iload_n hx hb dX0_takeCurve_26 rfl (lv_at hl 3 rfl) ?_
    refine lv_aload_n hx hb dX0_takeCurve_27 rfl (lv_at hl 1 rfl) ?_
    refine lv_iload_n hx hb dX0_takeCurve_28 rfl (lv_at hl 2 rfl) ?_
    refine lv_iload_n hx hb dX0_takeCurve_29 rfl (lv_at hl 3 rfl) ?_
    obtain ⟨hP, hD⟩ := ty_opPD (E1 := [(fn_0 cl cur r_1 nom ohm pol tau chg lft cap thr pz tmp het cun vol bk), (rf_RW ct 0 cur 11 g_7), (rf_RW ct 0 pnt 4 fpn)]) (E2 := [(fn_2 cu ccn nms pnt vts), (rf_RW ct 0 vts 44 fvt)]) (n := 5) [0, 1, 4, 2, 3] hP hD rfl rfl (by decide +kernel) ty_mv2
    refine ty_Ki hP hD hS hA (va_runVN (As := [.int p2, .int y_6]) (rest := [.int y_6, .ref cur]) ⟨hx, hb, hml, hown, hts⟩ (r_X2_voltageOf l D ct (fun _ => none) [] (fun _ => True) (fun _ _ _ => True) cu ccn nms pnt vts fvt p2 y_6 _ ty_V0 ty_C0 ty_y10) (cm_VN 2 hts kc_X2_voltageOf ki_RX2 kl_RX0_34 kv_X2_voltageOf kx_X2_voltageOf kd_X2_voltageOf ⟨Nat.le_of_ble_eq_true rfl, Nat.le_of_ble_eq_true rfl⟩) (ty_preE (ci := 2) hP hK hD hS hA hX rfl (ty_app (j := 0) rfl)) rfl rfl hl.1 rfl (lv_room (Nat.le_of_ble_eq_true rfl)) dX0_takeCurve_30 ⟨Nat.le_of_ble_eq_true rfl, Nat.le_of_ble_eq_true rfl⟩) (fun r_9 u H locs hw_10 hP hD hS => ?_)
    obtain ⟨ws_11, rfl⟩ : ∃ z, z = u := ⟨_, rfl⟩
    obtain ⟨hT9_12, hp_13⟩ := hw_10
    have hp_13 : (a_X2_voltageOf fvt p2 y_6 r_9) := hp_13
    obtain ⟨hP, hD⟩ := ty_bkPD (E := [(fn_0 cl cur r_1 nom ohm pol tau chg lft cap thr pz tmp het cun vol bk), (rf_RW ct 0 cur 11 g_7), (rf_RW ct 0 pnt 4 fpn), (fn_2 cu ccn nms pnt vts), (rf_RW ct 0 vts 44 fvt)]) hP hD rfl
    obtain ⟨hP, hD⟩ := ty_opPD (E1 := [(fn_0 cl cur r_1 nom ohm pol tau chg lft cap thr pz tmp het cun vol bk), (rf_RW ct 0 pnt 4 fpn), (fn_2 cu ccn nms pnt vts), (rf_RW ct 0 vts 44 fvt)]) (E2 := [(rf_RW ct 0 cur 11 g_7)]) (n := 5) [0, 2, 3, 4, 1] hP hD rfl rfl (by decide +kernel) ty_mv2
    refine ty_Kv hP hD hS hA (va_runSN (As := [.ref cur, .int y_6, .int r_9]) (rest := []) ⟨hx, hb, hml, hown, hts⟩ (r_X10_put_11 l D ct (fun _ => none) [] (fun _ => True) (fun _ _ _ => True) cur g_7 y_6 r_9 _ ty_V0 ty_C0 ty_y10) (cm_SN 3 hts kc_X10_put ki_RX10 kl_RX0_38 ks_X10_put kd_X10_put ⟨Nat.le_of_ble_eq_true rfl, Nat.le_of_ble_eq_true rfl⟩) (ty_preS hP hK hD hS hA hX) rfl rfl hl.1 rfl (lv_room (Nat.le_of_ble_eq_true rfl)) dX0_takeCurve_33 ⟨Nat.le_of_ble_eq_true rfl, Nat.le_of_ble_eq_true rfl⟩) (fun u H locs hw_15 hP hD hS => ?_)
    obtain ⟨ws_16, b1_17⟩ := u
    obtain ⟨hT9_18, hp_19⟩ := hw_15
    have hp_19 : (a_X10_put_11 g_7 y_6 r_9 b1_17) := hp_19
    obtain ⟨hP, hD⟩ := ty_bkPD (E := [(fn_0 cl cur r_1 nom ohm pol tau chg lft cap thr pz tmp het cun vol bk), (rf_RW ct 0 pnt 4 fpn), (fn_2 cu ccn nms pnt vts), (rf_RW ct 0 vts 44 fvt), (rf_RW ct 0 cur 11 b1_17)]) hP hD rfl
    refine lv_iinc (v := (y_6 + Int32.ofInt 1)) (lv' := [(3, .int (y_6 + Int32.ofInt 1)), (0, .ref cl), (1, .ref cu), (2, .int p2)]) hx hb dX0_takeCurve_36 hl (k := 3) rfl rfl (by decide) rfl (fun ls hl => ?_)
    refine lv_goto (tgt := 14) hx hb dX0_takeCurve_39 (by decide) ?_
    obtain ⟨hP, hD⟩ := ty_ordPD (E2 := [(fn_0 cl cur r_1 nom ohm pol tau chg lft cap thr pz tmp het cun vol bk), (rf_RW ct 0 cur 11 b1_17), (fn_2 cu ccn nms pnt vts), (rf_RW ct 0 vts 44 fvt), (rf_RW ct 0 pnt 4 fpn)]) (n := 5) [0, 4, 2, 3, 1] hP hD rfl rfl (by decide +kernel)
    exact ih_14 _ _ _ _ (ty_inc (cm_lt hc_8)) ⟨ws, (y_6 + Int32.ofInt 1), b1_17, rfl, hT, hP, hD, hS, (lv_sub hl [1, 2, 3, 0] rfl), ⟨(fw_incN0 hex_14.1 hc_8), Or.inl (a_tc2 hex_14.1 hc_8), (a_tc1 hex_14.1 hc_8 hex_14.2.2 hp_13 hp_19)⟩⟩
theorem fw_tcE {cv fpn fvt cv1 : Nat → Int32} {p2 pts1 : Int32} (h : a_X0_takeCurve cv fpn fvt p2 pts1 cv1) : pts1 = fw_at 4 fpn p2 ∧ cv1 = fw_tc fvt p2 (fw_at 4 fpn p2) cv := by
  obtain ⟨r, hr, y, g, ⟨h0, h1, h2⟩, h3, e1, e2⟩ := h
  have q : r = fw_at 4 fpn p2 := fw_atE (k := 4) (by decide) hr
  subst q
  refine ⟨e1, ?_⟩
  rw [e2]
  funext j
  rw [h2 j]
  have e : y.toInt.toNat = (fw_at 4 fpn p2).toInt.toNat := by
    rw [Int32.le_iff_toInt_le] at h3
    rcases h1 with h1 | h1
    · rw [Int32.le_iff_toInt_le] at h1; omega
    · rw [h1] at h3 ⊢
      rw [show (0 : Int32).toInt = 0 from by decide] at h3 ⊢
      omega
  rw [e]
  rfl
