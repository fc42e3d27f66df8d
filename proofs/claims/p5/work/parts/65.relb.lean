def a_X5_secondOf (fscs : Nat → Int32) (p1 : Int32) (p2 : Int32) (r : Int32) : Prop := (∃ (r_1 : Int32), (a_X10_at_48 fscs ((p1 * 12) + p2) r_1) ∧ (r = r_1))
set_option maxRecDepth 100000 in
set_option maxHeartbeats 4000000 in
theorem r_X5_secondOf (l : Launch) (D : va_G) (ct : Nat → ClassId) (S : ty_S) (ws : va_W) (ph : va_W → Prop) (xx : Nat → Nat → Nat → Prop) (pr : Nat) (pcn : Int32) (sps : Nat) (kds : Nat) (fst : Nat) (scs : Nat) (fscs : Nat → Int32) (p1 : Int32) (p2 : Int32) (sz : Nat) (hT : ty_V ct S ph ws) (hph : ty_C ph xx) (hy1 : ty_y1 xx) : Met l yX5_secondOf (ws_ yX5_secondOf cX5_secondOf 3 (some .int)) ({ frames := 1, cells := 0, slots := 0, locals := 21 } : Room) (va_Pc [.ref pr, .int p1, .int p2] (cmP D ct sz ([(fn_5 pr pcn sps kds fst scs), (rf_RW ct 0 scs 48 fscs)] ++ ws))) (va_Qi (fun (r : Int32) (u9 : va_W) => ty_V ct S ph u9 ∧ (a_X5_secondOf fscs p1 p2 r)) (cmB D ([(fn_5 pr pcn sps kds fst scs), (rf_RW ct 0 scs 48 fscs)] ++ ws) sz (fun (u9 : va_W) => ([(fn_5 pr pcn sps kds fst scs), (rf_RW ct 0 scs 48 fscs)] ++ u9))) (va_A ([(fn_5 pr pcn sps kds fst scs), (rf_RW ct 0 scs 48 fscs)] ++ ws) sz)) 0 0 (va_A ([(fn_5 pr pcn sps kds fst scs), (rf_RW ct 0 scs 48 fscs)] ++ ws) sz) := by
  refine Met.ofW (cc := cX5_secondOf) (maxL := 3) (ret := (some .int)) (by decide) rfl ?_
  intro p e s m args below meth c s₁ B hml hv
  obtain ⟨rfl, hsz, hP, hK, hD0, hX⟩ := hv
  have hx := B.exec
  have hb := B.bytes
  have hr := B.returns
  have hts := ws_all (atoms_spec (ws := ws_ yX5_secondOf cX5_secondOf 3 (some .int)) B.pre)
  have hown : s.vm.findClass RX5 = some m.cls := findClass_of_methodNamed B.named
  have hlocks := B.notSynchronized
  subst hsz
  have hD := hD0.self (sz := s.heap.size)
  generalize hAe : va_A ([(fn_5 pr pcn sps kds fst scs), (rf_RW ct 0 scs 48 fscs)] ++ ws) s.heap.size = A at hD hX ⊢
  have hA : ∀ q : Nat, s.heap.size ≤ q → A q := fun q h => by rw [← hAe]; exact Or.inr h
  have hS : va_S A s.heap s.heap [] := va_S.rf
  have hl := lv_entry ([.ref pr, .int p1, .int p2]) (n := 3) (Nat.le_of_ble_eq_true rfl)
  rw [lg_entry_eq]
  generalize (lg_sl ([.ref pr, .int p1, .int p2]) ++ List.replicate (3 - (lg_sl ([.ref pr, .int p1, .int p2])).length) Slot.unset).toArray = ls at hl ⊢
  have hl : lv_has ls 3 [(0, .ref pr), (1, .int p1), (2, .int p2)] := hl
  refine lv_aload_n hx hb dX5_secondOf_0 rfl (lv_at hl 0 rfl) ?_
  refine va_get (v := .ref scs) (D := D) (ci := 5) (C := RX5) (T := TX5) (N := 5) hx hb hts in_X5 hown hK hP 0 rfl rfl 4 (by decide) (hts _ kl_RX5_21) (fun _ h9 => h9) rfl dX5_secondOf_1 ?_
  refine lv_iload_n hx hb dX5_secondOf_4 rfl (lv_at hl 1 rfl) ?_
  refine lv_bipush (v := 12) hx hb dX5_secondOf_5 (by decide) ?_
  refine lv_imul hx hb dX5_secondOf_7 ?_
  refine lv_iload_n hx hb dX5_secondOf_8 rfl (lv_at hl 2 rfl) ?_
  refine lv_iadd hx hb dX5_secondOf_9 ?_
  obtain ⟨hP, hD⟩ := ty_ipPD (E1 := [(fn_5 pr pcn sps kds fst scs)]) (E2 := [(rf_RW ct 0 scs 48 fscs)]) hP hD rfl ty_mv2
  refine ty_Ki hP hD hS hA (va_runSN (As := [.ref scs, .int ((p1 * 12) + p2)]) (rest := []) ⟨hx, hb, hml, hown, hts⟩ (r_X10_at_48 l D ct (fun _ => none) [] (fun _ => True) (fun _ _ _ => True) scs fscs ((p1 * 12) + p2) _ ty_V0 ty_C0 ty_y10) (cm_SN 2 hts kc_X10_at ki_RX10 kl_RX5_32 ks_X10_at kd_X10_at ⟨Nat.le_of_ble_eq_true rfl, Nat.le_of_ble_eq_true rfl⟩) (ty_preS hP hK hD hS hA hX) rfl rfl hl.1 rfl (lv_room (Nat.le_of_ble_eq_true rfl)) dX5_secondOf_10 ⟨Nat.le_of_ble_eq_true rfl, Nat.le_of_ble_eq_true rfl⟩) (fun r_1 u H locs hw_2 hP hD hS => ?_)
  obtain ⟨ws_3, rfl⟩ : ∃ z, z = u := ⟨_, rfl⟩
  obtain ⟨hT9_4, hp_5⟩ := hw_2
  have hp_5 : (a_X10_at_48 fscs ((p1 * 12) + p2) r_1) := hp_5
  obtain ⟨hP, hD⟩ := ty_bkPD (E := [(fn_5 pr pcn sps kds fst scs), (rf_RW ct 0 scs 48 fscs)]) hP hD rfl
  exact W.iret (v := r_1) hx hb hr (fun t ht hW => ⟨⟨r_1, ws, rfl, ⟨hT, ⟨r_1, hp_5, rfl⟩⟩, by rw [ht]; exact hP, by rw [hAe]; exact hD⟩, hS.F ht⟩) hS.2.2 dX5_secondOf_13
def a_X8_addRow (tlim : Int32) (told : Int32) (tsiz : Int32) (told1 : Int32) (tsiz1 : Int32) : Prop := ((tlim ≤ tsiz ∧ ((tlim ≤ (told + 1) ∧ (told1 = 0 ∧ tsiz1 = tsiz)) ∨ (¬ tlim ≤ (told + 1) ∧ (told1 = (told + 1) ∧ tsiz1 = tsiz)))) ∨ (¬ tlim ≤ tsiz ∧ (told1 = told ∧ tsiz1 = (tsiz + 1))))
set_option maxRecDepth 100000 in
set_option maxHeartbeats 4000000 in
theorem r_X8_addRow (l : Launch) (D : va_G) (ct : Nat → ClassId) (S : ty_S) (ws : va_W) (ph : va_W → Prop) (xx : Nat → Nat → Nat → Prop) (h0 : Nat) (tlim : Int32) (twid : Int32) (tnu : Nat) (told : Int32) (tsiz : Int32) (sz : Nat) (hT : ty_V ct S ph ws) (hph : ty_C ph xx) (hy1 : ty_y1 xx) : Met l yX8_addRow (ws_ yX8_addRow cX8_addRow 1 none) ({ frames := 0, cells := 0, slots := 0, locals := 0 } : Room) (va_Pc [.ref h0] (cmP D ct sz ([(fn_8 h0 tlim twid tnu told tsiz)] ++ ws))) (va_Qv (fun (u : va_W × Int32 × Int32) => match u with | (u9, told1, tsiz1) => ty_V ct S ph u9 ∧ (a_X8_addRow tlim told tsiz told1 tsiz1)) (cmB D ([(fn_8 h0 tlim twid tnu told tsiz)] ++ ws) sz (fun (u : va_W × Int32 × Int32) => match u with | (u9, told1, tsiz1) => ([(fn_8 h0 tlim twid tnu told1 tsiz1)] ++ u9))) (va_A ([(fn_8 h0 tlim twid tnu told tsiz)] ++ ws) sz)) 0 0 (va_A ([(fn_8 h0 tlim twid tnu told tsiz)] ++ ws) sz) := by
  refine Met.ofW (cc := cX8_addRow) (maxL := 1) (ret := none) (by decide) rfl ?_
  intro p e s m args below meth c s₁ B hml hv
  obtain ⟨rfl, hsz, hP, hK, hD0, hX⟩ := hv
  have hx := B.exec
  have hb := B.bytes
  have hr := B.returns
  have hts := ws_all (atoms_spec (ws := ws_ yX8_addRow cX8_addRow 1 none) B.pre)
  have hown : s.vm.findClass RX8 = some m.cls := findClass_of_methodNamed B.named
  have hlocks := B.notSynchronized
  subst hsz
  have hD := hD0.self (sz := s.heap.size)
  generalize hAe : va_A ([(fn_8 h0 tlim twid tnu told tsiz)] ++ ws) s.heap.size = A at hD hX ⊢
  have hA : ∀ q : Nat, s.heap.size ≤ q → A q := fun q h => by rw [← hAe]; exact Or.inr h
  have hS : va_S A s.heap s.heap [] := va_S.rf
  have hl := lv_entry ([.ref h0]) (n := 1) (Nat.le_of_ble_eq_true rfl)
  rw [lg_entry_eq]
  generalize (lg_sl ([.ref h0]) ++ List.replicate (1 - (lg_sl ([.ref h0])).length) Slot.unset).toArray = ls at hl ⊢
  have hl : lv_has ls 1 [(0, .ref h0)] := hl
  refine lv_aload_n hx hb dX8_addRow_0 rfl (lv_at hl 0 rfl) ?_
  refine va_get (v := .int tsiz) (D := D) (ci := 8) (C := RX8) (T := TX8) (N := 5) hx hb hts in_X8 hown hK hP 0 rfl rfl 4 (by decide) (hts _ kl_RX8_29) (fun _ h9 => h9) rfl dX8_addRow_1 ?_
  refine lv_aload_n hx hb dX8_addRow_4 rfl (lv_at hl 0 rfl) ?_
  refine va_get (v := .int tlim) (D := D) (ci := 8) (C := RX8) (T := TX8) (N := 5) hx hb hts in_X8 hown hK hP 0 rfl rfl 0 (by decide) (hts _ kl_RX8_13) (fun _ h9 => h9) rfl dX8_addRow_5 ?_
  refine lv_icmp_ge (tgt := 24) hx hb dX8_addRow_8 (by decide) (fun hc_1 => ?_) (fun hc_1 => ?_)
  · refine lv_aload_n hx hb dX8_addRow_24 rfl (lv_at hl 0 rfl) ?_
    refine lv_aload_n hx hb dX8_addRow_25 rfl (lv_at hl 0 rfl) ?_
    refine va_get (v := .int told) (D := D) (ci := 8) (C := RX8) (T := TX8) (N := 5) hx hb hts in_X8 hown hK hP 0 rfl rfl 3 (by decide) (hts _ kl_RX8_26) (fun _ h9 => h9) rfl dX8_addRow_26 ?_
    refine lv_iconst (v := 1) hx hb dX8_addRow_29 (by decide) ?_
    refine lv_iadd hx hb dX8_addRow_30 ?_
    refine lv_aload_n hx hb dX8_addRow_31 rfl (lv_at hl 0 rfl) ?_
    refine va_get (v := .int tlim) (D := D) (ci := 8) (C := RX8) (T := TX8) (N := 5) hx hb hts in_X8 hown hK hP 0 rfl rfl 0 (by decide) (hts _ kl_RX8_13) (fun _ h9 => h9) rfl dX8_addRow_32 ?_
    refine lv_icmp_ge (tgt := 47) hx hb dX8_addRow_35 (by decide) (fun hc_2 => ?_) (fun hc_2 => ?_)
    · refine lv_iconst (v := 0) hx hb dX8_addRow_47 (by decide) ?_
      refine va_put (v := .int 0) (ty := .int) (D := D) (ci := 8) (C := RX8) (T := TX8) (N := 5) hx hb hts in_X8 tyX8 tyX8_ok nmX8 hown hK hP hD hS 0 rfl rfl 3 (by decide) (hts _ kl_RX8_26) (fun _ h9 => h9) rfl (by decide +kernel) rfl rfl (Nat.le_of_ble_eq_true rfl) dX8_addRow_48 (fun H locs hP hD hS => ?_)
      have hP : va_P D vwCl ([(fn_8 h0 tlim twid tnu (0) tsiz)] ++ ws) H := hP
      have hD : va_D A ([(fn_8 h0 tlim twid tnu (0) tsiz)] ++ ws) := hD
      exact W.vret hx hb hr (fun t ht hW => ⟨⟨(ws, (0 : Int32), tsiz), rfl, ⟨hT, (Or.inl ⟨hc_1, (Or.inl ⟨hc_2, ⟨rfl, rfl⟩⟩)⟩)⟩, by rw [ht]; exact hP, by rw [hAe]; exact hD⟩, hS.F ht⟩) hS.2.2 dX8_addRow_51
    · refine lv_aload_n hx hb dX8_addRow_38 rfl (lv_at hl 0 rfl) ?_
      refine va_get (v := .int told) (D := D) (ci := 8) (C := RX8) (T := TX8) (N := 5) hx hb hts in_X8 hown hK hP 0 rfl rfl 3 (by decide) (hts _ kl_RX8_26) (fun _ h9 => h9) rfl dX8_addRow_39 ?_
      refine lv_iconst (v := 1) hx hb dX8_addRow_42 (by decide) ?_
      refine lv_iadd hx hb dX8_addRow_43 ?_
      refine lv_goto (tgt := 48) hx hb dX8_addRow_44 (by decide) ?_
      refine va_put (v := .int (told + 1)) (ty := .int) (D := D) (ci := 8) (C := RX8) (T := TX8) (N := 5) hx hb hts in_X8 tyX8 tyX8_ok nmX8 hown hK hP hD hS 0 rfl rfl 3 (by decide) (hts _ kl_RX8_26) (fun _ h9 => h9) rfl (by decide +kernel) rfl rfl (Nat.le_of_ble_eq_true rfl) dX8_addRow_48 (fun H locs hP hD hS => ?_)
      have hP : va_P D vwCl ([(fn_8 h0 tlim twid tnu (told + 1) tsiz)] ++ ws) H := hP
      have hD : va_D A ([(fn_8 h0 tlim twid tnu (told + 1) tsiz)] ++ ws) := hD
      exact W.vret hx hb hr (fun t ht hW => ⟨⟨(ws, (told + 1), tsiz), rfl, ⟨hT, (Or.inl ⟨hc_1, (Or.inr ⟨hc_2, ⟨rfl, rfl⟩⟩)⟩)⟩, by rw [ht]; exact hP, by rw [hAe]; exact hD⟩, hS.F ht⟩) hS.2.2 dX8_addRow_51
  · refine lv_aload_n hx hb dX8_addRow_11 rfl (lv_at hl 0 rfl) ?_
    refine lv_dup hx hb dX8_addRow_12 rfl ?_
    refine va_get (v := .int tsiz) (D := D) (ci := 8) (C := RX8) (T := TX8) (N := 5) hx hb hts in_X8 hown hK hP 0 rfl rfl 4 (by decide) (hts _ kl_RX8_29) (fun _ h9 => h9) rfl dX8_addRow_13 ?_
    refine lv_iconst (v := 1) hx hb dX8_addRow_16 (by decide) ?_
    refine lv_iadd hx hb dX8_addRow_17 ?_
    refine va_put (v := .int (tsiz + 1)) (ty := .int) (D := D) (ci := 8) (C := RX8) (T := TX8) (N := 5) hx hb hts in_X8 tyX8 tyX8_ok nmX8 hown hK hP hD hS 0 rfl rfl 4 (by decide) (hts _ kl_RX8_29) (fun _ h9 => h9) rfl (by decide +kernel) rfl rfl (Nat.le_of_ble_eq_true rfl) dX8_addRow_18 (fun H locs hP hD hS => ?_)
    have hP : va_P D vwCl ([(fn_8 h0 tlim twid tnu told (tsiz + 1))] ++ ws) H := hP
    have hD : va_D A ([(fn_8 h0 tlim twid tnu told (tsiz + 1))] ++ ws) := hD
    refine lv_goto (tgt := 51) hx hb dX8_addRow_21 (by decide) ?_
    exact W.vret hx hb hr (fun t ht hW => ⟨⟨(ws, told, (tsiz + 1)), rfl, ⟨hT, (Or.inr ⟨hc_1, ⟨rfl, rfl⟩⟩)⟩, by rw [ht]; exact hP, by rw [hAe]; exact hD⟩, hS.F ht⟩) hS.2.2 dX8_addRow_51
def a_X8_placeOf (tlim : Int32) (twid : Int32) (told : Int32) (p1 : Int32) (r : Int32) : Prop := ((tlim ≤ (told + p1) ∧ (r = (((told + p1) - tlim) * twid))) ∨ (¬ tlim ≤ (told + p1) ∧ (r = ((told + p1) * twid))))
set_option maxRecDepth 100000 in
set_option maxHeartbeats 4000000 in
theorem r_X8_placeOf (l : Launch) (D : va_G) (ct : Nat → ClassId) (S : ty_S) (ws : va_W) (ph : va_W → Prop) (xx : Nat → Nat → Nat → Prop) (h0 : Nat) (tlim : Int32) (twid : Int32) (tnu : Nat) (told : Int32) (tsiz : Int32) (p1 : Int32) (sz : Nat) (hT : ty_V ct S ph ws) (hph : ty_C ph xx) (hy1 : ty_y1 xx) : Met l yX8_placeOf (ws_ yX8_placeOf cX8_placeOf 3 (some .int)) ({ frames := 0, cells := 0, slots := 0, locals := 0 } : Room) (va_Pc [.ref h0, .int p1] (cmP D ct sz ([(fn_8 h0 tlim twid tnu told tsiz)] ++ ws))) (va_Qi (fun (r : Int32) (u9 : va_W) => ty_V ct S ph u9 ∧ (a_X8_placeOf tlim twid told p1 r)) (cmB D ([(fn_8 h0 tlim twid tnu told tsiz)] ++ ws) sz (fun (u9 : va_W) => ([(fn_8 h0 tlim twid tnu told tsiz)] ++ u9))) (va_A ([(fn_8 h0 tlim twid tnu told tsiz)] ++ ws) sz)) 0 0 (va_A ([(fn_8 h0 tlim twid tnu told tsiz)] ++ ws) sz) := by
  refine Met.ofW (cc := cX8_placeOf) (maxL := 3) (ret := (some .int)) (by decide) rfl ?_
  intro p e s m args below meth c s₁ B hml hv
  obtain ⟨rfl, hsz, hP, hK, hD0, hX⟩ := hv
  have hx := B.exec
  have hb := B.bytes
  have hr := B.returns
  have hts := ws_all (atoms_spec (ws := ws_ yX8_placeOf cX8_placeOf 3 (some .int)) B.pre)
  have hown : s.vm.findClass RX8 = some m.cls := findClass_of_methodNamed B.named
  have hlocks := B.notSynchronized
  subst hsz
  have hD := hD0.self (sz := s.heap.size)
  generalize hAe : va_A ([(fn_8 h0 tlim twid tnu told tsiz)] ++ ws) s.heap.size = A at hD hX ⊢
  have hA : ∀ q : Nat, s.heap.size ≤ q → A q := fun q h => by rw [← hAe]; exact Or.inr h
  have hS : va_S A s.heap s.heap [] := va_S.rf
  have hl := lv_entry ([.ref h0, .int p1]) (n := 3) (Nat.le_of_ble_eq_true rfl)
  rw [lg_entry_eq]
  generalize (lg_sl ([.ref h0, .int p1]) ++ List.replicate (3 - (lg_sl ([.ref h0, .int p1])).length) Slot.unset).toArray = ls at hl ⊢
  have hl : lv_has ls 3 [(0, .ref h0), (1, .int p1)] := hl
  refine lv_aload_n hx hb dX8_placeOf_0 rfl (lv_at hl 0 rfl) ?_
  refine va_get (v := .int told) (D := D) (ci := 8) (C := RX8) (T := TX8) (N := 5) hx hb hts in_X8 hown hK hP 0 rfl rfl 3 (by decide) (hts _ kl_RX8_26) (fun _ h9 => h9) rfl dX8_placeOf_1 ?_
  refine lv_iload_n hx hb dX8_placeOf_4 rfl (lv_at hl 1 rfl) ?_
  refine lv_iadd hx hb dX8_placeOf_5 ?_
  refine lv_istore_n (lv' := [(2, .int (told + p1)), (0, .ref h0), (1, .int p1)]) hx hb dX8_placeOf_6 rfl hl (by decide) rfl (fun ls hl => ?_)
  refine lv_iload_n hx hb dX8_placeOf_7 rfl (lv_at hl 0 rfl) ?_
  refine lv_aload_n hx hb dX8_placeOf_8 rfl (lv_at hl 1 rfl) ?_
  refine va_get (v := .int tlim) (D := D) (ci := 8) (C := RX8) (T := TX8) (N := 5) hx hb hts in_X8 hown hK hP 0 rfl rfl 0 (by decide) (hts _ kl_RX8_13) (fun _ h9 => h9) rfl dX8_placeOf_9 ?_
  refine lv_icmp_ge (tgt := 19) hx hb dX8_placeOf_12 (by decide) (fun hc_1 => ?_) (fun hc_1 => ?_)
  · refine lv_iload_n hx hb dX8_placeOf_19 rfl (lv_at hl 0 rfl) ?_
    refine lv_aload_n hx hb dX8_placeOf_20 rfl (lv_at hl 1 rfl) ?_
    refine va_get (v := .int tlim) (D := D) (ci := 8) (C := RX8) (T := TX8) (N := 5) hx hb hts in_X8 hown hK hP 0 rfl rfl 0 (by decide) (hts _ kl_RX8_13) (fun _ h9 => h9) rfl dX8_placeOf_21 ?_
    refine lv_isub hx hb dX8_placeOf_24 ?_
    refine lv_aload_n hx hb dX8_placeOf_25 rfl (lv_at hl 1 rfl) ?_
    refine va_get (v := .int twid) (D := D) (ci := 8) (C := RX8) (T := TX8) (N := 5) hx hb hts in_X8 hown hK hP 0 rfl rfl 1 (by decide) (hts _ kl_RX8_19) (fun _ h9 => h9) rfl dX8_placeOf_26 ?_
    refine lv_imul hx hb dX8_placeOf_29 ?_
    exact W.iret (v := (((told + p1) - tlim) * twid)) hx hb hr (fun t ht hW => ⟨⟨(((told + p1) - tlim) * twid), ws, rfl, ⟨hT, (Or.inl ⟨hc_1, rfl⟩)⟩, by rw [ht]; exact hP, by rw [hAe]; exact hD⟩, hS.F ht⟩) hS.2.2 dX8_placeOf_30
  · refine lv_iload_n hx hb dX8_placeOf_15 rfl (lv_at hl 0 rfl) ?_
    refine lv_goto (tgt := 25) hx hb dX8_placeOf_16 (by decide) ?_
    refine lv_aload_n hx hb dX8_placeOf_25 rfl (lv_at hl 1 rfl) ?_
    refine va_get (v := .int twid) (D := D) (ci := 8) (C := RX8) (T := TX8) (N := 5) hx hb hts in_X8 hown hK hP 0 rfl rfl 1 (by decide) (hts _ kl_RX8_19) (fun _ h9 => h9) rfl dX8_placeOf_26 ?_
    refine lv_imul hx hb dX8_placeOf_29 ?_
    exact W.iret (v := ((told + p1) * twid)) hx hb hr (fun t ht hW => ⟨⟨((told + p1) * twid), ws, rfl, ⟨hT, (Or.inr ⟨hc_1, rfl⟩)⟩, by rw [ht]; exact hP, by rw [hAe]; exact hD⟩, hS.F ht⟩) hS.2.2 dX8_placeOf_30
def a_X9_note (tim : Int32) (llim : Int32) (lwid : Int32) (lold : Int32) (lsiz : Int32) (fln : Nat → Int32) (p1 : Int32) (p2 : Int32) (p3 : Int32) : Prop := (∃ (told1_4 : Int32) (tsiz1_5 : Int32), (a_X8_addRow llim lold lsiz told1_4 tsiz1_5) ∧ (∃ (r_8 : Int32), (a_X8_placeOf llim lwid told1_4 (tsiz1_5 - 1) r_8) ∧ (∃ (b1_16 : Nat → Int32), (a_X10_put_240 fln (r_8 + 0) tim b1_16) ∧ (∃ (b1_22 : Nat → Int32), (a_X10_put_240 b1_16 (r_8 + 1) p1 b1_22) ∧ (∃ (b1_28 : Nat → Int32), (a_X10_put_240 b1_22 (r_8 + 2) p2 b1_28) ∧ (∃ (b1_34 : Nat → Int32), (a_X10_put_240 b1_28 (r_8 + 3) p3 b1_34) ∧ True))))))
set_option maxRecDepth 100000 in
set_option maxHeartbeats 4000000 in
theorem r_X9_note (l : Launch) (D : va_G) (ct : Nat → ClassId) (S : ty_S) (ws : va_W) (ph : va_W → Prop) (xx : Nat → Nat → Nat → Prop) (wo : Nat) (tim : Int32) (se : Nat) (cu : Nat) (pr : Nat) (cco : Int32) (chs : Nat) (rc : Nat) (lg : Nat) (llim : Int32) (lwid : Int32) (lnu : Nat) (lold : Int32) (lsiz : Int32) (fln : Nat → Int32) (p1 : Int32) (p2 : Int32) (p3 : Int32) (sz : Nat) (hT : ty_V ct S ph ws) (hph : ty_C ph xx) (hy1 : ty_y1 xx) : Met l yX9_note (ws_ yX9_note cX9_note 5 none) ({ frames := 1, cells := 0, slots := 0, locals := 22 } : Room) (va_Pc [.ref wo, .int p1, .int p2, .int p3] (cmP D ct sz ([(fn_9 wo tim se cu pr cco chs rc lg), (fn_8 lg llim lwid lnu lold lsiz), (rf_RW ct 0 lnu 240 fln)] ++ ws))) (va_Qv (fun (u : va_W × Int32 × Int32 × (Nat → Int32)) => match u with | (u9, lold1, lsiz1, fln1) => ty_V ct S ph u9 ∧ (a_X9_note tim llim lwid lold lsiz fln p1 p2 p3)) (cmB D ([(fn_9 wo tim se cu pr cco chs rc lg), (fn_8 lg llim lwid lnu lold lsiz), (rf_RW ct 0 lnu 240 fln)] ++ ws) sz (fun (u : va_W × Int32 × Int32 × (Nat → Int32)) => match u with | (u9, lold1, lsiz1, fln1) => ([(fn_9 wo tim se cu pr cco chs rc lg), (fn_8 lg llim lwid lnu lold1 lsiz1), (rf_RW ct 0 lnu 240 fln1)] ++ u9))) (va_A ([(fn_9 wo tim se cu pr cco chs rc lg), (fn_8 lg llim lwid lnu lold lsiz), (rf_RW ct 0 lnu 240 fln)] ++ ws) sz)) 0 0 (va_A ([(fn_9 wo tim se cu pr cco chs rc lg), (fn_8 lg llim lwid lnu lold lsiz), (rf_RW ct 0 lnu 240 fln)] ++ ws) sz) := by
  refine Met.ofW (cc := cX9_note) (maxL := 5) (ret := none) (by decide) rfl ?_
  intro p e s m args below meth c s₁ B hml hv
  obtain ⟨rfl, hsz, hP, hK, hD0, hX⟩ := hv
  have hx := B.exec
  have hb := B.bytes
  have hr := B.returns
  have hts := ws_all (atoms_spec (ws := ws_ yX9_note cX9_note 5 none) B.pre)
  have hown : s.vm.findClass RX9 = some m.cls := findClass_of_methodNamed B.named
  have hlocks := B.notSynchronized
  subst hsz
  have hD := hD0.self (sz := s.heap.size)
  generalize hAe : va_A ([(fn_9 wo tim se cu pr cco chs rc lg), (fn_8 lg llim lwid lnu lold lsiz), (rf_RW ct 0 lnu 240 fln)] ++ ws) s.heap.size = A at hD hX ⊢
  have hA : ∀ q : Nat, s.heap.size ≤ q → A q := fun q h => by rw [← hAe]; exact Or.inr h
  have hS : va_S A s.heap s.heap [] := va_S.rf
  have hl := lv_entry ([.ref wo, .int p1, .int p2, .int p3]) (n := 5) (Nat.le_of_ble_eq_true rfl)
  rw [lg_entry_eq]
  generalize (lg_sl ([.ref wo, .int p1, .int p2, .int p3]) ++ List.replicate (5 - (lg_sl ([.ref wo, .int p1, .int p2, .int p3])).length) Slot.unset).toArray = ls at hl ⊢
  have hl : lv_has ls 5 [(0, .ref wo), (1, .int p1), (2, .int p2), (3, .int p3)] := hl
  refine lv_aload_n hx hb dX9_note_0 rfl (lv_at hl 0 rfl) ?_
  refine va_get (v := .ref lg) (D := D) (ci := 9) (C := RX9) (T := TX9) (N := 8) hx hb hts in_X9 hown hK hP 0 rfl rfl 7 (by decide) (hts _ kl_RX9_50) (fun _ h9 => h9) rfl dX9_note_1 ?_
  obtain ⟨hP, hD⟩ := ty_opPD (E1 := [(fn_9 wo tim se cu pr cco chs rc lg), (rf_RW ct 0 lnu 240 fln)]) (E2 := [(fn_8 lg llim lwid lnu lold lsiz)]) (n := 3) [0, 2, 1] hP hD rfl rfl (by decide +kernel) ty_mv2
  refine ty_Kv hP hD hS hA (va_runVN (As := []) (rest := []) ⟨hx, hb, hml, hown, hts⟩ (r_X8_addRow l D ct (fun _ => none) [] (fun _ => True) (fun _ _ _ => True) lg llim lwid lnu lold lsiz _ ty_V0 ty_C0 ty_y10) (cm_VN 0 hts kc_X8_addRow ki_RX8 kl_RX9_90 kv_X8_addRow kx_X8_addRow kd_X8_addRow ⟨Nat.le_of_ble_eq_true rfl, Nat.le_of_ble_eq_true rfl⟩) (ty_preE (ci := 8) hP hK hD hS hA hX rfl (ty_app (j := 0) rfl)) rfl rfl hl.1 rfl (lv_room (Nat.le_of_ble_eq_true rfl)) dX9_note_4 ⟨Nat.le_of_ble_eq_true rfl, Nat.le_of_ble_eq_true rfl⟩) (fun u H locs hw_2 hP hD hS => ?_)
  obtain ⟨ws_3, told1_4, tsiz1_5⟩ := u
  obtain ⟨hT9_6, hp_7⟩ := hw_2
  have hp_7 : (a_X8_addRow llim lold lsiz told1_4 tsiz1_5) := hp_7
  obtain ⟨hP, hD⟩ := ty_bkPD (E := [(fn_9 wo tim se cu pr cco chs rc lg), (rf_RW ct 0 lnu 240 fln), (fn_8 lg llim lwid lnu told1_4 tsiz1_5)]) hP hD rfl
  refine lv_aload_n hx hb dX9_note_7 rfl (lv_at hl 0 rfl) ?_
  refine va_get (v := .ref lg) (D := D) (ci := 9) (C := RX9) (T := TX9) (N := 8) hx hb hts in_X9 hown hK hP 0 rfl rfl 7 (by decide) (hts _ kl_RX9_50) (fun _ h9 => h9) rfl dX9_note_8 ?_
  refine lv_aload_n hx hb dX9_note_11 rfl (lv_at hl 0 rfl) ?_
  refine va_get (v := .ref lg) (D := D) (ci := 9) (C := RX9) (T := TX9) (N := 8) hx hb hts in_X9 hown hK hP 0 rfl rfl 7 (by decide) (hts _ kl_RX9_50) (fun _ h9 => h9) rfl dX9_note_12 ?_
  refine va_getN (v := .int tsiz1_5) (D := D) (ci := 8) (C := RX8) (T := TX8) (N := 5) hx hb hts in_X8 hown hK hP 2 rfl rfl 4 (by decide) (hts _ kl_RX9_93) (fun _ h9 => h9) rfl dX9_note_15 ?_
  refine lv_iconst (v := 1) hx hb dX9_note_18 (by decide) ?_
  refine lv_isub hx hb dX9_note_19 ?_
  obtain ⟨hP, hD⟩ := ty_ipPD (E1 := [(fn_9 wo tim se cu pr cco chs rc lg), (rf_RW ct 0 lnu 240 fln)]) (E2 := [(fn_8 lg llim lwid lnu told1_4 tsiz1_5)]) hP hD rfl ty_mv2
  refine ty_Ki hP hD hS hA (va_runVN (As := [.int (tsiz1_5 - 1)]) (rest := []) ⟨hx, hb, hml, hown, hts⟩ (r_X8_placeOf l D ct (fun _ => none) [] (fun _ => True) (fun _ _ _ => True) lg llim lwid lnu told1_4 tsiz1_5 (tsiz1_5 - 1) _ ty_V0 ty_C0 ty_y10) (cm_VN 1 hts kc_X8_placeOf ki_RX8 kl_RX9_96 kv_X8_placeOf kx_X8_placeOf kd_X8_placeOf ⟨Nat.le_of_ble_eq_true rfl, Nat.le_of_ble_eq_true rfl⟩) (ty_preE (ci := 8) hP hK hD hS hA hX rfl (ty_app (j := 0) rfl)) rfl rfl hl.1 rfl (lv_room (Nat.le_of_ble_eq_true rfl)) dX9_note_20 ⟨Nat.le_of_ble_eq_true rfl, Nat.le_of_ble_eq_true rfl⟩) (fun r_8 u H locs hw_9 hP hD hS => ?_)
  obtain ⟨ws_10, rfl⟩ : ∃ z, z = u := ⟨_, rfl⟩
  obtain ⟨hT9_11, hp_12⟩ := hw_9
  have hp_12 : (a_X8_placeOf llim lwid told1_4 (tsiz1_5 - 1) r_8) := hp_12
  obtain ⟨hP, hD⟩ := ty_bkPD (E := [(fn_9 wo tim se cu pr cco chs rc lg), (rf_RW ct 0 lnu 240 fln), (fn_8 lg llim lwid lnu told1_4 tsiz1_5)]) hP hD rfl
  refine lv_istore (lv' := [(4, .int r_8), (0, .ref wo), (1, .int p1), (2, .int p2), (3, .int p3)]) hx hb dX9_note_23 hl (by decide) rfl (fun ls hl => ?_)
  refine lv_aload_n hx hb dX9_note_25 rfl (lv_at hl 1 rfl) ?_
  refine va_get (v := .ref lg) (D := D) (ci := 9) (C := RX9) (T := TX9) (N := 8) hx hb hts in_X9 hown hK hP 0 rfl rfl 7 (by decide) (hts _ kl_RX9_50) (fun _ h9 => h9) rfl dX9_note_26 ?_
  refine va_getN (v := .ref lnu) (D := D) (ci := 8) (C := RX8) (T := TX8) (N := 5) hx hb hts in_X8 hown hK hP 2 rfl rfl 2 (by decide) (hts _ kl_RX9_100) (fun _ h9 => h9) rfl dX9_note_29 ?_
  refine lv_iload hx hb dX9_note_32 (lv_at hl 0 rfl) ?_
  refine lv_iconst (v := 0) hx hb dX9_note_34 (by decide) ?_
  refine lv_iadd hx hb dX9_note_35 ?_
  refine lv_aload_n hx hb dX9_note_36 rfl (lv_at hl 1 rfl) ?_
  refine va_get (v := .int tim) (D := D) (ci := 9) (C := RX9) (T := TX9) (N := 8) hx hb hts in_X9 hown hK hP 0 rfl rfl 0 (by decide) (hts _ kl_RX9_53) (fun _ h9 => h9) rfl dX9_note_37 ?_
  obtain ⟨hP, hD⟩ := ty_opPD (E1 := [(fn_9 wo tim se cu pr cco chs rc lg), (fn_8 lg llim lwid lnu told1_4 tsiz1_5)]) (E2 := [(rf_RW ct 0 lnu 240 fln)]) (n := 3) [0, 2, 1] hP hD rfl rfl (by decide +kernel) ty_mv2
  refine ty_Kv hP hD hS hA (va_runSN (As := [.ref lnu, .int (r_8 + 0), .int tim]) (rest := []) ⟨hx, hb, hml, hown, hts⟩ (r_X10_put_240 l D ct (fun _ => none) [] (fun _ => True) (fun _ _ _ => True) lnu fln (r_8 + 0) tim _ ty_V0 ty_C0 ty_y10) (cm_SN 3 hts kc_X10_put ki_RX10 kl_RX9_104 ks_X10_put kd_X10_put ⟨Nat.le_of_ble_eq_true rfl, Nat.le_of_ble_eq_true rfl⟩) (ty_preS hP hK hD hS hA hX) rfl rfl hl.1 rfl (lv_room (Nat.le_of_ble_eq_true rfl)) dX9_note_40 ⟨Nat.le_of_ble_eq_true rfl, Nat.le_of_ble_eq_true rfl⟩) (fun u H locs hw_14 hP hD hS => ?_)
  obtain ⟨ws_15, b1_16⟩ := u
  obtain ⟨hT9_17, hp_18⟩ := hw_14
  have hp_18 : (a_X10_put_240 fln (r_8 + 0) tim b1_16) := hp_18
  obtain ⟨hP, hD⟩ := ty_bkPD (E := [(fn_9 wo tim se cu pr cco chs rc lg), (fn_8 lg llim lwid lnu told1_4 tsiz1_5), (rf_RW ct 0 lnu 240 b1_16)]) hP hD rfl
  refine lv_aload_n hx hb dX9_note_43 rfl (lv_at hl 1 rfl) ?_
  refine va_get (v := .ref lg) (D := D) (ci := 9) (C := RX9) (T := TX9) (N := 8) hx hb hts in_X9 hown hK hP 0 rfl rfl 7 (by decide) (hts _ kl_RX9_50) (fun _ h9 => h9) rfl dX9_note_44 ?_
  refine va_getN (v := .ref lnu) (D := D) (ci := 8) (C := RX8) (T := TX8) (N := 5) hx hb hts in_X8 hown hK hP 1 rfl rfl 2 (by decide) (hts _ kl_RX9_100) (fun _ h9 => h9) rfl dX9_note_47 ?_
  refine lv_iload hx hb dX9_note_50 (lv_at hl 0 rfl) ?_
  refine lv_iconst (v := 1) hx hb dX9_note_52 (by decide) ?_
  refine lv_iadd hx hb dX9_note_53 ?_
  refine lv_iload_n hx hb dX9_note_54 rfl (lv_at hl 2 rfl) ?_
  obtain ⟨hP, hD⟩ := ty_ipPD (E1 := [(fn_9 wo tim se cu pr cco chs rc lg), (fn_8 lg llim lwid lnu told1_4 tsiz1_5)]) (E2 := [(rf_RW ct 0 lnu 240 b1_16)]) hP hD rfl ty_mv2
  refine ty_Kv hP hD hS hA (va_runSN (As := [.ref lnu, .int (r_8 + 1), .int p1]) (rest := []) ⟨hx, hb, hml, hown, hts⟩ (r_X10_put_240 l D ct (fun _ => none) [] (fun _ => True) (fun _ _ _ => True) lnu b1_16 (r_8 + 1) p1 _ ty_V0 ty_C0 ty_y10) (cm_SN 3 hts kc_X10_put ki_RX10 kl_RX9_104 ks_X10_put kd_X10_put ⟨Nat.le_of_ble_eq_true rfl, Nat.le_of_ble_eq_true rfl⟩) (ty_preS hP hK hD hS hA hX) rfl rfl hl.1 rfl (lv_room (Nat.le_of_ble_eq_true rfl)) dX9_note_55 ⟨Nat.le_of_ble_eq_true rfl, Nat.le_of_ble_eq_true rfl⟩) (fun u H locs hw_20 hP hD hS => ?_)
  obtain ⟨ws_21, b1_22⟩ := u
  obtain ⟨hT9_23, hp_24⟩ := hw_20
  have hp_24 : (a_X10_put_240 b1_16 (r_8 + 1) p1 b1_22) := hp_24
  obtain ⟨hP, hD⟩ := ty_bkPD (E := [(fn_9 wo tim se cu pr cco chs rc lg), (fn_8 lg llim lwid lnu told1_4 tsiz1_5), (rf_RW ct 0 lnu 240 b1_22)]) hP hD rfl
  refine lv_aload_n hx hb dX9_note_58 rfl (lv_at hl 1 rfl) ?_
  refine va_get (v := .ref lg) (D := D) (ci := 9) (C := RX9) (T := TX9) (N := 8) hx hb hts in_X9 hown hK hP 0 rfl rfl 7 (by decide) (hts _ kl_RX9_50) (fun _ h9 => h9) rfl dX9_note_59 ?_
  refine va_getN (v := .ref lnu) (D := D) (ci := 8) (C := RX8) (T := TX8) (N := 5) hx hb hts in_X8 hown hK hP 1 rfl rfl 2 (by decide) (hts _ kl_RX9_100) (fun _ h9 => h9) rfl dX9_note_62 ?_
  refine lv_iload hx hb dX9_note_65 (lv_at hl 0 rfl) ?_
  refine lv_iconst (v := 2) hx hb dX9_note_67 (by decide) ?_
  refine lv_iadd hx hb dX9_note_68 ?_
  refine lv_iload_n hx hb dX9_note_69 rfl (lv_at hl 3 rfl) ?_
  obtain ⟨hP, hD⟩ := ty_ipPD (E1 := [(fn_9 wo tim se cu pr cco chs rc lg), (fn_8 lg llim lwid lnu told1_4 tsiz1_5)]) (E2 := [(rf_RW ct 0 lnu 240 b1_22)]) hP hD rfl ty_mv2
  refine ty_Kv hP hD hS hA (va_runSN (As := [.ref lnu, .int (r_8 + 2), .int p2]) (rest := []) ⟨hx, hb, hml, hown, hts⟩ (r_X10_put_240 l D ct (fun _ => none) [] (fun _ => True) (fun _ _ _ => True) lnu b1_22 (r_8 + 2) p2 _ ty_V0 ty_C0 ty_y10) (cm_SN 3 hts kc_X10_put ki_RX10 kl_RX9_104 ks_X10_put kd_X10_put ⟨Nat.le_of_ble_eq_true rfl, Nat.le_of_ble_eq_true rfl⟩) (ty_preS hP hK hD hS hA hX) rfl rfl hl.1 rfl (lv_room (Nat.le_of_ble_eq_true rfl)) dX9_note_70 ⟨Nat.le_of_ble_eq_true rfl, Nat.le_of_ble_eq_true rfl⟩) (fun u H locs hw_26 hP hD hS => ?_)
  obtain ⟨ws_27, b1_28⟩ := u
  obtain ⟨hT9_29, hp_30⟩ := hw_26
  have hp_30 : (a_X10_put_240 b1_22 (r_8 + 2) p2 b1_28) := hp_30
  obtain ⟨hP, hD⟩ := ty_bkPD (E := [(fn_9 wo tim se cu pr cco chs rc lg), (fn_8 lg llim lwid lnu told1_4 tsiz1_5), (rf_RW ct 0 lnu 240 b1_28)]) hP hD rfl
  refine lv_aload_n hx hb dX9_note_73 rfl (lv_at hl 1 rfl) ?_
  refine va_get (v := .ref lg) (D := D) (ci := 9) (C := RX9) (T := TX9) (N := 8) hx hb hts in_X9 hown hK hP 0 rfl rfl 7 (by decide) (hts _ kl_RX9_50) (fun _ h9 => h9) rfl dX9_note_74 ?_
  refine va_getN (v := .ref lnu) (D := D) (ci := 8) (C := RX8) (T := TX8) (N := 5) hx hb hts in_X8 hown hK hP 1 rfl rfl 2 (by decide) (hts _ kl_RX9_100) (fun _ h9 => h9) rfl dX9_note_77 ?_
  refine lv_iload hx hb dX9_note_80 (lv_at hl 0 rfl) ?_
  refine lv_iconst (v := 3) hx hb dX9_note_82 (by decide) ?_
  refine lv_iadd hx hb dX9_note_83 ?_
  refine lv_iload_n hx hb dX9_note_84 rfl (lv_at hl 4 rfl) ?_
  obtain ⟨hP, hD⟩ := ty_ipPD (E1 := [(fn_9 wo tim se cu pr cco chs rc lg), (fn_8 lg llim lwid lnu told1_4 tsiz1_5)]) (E2 := [(rf_RW ct 0 lnu 240 b1_28)]) hP hD rfl ty_mv2
  refine ty_Kv hP hD hS hA (va_runSN (As := [.ref lnu, .int (r_8 + 3), .int p3]) (rest := []) ⟨hx, hb, hml, hown, hts⟩ (r_X10_put_240 l D ct (fun _ => none) [] (fun _ => True) (fun _ _ _ => True) lnu b1_28 (r_8 + 3) p3 _ ty_V0 ty_C0 ty_y10) (cm_SN 3 hts kc_X10_put ki_RX10 kl_RX9_104 ks_X10_put kd_X10_put ⟨Nat.le_of_ble_eq_true rfl, Nat.le_of_ble_eq_true rfl⟩) (ty_preS hP hK hD hS hA hX) rfl rfl hl.1 rfl (lv_room (Nat.le_of_ble_eq_true rfl)) dX9_note_85 ⟨Nat.le_of_ble_eq_true rfl, Nat.le_of_ble_eq_true rfl⟩) (fun u H locs hw_32 hP hD hS => ?_)
  obtain ⟨ws_33, b1_34⟩ := u
  obtain ⟨hT9_35, hp_36⟩ := hw_32
  have hp_36 : (a_X10_put_240 b1_28 (r_8 + 3) p3 b1_34) := hp_36
  obtain ⟨hP, hD⟩ := ty_bkPD (E := [(fn_9 wo tim se cu pr cco chs rc lg), (fn_8 lg llim lwid lnu told1_4 tsiz1_5), (rf_RW ct 0 lnu 240 b1_34)]) hP hD rfl
  exact W.vret hx hb hr (fun t ht hW => ⟨⟨(ws, told1_4, tsiz1_5, b1_34), rfl, ⟨hT, ⟨told1_4, tsiz1_5, hp_7, ⟨r_8, hp_12, ⟨b1_16, hp_18, ⟨b1_22, hp_24, ⟨b1_28, hp_30, ⟨b1_34, hp_36, trivial⟩⟩⟩⟩⟩⟩⟩, by rw [ht]; exact hP, by rw [hAe]; exact hD⟩, hS.F ht⟩) hS.2.2 dX9_note_88
def a_X4_countFilling (fbd : Nat → Int32) (p1 : Int32) (fbd1 : Nat → Int32) : Prop := (∃ (r_1 : Int32), (a_X10_at_10 fbd (if 9 < (p1 / 100) then 9 else (p1 / 100)) r_1) ∧ (∃ (b1_9 : Nat → Int32), (a_X10_put_10 fbd (if 9 < (p1 / 100) then 9 else (p1 / 100)) (r_1 + 1) b1_9) ∧ (fbd1 = b1_9)))
set_option maxRecDepth 100000 in
set_option maxHeartbeats 4000000 in
theorem r_X4_countFilling (l : Launch) (D : va_G) (ct : Nat → ClassId) (S : ty_S) (ws : va_W) (ph : va_W → Prop) (xx : Nat → Nat → Nat → Prop) (mt : Nat) (res : Int32) (mca : Int32) (mre : Int32) (trr : Int32) (wfo : Int32) (wct : Int32) (bd : Nat) (fbd : Nat → Int32) (p1 : Int32) (sz : Nat) (hT : ty_V ct S ph ws) (hph : ty_C ph xx) (hy1 : ty_y1 xx) : Met l yX4_countFilling (ws_ yX4_countFilling cX4_countFilling 3 none) ({ frames := 1, cells := 0, slots := 0, locals := 22 } : Room) (va_Pc [.ref mt, .int p1] (cmP D ct sz ([(fn_4 mt res mca mre trr wfo wct bd), (rf_RW ct 0 bd 10 fbd)] ++ ws))) (va_Qv (fun (u : va_W × (Nat → Int32)) => match u with | (u9, fbd1) => ty_V ct S ph u9 ∧ (a_X4_countFilling fbd p1 fbd1)) (cmB D ([(fn_4 mt res mca mre trr wfo wct bd), (rf_RW ct 0 bd 10 fbd)] ++ ws) sz (fun (u : va_W × (Nat → Int32)) => match u with | (u9, fbd1) => ([(fn_4 mt res mca mre trr wfo wct bd), (rf_RW ct 0 bd 10 fbd1)] ++ u9))) (va_A ([(fn_4 mt res mca mre trr wfo wct bd), (rf_RW ct 0 bd 10 fbd)] ++ ws) sz)) 0 0 (va_A ([(fn_4 mt res mca mre trr wfo wct bd), (rf_RW ct 0 bd 10 fbd)] ++ ws) sz) := by
  refine Met.ofW (cc := cX4_countFilling) (maxL := 3) (ret := none) (by decide) rfl ?_
  intro p e s m args below meth c s₁ B hml hv
  obtain ⟨rfl, hsz, hP, hK, hD0, hX⟩ := hv
  have hx := B.exec
  have hb := B.bytes
  have hr := B.returns
  have hts := ws_all (atoms_spec (ws := ws_ yX4_countFilling cX4_countFilling 3 none) B.pre)
  have hown : s.vm.findClass RX4 = some m.cls := findClass_of_methodNamed B.named
  have hlocks := B.notSynchronized
  subst hsz
  have hD := hD0.self (sz := s.heap.size)
  generalize hAe : va_A ([(fn_4 mt res mca mre trr wfo wct bd), (rf_RW ct 0 bd 10 fbd)] ++ ws) s.heap.size = A at hD hX ⊢
  have hA : ∀ q : Nat, s.heap.size ≤ q → A q := fun q h => by rw [← hAe]; exact Or.inr h
  have hS : va_S A s.heap s.heap [] := va_S.rf
  have hl := lv_entry ([.ref mt, .int p1]) (n := 3) (Nat.le_of_ble_eq_true rfl)
  rw [lg_entry_eq]
  generalize (lg_sl ([.ref mt, .int p1]) ++ List.replicate (3 - (lg_sl ([.ref mt, .int p1])).length) Slot.unset).toArray = ls at hl ⊢
  have hl : lv_has ls 3 [(0, .ref mt), (1, .int p1)] := hl
  refine lv_iload_n hx hb dX4_countFilling_0 rfl (lv_at hl 1 rfl) ?_
  refine lv_bipush (v := 100) hx hb dX4_countFilling_1 (by decide) ?_
  refine lv_idiv hx hb dX4_countFilling_3 (by decide) ?_
  refine lv_bipush (v := 9) hx hb dX4_countFilling_4 (by decide) ?_
  refine va_mmin hx hb (hml.trans hl.1.symm) hown (hts _ kl_RX4_38) (hts _ jm_min_s) (hts _ ki_RJ9) (hts _ jm_min_c) (Nat.le_of_ble_eq_true rfl) (Nat.le_of_ble_eq_true rfl) (Nat.le_of_ble_eq_true rfl) (Nat.le_of_ble_eq_true rfl) dX4_countFilling_6 ?_
  refine lv_istore_n (lv' := [(2, .int (if 9 < (p1 / 100) then 9 else (p1 / 100))), (0, .ref mt), (1, .int p1)]) hx hb dX4_countFilling_9 rfl hl (by decide) rfl (fun ls hl => ?_)
  refine lv_aload_n hx hb dX4_countFilling_10 rfl (lv_at hl 1 rfl) ?_
  refine va_get (v := .ref bd) (D := D) (ci := 4) (C := RX4) (T := TX4) (N := 7) hx hb hts in_X4 hown hK hP 0 rfl rfl 6 (by decide) (hts _ kl_RX4_9) (fun _ h9 => h9) rfl dX4_countFilling_11 ?_
  refine lv_iload_n hx hb dX4_countFilling_14 rfl (lv_at hl 0 rfl) ?_
  refine lv_aload_n hx hb dX4_countFilling_15 rfl (lv_at hl 1 rfl) ?_
  refine va_get (v := .ref bd) (D := D) (ci := 4) (C := RX4) (T := TX4) (N := 7) hx hb hts in_X4 hown hK hP 0 rfl rfl 6 (by decide) (hts _ kl_RX4_9) (fun _ h9 => h9) rfl dX4_countFilling_16 ?_
  refine lv_iload_n hx hb dX4_countFilling_19 rfl (lv_at hl 0 rfl) ?_
  obtain ⟨hP, hD⟩ := ty_ipPD (E1 := [(fn_4 mt res mca mre trr wfo wct bd)]) (E2 := [(rf_RW ct 0 bd 10 fbd)]) hP hD rfl ty_mv2
  refine ty_Ki hP hD hS hA (va_runSN (As := [.ref bd, .int (if 9 < (p1 / 100) then 9 else (p1 / 100))]) (rest := [.int (if 9 < (p1 / 100) then 9 else (p1 / 100)), .ref bd]) ⟨hx, hb, hml, hown, hts⟩ (r_X10_at_10 l D ct (fun _ => none) [] (fun _ => True) (fun _ _ _ => True) bd fbd (if 9 < (p1 / 100) then 9 else (p1 / 100)) _ ty_V0 ty_C0 ty_y10) (cm_SN 2 hts kc_X10_at ki_RX10 kl_RX4_44 ks_X10_at kd_X10_at ⟨Nat.le_of_ble_eq_true rfl, Nat.le_of_ble_eq_true rfl⟩) (ty_preS hP hK hD hS hA hX) rfl rfl hl.1 rfl (lv_room (Nat.le_of_ble_eq_true rfl)) dX4_countFilling_20 ⟨Nat.le_of_ble_eq_true rfl, Nat.le_of_ble_eq_true rfl⟩) (fun r_1 u H locs hw_2 hP hD hS => ?_)
  obtain ⟨ws_3, rfl⟩ : ∃ z, z = u := ⟨_, rfl⟩
  obtain ⟨hT9_4, hp_5⟩ := hw_2
  have hp_5 : (a_X10_at_10 fbd (if 9 < (p1 / 100) then 9 else (p1 / 100)) r_1) := hp_5
  obtain ⟨hP, hD⟩ := ty_bkPD (E := [(fn_4 mt res mca mre trr wfo wct bd), (rf_RW ct 0 bd 10 fbd)]) hP hD rfl
  refine lv_iconst (v := 1) hx hb dX4_countFilling_23 (by decide) ?_
  refine lv_iadd hx hb dX4_countFilling_24 ?_
  obtain ⟨hP, hD⟩ := ty_ipPD (E1 := [(fn_4 mt res mca mre trr wfo wct bd)]) (E2 := [(rf_RW ct 0 bd 10 fbd)]) hP hD rfl ty_mv2
  refine ty_Kv hP hD hS hA (va_runSN (As := [.ref bd, .int (if 9 < (p1 / 100) then 9 else (p1 / 100)), .int (r_1 + 1)]) (rest := []) ⟨hx, hb, hml, hown, hts⟩ (r_X10_put_10 l D ct (fun _ => none) [] (fun _ => True) (fun _ _ _ => True) bd fbd (if 9 < (p1 / 100) then 9 else (p1 / 100)) (r_1 + 1) _ ty_V0 ty_C0 ty_y10) (cm_SN 3 hts kc_X10_put ki_RX10 kl_RX4_48 ks_X10_put kd_X10_put ⟨Nat.le_of_ble_eq_true rfl, Nat.le_of_ble_eq_true rfl⟩) (ty_preS hP hK hD hS hA hX) rfl rfl hl.1 rfl (lv_room (Nat.le_of_ble_eq_true rfl)) dX4_countFilling_25 ⟨Nat.le_of_ble_eq_true rfl, Nat.le_of_ble_eq_true rfl⟩) (fun u H locs hw_7 hP hD hS => ?_)
  obtain ⟨ws_8, b1_9⟩ := u
  obtain ⟨hT9_10, hp_11⟩ := hw_7
  have hp_11 : (a_X10_put_10 fbd (if 9 < (p1 / 100) then 9 else (p1 / 100)) (r_1 + 1) b1_9) := hp_11
  obtain ⟨hP, hD⟩ := ty_bkPD (E := [(fn_4 mt res mca mre trr wfo wct bd), (rf_RW ct 0 bd 10 b1_9)]) hP hD rfl
  exact W.vret hx hb hr (fun t ht hW => ⟨⟨(ws, b1_9), rfl, ⟨hT, ⟨r_1, hp_5, ⟨b1_9, hp_11, rfl⟩⟩⟩, by rw [ht]; exact hP, by rw [hAe]; exact hD⟩, hS.F ht⟩) hS.2.2 dX4_countFilling_28
def a_X1_isFree (sta : Int32) (r : Int32) : Prop := ((sta = (0 : Int32) ∧ (r = 1)) ∨ (¬ sta = (0 : Int32) ∧ ((¬ sta = (3 : Int32) ∧ (r = 0)) ∨ (sta = (3 : Int32) ∧ (r = 1)))))
set_option maxRecDepth 100000 in
set_option maxHeartbeats 4000000 in
theorem r_X1_isFree (l : Launch) (D : va_G) (ct : Nat → ClassId) (S : ty_S) (ws : va_W) (ph : va_W → Prop) (xx : Nat → Nat → Nat → Prop) (ch : Nat) (idx : Int32) (cl : Nat) (mt : Nat) (sta : Int32) (prg : Int32) (stp : Int32) (las : Int32) (tb : Nat) (qu : Nat) (wai : Int32) (bin : Int64) (bou : Int64) (hel : Int32) (sbo : Int64) (sz : Nat) (hT : ty_V ct S ph ws) (hph : ty_C ph xx) (hy1 : ty_y1 xx) : Met l yX1_isFree (ws_ yX1_isFree cX1_isFree 1 (some .boolean)) ({ frames := 0, cells := 0, slots := 0, locals := 0 } : Room) (va_Pc [.ref ch] (cmP D ct sz ([(fn_1 ch idx cl mt sta prg stp las tb qu wai bin bou hel sbo)] ++ ws))) (va_Qi (fun (r : Int32) (u9 : va_W) => ty_V ct S ph u9 ∧ (a_X1_isFree sta r) ∧ (r = 0 ∨ r = 1)) (cmB D ([(fn_1 ch idx cl mt sta prg stp las tb qu wai bin bou hel sbo)] ++ ws) sz (fun (u9 : va_W) => ([(fn_1 ch idx cl mt sta prg stp las tb qu wai bin bou hel sbo)] ++ u9))) (va_A ([(fn_1 ch idx cl mt sta prg stp las tb qu wai bin bou hel sbo)] ++ ws) sz)) 0 0 (va_A ([(fn_1 ch idx cl mt sta prg stp las tb qu wai bin bou hel sbo)] ++ ws) sz) := by
  refine Met.ofW (cc := cX1_isFree) (maxL := 1) (ret := (some .boolean)) (by decide) rfl ?_
  intro p e s m args below meth c s₁ B hml hv
  obtain ⟨rfl, hsz, hP, hK, hD0, hX⟩ := hv
  have hx := B.exec
  have hb := B.bytes
  have hr := B.returns
  have hts := ws_all (atoms_spec (ws := ws_ yX1_isFree cX1_isFree 1 (some .boolean)) B.pre)
  have hown : s.vm.findClass RX1 = some m.cls := findClass_of_methodNamed B.named
  have hlocks := B.notSynchronized
  subst hsz
  have hD := hD0.self (sz := s.heap.size)
  generalize hAe : va_A ([(fn_1 ch idx cl mt sta prg stp las tb qu wai bin bou hel sbo)] ++ ws) s.heap.size = A at hD hX ⊢
  have hA : ∀ q : Nat, s.heap.size ≤ q → A q := fun q h => by rw [← hAe]; exact Or.inr h
  have hS : va_S A s.heap s.heap [] := va_S.rf
  have hl := lv_entry ([.ref ch]) (n := 1) (Nat.le_of_ble_eq_true rfl)
  rw [lg_entry_eq]
  generalize (lg_sl ([.ref ch]) ++ List.replicate (1 - (lg_sl ([.ref ch])).length) Slot.unset).toArray = ls at hl ⊢
  have hl : lv_has ls 1 [(0, .ref ch)] := hl
  refine lv_aload_n hx hb dX1_isFree_0 rfl (lv_at hl 0 rfl) ?_
  refine va_get (v := .int sta) (D := D) (ci := 1) (C := RX1) (T := TX1) (N := 14) hx hb hts in_X1 hown hK hP 0 rfl rfl 3 (by decide) (hts _ kl_RX1_43) (fun _ h9 => h9) rfl dX1_isFree_1 ?_
  refine lv_if_eq (tgt := 15) hx hb dX1_isFree_4 (by decide) (fun hc_1 => ?_) (fun hc_1 => ?_)
  · refine lv_iconst (v := 1) hx hb dX1_isFree_15 (by decide) ?_
    refine lv_goto (tgt := 20) hx hb dX1_isFree_16 (by decide) ?_
    exact W.zret (v := 1) hx hb hr (by decide) (fun t ht hW => ⟨⟨1, ws, rfl, ⟨hT, ⟨(Or.inl ⟨hc_1, rfl⟩), (Or.inr rfl)⟩⟩, by rw [ht]; exact hP, by rw [hAe]; exact hD⟩, hS.F ht⟩) hS.2.2 dX1_isFree_20
  · refine lv_aload_n hx hb dX1_isFree_7 rfl (lv_at hl 0 rfl) ?_
    refine va_get (v := .int sta) (D := D) (ci := 1) (C := RX1) (T := TX1) (N := 14) hx hb hts in_X1 hown hK hP 0 rfl rfl 3 (by decide) (hts _ kl_RX1_43) (fun _ h9 => h9) rfl dX1_isFree_8 ?_
    refine lv_iconst (v := 3) hx hb dX1_isFree_11 (by decide) ?_
    refine lv_icmp_ne (tgt := 19) hx hb dX1_isFree_12 (by decide) (fun hc_2 => ?_) (fun hc_2 => ?_)
    · refine lv_iconst (v := 0) hx hb dX1_isFree_19 (by decide) ?_
      exact W.zret (v := 0) hx hb hr (by decide) (fun t ht hW => ⟨⟨0, ws, rfl, ⟨hT, ⟨(Or.inr ⟨hc_1, (Or.inl ⟨hc_2, rfl⟩)⟩), (Or.inl rfl)⟩⟩, by rw [ht]; exact hP, by rw [hAe]; exact hD⟩, hS.F ht⟩) hS.2.2 dX1_isFree_20
    · refine lv_iconst (v := 1) hx hb dX1_isFree_15 (by decide) ?_
      refine lv_goto (tgt := 20) hx hb dX1_isFree_16 (by decide) ?_
      exact W.zret (v := 1) hx hb hr (by decide) (fun t ht hW => ⟨⟨1, ws, rfl, ⟨hT, ⟨(Or.inr ⟨hc_1, (Or.inr ⟨hc_2, rfl⟩)⟩), (Or.inr rfl)⟩⟩, by rw [ht]; exact hP, by rw [hAe]; exact hD⟩, hS.F ht⟩) hS.2.2 dX1_isFree_20
set_option maxRecDepth 100000 in
set_option maxHeartbeats 4000000 in
theorem r_X1_countFromHere (l : Launch) (D : va_G) (ct : Nat → ClassId) (S : ty_S) (ws : va_W) (ph : va_W → Prop) (xx : Nat → Nat → Nat → Prop) (ch : Nat) (idx : Int32) (cl : Nat) (mt : Nat) (sta : Int32) (prg : Int32) (stp : Int32) (las : Int32) (tb : Nat) (qu : Nat) (wai : Int32) (bin : Int64) (bou : Int64) (hel : Int32) (sbo : Int64) (cur : Nat) (pts : Int32) (nom : Int32) (ohm : Int32) (pol : Int32) (tau : Int32) (chg : Int32) (lft : Int32) (cap : Int32) (thr : Int32) (pz : Int32) (tmp : Int32) (het : Int32) (cun : Int32) (vol : Int32) (bk : Nat) (cin : Int64) (cou : Int64) (ein : Int64) (eou : Int64) (sz : Nat) (hT : ty_V ct S ph ws) (hph : ty_C ph xx) (hy1 : ty_y1 xx) : Met l yX1_countFromHere (ws_ yX1_countFromHere cX1_countFromHere 1 none) ({ frames := 0, cells := 0, slots := 0, locals := 0 } : Room) (va_Pc [.ref ch] (cmP D ct sz ([(fn_1 ch idx cl mt sta prg stp las tb qu wai bin bou hel sbo), (fn_0 cl cur pts nom ohm pol tau chg lft cap thr pz tmp het cun vol bk), (fn_3 bk cin cou ein eou)] ++ ws))) (va_Qv (fun (u9 : va_W) => ty_V ct S ph u9) (cmB D ([(fn_1 ch idx cl mt sta prg stp las tb qu wai bin bou hel sbo), (fn_0 cl cur pts nom ohm pol tau chg lft cap thr pz tmp het cun vol bk), (fn_3 bk cin cou ein eou)] ++ ws) sz (fun (u9 : va_W) => ([(fn_1 ch idx cl mt sta prg stp las tb qu wai cin cou (0) sbo), (fn_0 cl cur pts nom ohm pol tau chg lft cap thr pz tmp het cun vol bk), (fn_3 bk cin cou ein eou)] ++ u9))) (va_A ([(fn_1 ch idx cl mt sta prg stp las tb qu wai bin bou hel sbo), (fn_0 cl cur pts nom ohm pol tau chg lft cap thr pz tmp het cun vol bk), (fn_3 bk cin cou ein eou)] ++ ws) sz)) 0 0 (va_A ([(fn_1 ch idx cl mt sta prg stp las tb qu wai bin bou hel sbo), (fn_0 cl cur pts nom ohm pol tau chg lft cap thr pz tmp het cun vol bk), (fn_3 bk cin cou ein eou)] ++ ws) sz) := by
  refine Met.ofW (cc := cX1_countFromHere) (maxL := 1) (ret := none) (by decide) rfl ?_
  intro p e s m args below meth c s₁ B hml hv
  obtain ⟨rfl, hsz, hP, hK, hD0, hX⟩ := hv
  have hx := B.exec
  have hb := B.bytes
  have hr := B.returns
  have hts := ws_all (atoms_spec (ws := ws_ yX1_countFromHere cX1_countFromHere 1 none) B.pre)
  have hown : s.vm.findClass RX1 = some m.cls := findClass_of_methodNamed B.named
  have hlocks := B.notSynchronized
  subst hsz
  have hD := hD0.self (sz := s.heap.size)
  generalize hAe : va_A ([(fn_1 ch idx cl mt sta prg stp las tb qu wai bin bou hel sbo), (fn_0 cl cur pts nom ohm pol tau chg lft cap thr pz tmp het cun vol bk), (fn_3 bk cin cou ein eou)] ++ ws) s.heap.size = A at hD hX ⊢
  have hA : ∀ q : Nat, s.heap.size ≤ q → A q := fun q h => by rw [← hAe]; exact Or.inr h
  have hS : va_S A s.heap s.heap [] := va_S.rf
  have hl := lv_entry ([.ref ch]) (n := 1) (Nat.le_of_ble_eq_true rfl)
  rw [lg_entry_eq]
  generalize (lg_sl ([.ref ch]) ++ List.replicate (1 - (lg_sl ([.ref ch])).length) Slot.unset).toArray = ls at hl ⊢
  have hl : lv_has ls 1 [(0, .ref ch)] := hl
  refine lv_aload_n hx hb dX1_countFromHere_0 rfl (lv_at hl 0 rfl) ?_
  refine lv_aload_n hx hb dX1_countFromHere_1 rfl (lv_at hl 0 rfl) ?_
  refine va_get (v := .ref cl) (D := D) (ci := 1) (C := RX1) (T := TX1) (N := 14) hx hb hts in_X1 hown hK hP 0 rfl rfl 1 (by decide) (hts _ kl_RX1_18) (fun _ h9 => h9) rfl dX1_countFromHere_2 ?_
  refine va_getN (v := .ref bk) (D := D) (ci := 0) (C := RX0) (T := TX0) (N := 16) hx hb hts in_X0 hown hK hP 1 rfl rfl 15 (by decide) (hts _ kl_RX1_110) (fun _ h9 => h9) rfl dX1_countFromHere_5 ?_
  refine va_getN (v := .long cin) (D := D) (ci := 3) (C := RX3) (T := TX3) (N := 4) hx hb hts in_X3 hown hK hP 2 rfl rfl 0 (by decide) (hts _ kl_RX1_114) (fun _ h9 => h9) rfl dX1_countFromHere_8 ?_
  refine va_put (v := .long cin) (ty := .long) (D := D) (ci := 1) (C := RX1) (T := TX1) (N := 14) hx hb hts in_X1 tyX1 tyX1_ok nmX1 hown hK hP hD hS 0 rfl rfl 10 (by decide) (hts _ kl_RX1_62) (fun _ h9 => h9) rfl (by decide +kernel) rfl rfl (Nat.le_of_ble_eq_true rfl) dX1_countFromHere_11 (fun H locs hP hD hS => ?_)
  have hP : va_P D vwCl ([(fn_1 ch idx cl mt sta prg stp las tb qu wai cin bou hel sbo), (fn_0 cl cur pts nom ohm pol tau chg lft cap thr pz tmp het cun vol bk), (fn_3 bk cin cou ein eou)] ++ ws) H := hP
  have hD : va_D A ([(fn_1 ch idx cl mt sta prg stp las tb qu wai cin bou hel sbo), (fn_0 cl cur pts nom ohm pol tau chg lft cap thr pz tmp het cun vol bk), (fn_3 bk cin cou ein eou)] ++ ws) := hD
  refine lv_aload_n hx hb dX1_countFromHere_14 rfl (lv_at hl 0 rfl) ?_
  refine lv_aload_n hx hb dX1_countFromHere_15 rfl (lv_at hl 0 rfl) ?_
  refine va_get (v := .ref cl) (D := D) (ci := 1) (C := RX1) (T := TX1) (N := 14) hx hb hts in_X1 hown hK hP 0 rfl rfl 1 (by decide) (hts _ kl_RX1_18) (fun _ h9 => h9) rfl dX1_countFromHere_16 ?_
  refine va_getN (v := .ref bk) (D := D) (ci := 0) (C := RX0) (T := TX0) (N := 16) hx hb hts in_X0 hown hK hP 1 rfl rfl 15 (by decide) (hts _ kl_RX1_110) (fun _ h9 => h9) rfl dX1_countFromHere_19 ?_
  refine va_getN (v := .long cou) (D := D) (ci := 3) (C := RX3) (T := TX3) (N := 4) hx hb hts in_X3 hown hK hP 2 rfl rfl 1 (by decide) (hts _ kl_RX1_119) (fun _ h9 => h9) rfl dX1_countFromHere_22 ?_
  refine va_put (v := .long cou) (ty := .long) (D := D) (ci := 1) (C := RX1) (T := TX1) (N := 14) hx hb hts in_X1 tyX1 tyX1_ok nmX1 hown hK hP hD hS 0 rfl rfl 11 (by decide) (hts _ kl_RX1_66) (fun _ h9 => h9) rfl (by decide +kernel) rfl rfl (Nat.le_of_ble_eq_true rfl) dX1_countFromHere_25 (fun H locs hP hD hS => ?_)
  have hP : va_P D vwCl ([(fn_1 ch idx cl mt sta prg stp las tb qu wai cin cou hel sbo), (fn_0 cl cur pts nom ohm pol tau chg lft cap thr pz tmp het cun vol bk), (fn_3 bk cin cou ein eou)] ++ ws) H := hP
  have hD : va_D A ([(fn_1 ch idx cl mt sta prg stp las tb qu wai cin cou hel sbo), (fn_0 cl cur pts nom ohm pol tau chg lft cap thr pz tmp het cun vol bk), (fn_3 bk cin cou ein eou)] ++ ws) := hD
  refine lv_aload_n hx hb dX1_countFromHere_28 rfl (lv_at hl 0 rfl) ?_
  refine lv_iconst (v := 0) hx hb dX1_countFromHere_29 (by decide) ?_
  refine va_put (v := .int 0) (ty := .boolean) (D := D) (ci := 1) (C := RX1) (T := TX1) (N := 14) hx hb hts in_X1 tyX1 tyX1_ok nmX1 hown hK hP hD hS 0 rfl rfl 12 (by decide) (hts _ kl_RX1_69) (fun _ h9 => h9) rfl (by decide +kernel) (by decide) rfl (Nat.le_of_ble_eq_true rfl) dX1_countFromHere_30 (fun H locs hP hD hS => ?_)
  have hP : va_P D vwCl ([(fn_1 ch idx cl mt sta prg stp las tb qu wai cin cou (0) sbo), (fn_0 cl cur pts nom ohm pol tau chg lft cap thr pz tmp het cun vol bk), (fn_3 bk cin cou ein eou)] ++ ws) H := hP
  have hD : va_D A ([(fn_1 ch idx cl mt sta prg stp las tb qu wai cin cou (0) sbo), (fn_0 cl cur pts nom ohm pol tau chg lft cap thr pz tmp het cun vol bk), (fn_3 bk cin cou ein eou)] ++ ws) := hD
  exact W.vret hx hb hr (fun t ht hW => ⟨⟨ws, rfl, hT, by rw [ht]; exact hP, by rw [hAe]; exact hD⟩, hS.F ht⟩) hS.2.2 dX1_countFromHere_33
set_option maxRecDepth 100000 in
set_option maxHeartbeats 4000000 in
theorem r_X1_enterStep (l : Launch) (D : va_G) (ct : Nat → ClassId) (S : ty_S) (ws : va_W) (ph : va_W → Prop) (xx : Nat → Nat → Nat → Prop) (ch : Nat) (idx : Int32) (cl : Nat) (mt : Nat) (sta : Int32) (prg : Int32) (stp : Int32) (las : Int32) (tb : Nat) (qu : Nat) (wai : Int32) (bin : Int64) (bou : Int64) (hel : Int32) (sbo : Int64) (cur : Nat) (pts : Int32) (nom : Int32) (ohm : Int32) (pol : Int32) (tau : Int32) (chg : Int32) (lft : Int32) (cap : Int32) (thr : Int32) (pz : Int32) (tmp : Int32) (het : Int32) (cun : Int32) (vol : Int32) (bk : Nat) (cin : Int64) (cou : Int64) (ein : Int64) (eou : Int64) (p1 : Int32) (sz : Nat) (hT : ty_V ct S ph ws) (hph : ty_C ph xx) (hy1 : ty_y1 xx) : Met l yX1_enterStep (ws_ yX1_enterStep cX1_enterStep 2 none) ({ frames := 0, cells := 0, slots := 0, locals := 0 } : Room) (va_Pc [.ref ch, .int p1] (cmP D ct sz ([(fn_1 ch idx cl mt sta prg stp las tb qu wai bin bou hel sbo), (fn_0 cl cur pts nom ohm pol tau chg lft cap thr pz tmp het cun vol bk), (fn_3 bk cin cou ein eou)] ++ ws))) (va_Qv (fun (u9 : va_W) => ty_V ct S ph u9) (cmB D ([(fn_1 ch idx cl mt sta prg stp las tb qu wai bin bou hel sbo), (fn_0 cl cur pts nom ohm pol tau chg lft cap thr pz tmp het cun vol bk), (fn_3 bk cin cou ein eou)] ++ ws) sz (fun (u9 : va_W) => ([(fn_1 ch idx cl mt sta prg p1 (0) tb qu wai bin bou hel cou), (fn_0 cl cur pts nom ohm pol tau chg lft cap thr pz tmp het cun vol bk), (fn_3 bk cin cou ein eou)] ++ u9))) (va_A ([(fn_1 ch idx cl mt sta prg stp las tb qu wai bin bou hel sbo), (fn_0 cl cur pts nom ohm pol tau chg lft cap thr pz tmp het cun vol bk), (fn_3 bk cin cou ein eou)] ++ ws) sz)) 0 0 (va_A ([(fn_1 ch idx cl mt sta prg stp las tb qu wai bin bou hel sbo), (fn_0 cl cur pts nom ohm pol tau chg lft cap thr pz tmp het cun vol bk), (fn_3 bk cin cou ein eou)] ++ ws) sz) := by
  refine Met.ofW (cc := cX1_enterStep) (maxL := 2) (ret := none) (by decide) rfl ?_
  intro p e s m args below meth c s₁ B hml hv
  obtain ⟨rfl, hsz, hP, hK, hD0, hX⟩ := hv
  have hx := B.exec
  have hb := B.bytes
  have hr := B.returns
  have hts := ws_all (atoms_spec (ws := ws_ yX1_enterStep cX1_enterStep 2 none) B.pre)
  have hown : s.vm.findClass RX1 = some m.cls := findClass_of_methodNamed B.named
  have hlocks := B.notSynchronized
  subst hsz
  have hD := hD0.self (sz := s.heap.size)
  generalize hAe : va_A ([(fn_1 ch idx cl mt sta prg stp las tb qu wai bin bou hel sbo), (fn_0 cl cur pts nom ohm pol tau chg lft cap thr pz tmp het cun vol bk), (fn_3 bk cin cou ein eou)] ++ ws) s.heap.size = A at hD hX ⊢
  have hA : ∀ q : Nat, s.heap.size ≤ q → A q := fun q h => by rw [← hAe]; exact Or.inr h
  have hS : va_S A s.heap s.heap [] := va_S.rf
  have hl := lv_entry ([.ref ch, .int p1]) (n := 2) (Nat.le_of_ble_eq_true rfl)
  rw [lg_entry_eq]
  generalize (lg_sl ([.ref ch, .int p1]) ++ List.replicate (2 - (lg_sl ([.ref ch, .int p1])).length) Slot.unset).toArray = ls at hl ⊢
  have hl : lv_has ls 2 [(0, .ref ch), (1, .int p1)] := hl
  refine lv_aload_n hx hb dX1_enterStep_0 rfl (lv_at hl 0 rfl) ?_
  refine lv_iload_n hx hb dX1_enterStep_1 rfl (lv_at hl 1 rfl) ?_
  refine va_put (v := .int p1) (ty := .int) (D := D) (ci := 1) (C := RX1) (T := TX1) (N := 14) hx hb hts in_X1 tyX1 tyX1_ok nmX1 hown hK hP hD hS 0 rfl rfl 5 (by decide) (hts _ kl_RX1_49) (fun _ h9 => h9) rfl (by decide +kernel) rfl rfl (Nat.le_of_ble_eq_true rfl) dX1_enterStep_2 (fun H locs hP hD hS => ?_)
  have hP : va_P D vwCl ([(fn_1 ch idx cl mt sta prg p1 las tb qu wai bin bou hel sbo), (fn_0 cl cur pts nom ohm pol tau chg lft cap thr pz tmp het cun vol bk), (fn_3 bk cin cou ein eou)] ++ ws) H := hP
  have hD : va_D A ([(fn_1 ch idx cl mt sta prg p1 las tb qu wai bin bou hel sbo), (fn_0 cl cur pts nom ohm pol tau chg lft cap thr pz tmp het cun vol bk), (fn_3 bk cin cou ein eou)] ++ ws) := hD
  refine lv_aload_n hx hb dX1_enterStep_5 rfl (lv_at hl 0 rfl) ?_
  refine lv_iconst (v := 0) hx hb dX1_enterStep_6 (by decide) ?_
  refine va_put (v := .int 0) (ty := .int) (D := D) (ci := 1) (C := RX1) (T := TX1) (N := 14) hx hb hts in_X1 tyX1 tyX1_ok nmX1 hown hK hP hD hS 0 rfl rfl 6 (by decide) (hts _ kl_RX1_52) (fun _ h9 => h9) rfl (by decide +kernel) rfl rfl (Nat.le_of_ble_eq_true rfl) dX1_enterStep_7 (fun H locs hP hD hS => ?_)
  have hP : va_P D vwCl ([(fn_1 ch idx cl mt sta prg p1 (0) tb qu wai bin bou hel sbo), (fn_0 cl cur pts nom ohm pol tau chg lft cap thr pz tmp het cun vol bk), (fn_3 bk cin cou ein eou)] ++ ws) H := hP
  have hD : va_D A ([(fn_1 ch idx cl mt sta prg p1 (0) tb qu wai bin bou hel sbo), (fn_0 cl cur pts nom ohm pol tau chg lft cap thr pz tmp het cun vol bk), (fn_3 bk cin cou ein eou)] ++ ws) := hD
  refine lv_aload_n hx hb dX1_enterStep_10 rfl (lv_at hl 0 rfl) ?_
  refine lv_aload_n hx hb dX1_enterStep_11 rfl (lv_at hl 0 rfl) ?_
  refine va_get (v := .ref cl) (D := D) (ci := 1) (C := RX1) (T := TX1) (N := 14) hx hb hts in_X1 hown hK hP 0 rfl rfl 1 (by decide) (hts _ kl_RX1_18) (fun _ h9 => h9) rfl dX1_enterStep_12 ?_
  refine va_getN (v := .ref bk) (D := D) (ci := 0) (C := RX0) (T := TX0) (N := 16) hx hb hts in_X0 hown hK hP 1 rfl rfl 15 (by decide) (hts _ kl_RX1_110) (fun _ h9 => h9) rfl dX1_enterStep_15 ?_
  refine va_getN (v := .long cou) (D := D) (ci := 3) (C := RX3) (T := TX3) (N := 4) hx hb hts in_X3 hown hK hP 2 rfl rfl 1 (by decide) (hts _ kl_RX1_119) (fun _ h9 => h9) rfl dX1_enterStep_18 ?_
  refine va_put (v := .long cou) (ty := .long) (D := D) (ci := 1) (C := RX1) (T := TX1) (N := 14) hx hb hts in_X1 tyX1 tyX1_ok nmX1 hown hK hP hD hS 0 rfl rfl 13 (by decide) (hts _ kl_RX1_73) (fun _ h9 => h9) rfl (by decide +kernel) rfl rfl (Nat.le_of_ble_eq_true rfl) dX1_enterStep_21 (fun H locs hP hD hS => ?_)
  have hP : va_P D vwCl ([(fn_1 ch idx cl mt sta prg p1 (0) tb qu wai bin bou hel cou), (fn_0 cl cur pts nom ohm pol tau chg lft cap thr pz tmp het cun vol bk), (fn_3 bk cin cou ein eou)] ++ ws) H := hP
  have hD : va_D A ([(fn_1 ch idx cl mt sta prg p1 (0) tb qu wai bin bou hel cou), (fn_0 cl cur pts nom ohm pol tau chg lft cap thr pz tmp het cun vol bk), (fn_3 bk cin cou ein eou)] ++ ws) := hD
  exact W.vret hx hb hr (fun t ht hW => ⟨⟨ws, rfl, hT, by rw [ht]; exact hP, by rw [hAe]; exact hD⟩, hS.F ht⟩) hS.2.2 dX1_enterStep_24
def a_X1_stepEnds (prg : Int32) (stp : Int32) (las : Int32) (chg : Int32) (cun : Int32) (vol : Int32) (fkds : Nat → Int32) (ffst : Nat → Int32) (fscs : Nat → Int32) (r : Int32) : Prop := (∃ (r_1 : Int32), (a_X5_firstOf ffst prg stp r_1) ∧ (∃ (r_6 : Int32), (a_X5_secondOf fscs prg stp r_6) ∧ (∃ (r_11 : Int32), (a_X5_kindOf fkds prg stp r_11) ∧ ((r_11 = (0 : Int32) ∧ ((vol < r_6 ∧ (r = 0)) ∨ (¬ vol < r_6 ∧ (r = 1)))) ∨ (¬ r_11 = (0 : Int32) ∧ ((r_11 = (1 : Int32) ∧ ((r_6 < cun ∧ (r = 0)) ∨ (¬ r_6 < cun ∧ (r = 1)))) ∨ (¬ r_11 = (1 : Int32) ∧ ((r_11 = (2 : Int32) ∧ ((vol ≤ r_6 ∧ (r = 1)) ∨ (¬ vol ≤ r_6 ∧ ((¬ chg = (0 : Int32) ∧ (r = 0)) ∨ (chg = (0 : Int32) ∧ (r = 1)))))) ∨ (¬ r_11 = (2 : Int32) ∧ ((las < r_1 ∧ (r = 0)) ∨ (¬ las < r_1 ∧ (r = 1))))))))))))
set_option maxRecDepth 100000 in
set_option maxHeartbeats 4000000 in
theorem r_X1_stepEnds (l : Launch) (D : va_G) (ct : Nat → ClassId) (S : ty_S) (ws : va_W) (ph : va_W → Prop) (xx : Nat → Nat → Nat → Prop) (ch : Nat) (idx : Int32) (cl : Nat) (mt : Nat) (sta : Int32) (prg : Int32) (stp : Int32) (las : Int32) (tb : Nat) (qu : Nat) (wai : Int32) (bin : Int64) (bou : Int64) (hel : Int32) (sbo : Int64) (cur : Nat) (pts : Int32) (nom : Int32) (ohm : Int32) (pol : Int32) (tau : Int32) (chg : Int32) (lft : Int32) (cap : Int32) (thr : Int32) (pz : Int32) (tmp : Int32) (het : Int32) (cun : Int32) (vol : Int32) (bk : Nat) (pr : Nat) (pcn : Int32) (sps : Nat) (kds : Nat) (fst : Nat) (scs : Nat) (fkds : Nat → Int32) (ffst : Nat → Int32) (fscs : Nat → Int32) (sz : Nat) (hT : ty_V ct S ph ws) (hph : ty_C ph xx) (hy1 : ty_y1 xx) : Met l yX1_stepEnds (ws_ yX1_stepEnds cX1_stepEnds 4 (some .boolean)) ({ frames := 2, cells := 0, slots := 0, locals := 43 } : Room) (va_Pc [.ref ch, .ref pr] (cmP D ct sz ([(fn_1 ch idx cl mt sta prg stp las tb qu wai bin bou hel sbo), (fn_0 cl cur pts nom ohm pol tau chg lft cap thr pz tmp het cun vol bk), (fn_5 pr pcn sps kds fst scs), (rf_RW ct 0 kds 48 fkds), (rf_RW ct 0 fst 48 ffst), (rf_RW ct 0 scs 48 fscs)] ++ ws))) (va_Qi (fun (r : Int32) (u9 : va_W) => ty_V ct S ph u9 ∧ (a_X1_stepEnds prg stp las chg cun vol fkds ffst fscs r) ∧ (r = 0 ∨ r = 1)) (cmB D ([(fn_1 ch idx cl mt sta prg stp las tb qu wai bin bou hel sbo), (fn_0 cl cur pts nom ohm pol tau chg lft cap thr pz tmp het cun vol bk), (fn_5 pr pcn sps kds fst scs), (rf_RW ct 0 kds 48 fkds), (rf_RW ct 0 fst 48 ffst), (rf_RW ct 0 scs 48 fscs)] ++ ws) sz (fun (u9 : va_W) => ([(fn_1 ch idx cl mt sta prg stp las tb qu wai bin bou hel sbo), (fn_0 cl cur pts nom ohm pol tau chg lft cap thr pz tmp het cun vol bk), (fn_5 pr pcn sps kds fst scs), (rf_RW ct 0 kds 48 fkds), (rf_RW ct 0 fst 48 ffst), (rf_RW ct 0 scs 48 fscs)] ++ u9))) (va_A ([(fn_1 ch idx cl mt sta prg stp las tb qu wai bin bou hel sbo), (fn_0 cl cur pts nom ohm pol tau chg lft cap thr pz tmp het cun vol bk), (fn_5 pr pcn sps kds fst scs), (rf_RW ct 0 kds 48 fkds), (rf_RW ct 0 fst 48 ffst), (rf_RW ct 0 scs 48 fscs)] ++ ws) sz)) 0 0 (va_A ([(fn_1 ch idx cl mt sta prg stp las tb qu wai bin bou hel sbo), (fn_0 cl cur pts nom ohm pol tau chg lft cap thr pz tmp het cun vol bk), (fn_5 pr pcn sps kds fst scs), (rf_RW ct 0 kds 48 fkds), (rf_RW ct 0 fst 48 ffst), (rf_RW ct 0 scs 48 fscs)] ++ ws) sz) := by
  refine Met.ofW (cc := cX1_stepEnds) (maxL := 4) (ret := (some .boolean)) (by decide) rfl ?_
  intro p e s m args below meth c s₁ B hml hv
  obtain ⟨rfl, hsz, hP, hK, hD0, hX⟩ := hv
  have hx := B.exec
  have hb := B.bytes
  have hr := B.returns
  have hts := ws_all (atoms_spec (ws := ws_ yX1_stepEnds cX1_stepEnds 4 (some .boolean)) B.pre)
  have hown : s.vm.findClass RX1 = some m.cls := findClass_of_methodNamed B.named
  have hlocks := B.notSynchronized
  subst hsz
  have hD := hD0.self (sz := s.heap.size)
  generalize hAe : va_A ([(fn_1 ch idx cl mt sta prg stp las tb qu wai bin bou hel sbo), (fn_0 cl cur pts nom ohm pol tau chg lft cap thr pz tmp het cun vol bk), (fn_5 pr pcn sps kds fst scs), (rf_RW ct 0 kds 48 fkds), (rf_RW ct 0 fst 48 ffst), (rf_RW ct 0 scs 48 fscs)] ++ ws) s.heap.size = A at hD hX ⊢
  have hA : ∀ q : Nat, s.heap.size ≤ q → A q := fun q h => by rw [← hAe]; exact Or.inr h
  have hS : va_S A s.heap s.heap [] := va_S.rf
  have hl := lv_entry ([.ref ch, .ref pr]) (n := 4) (Nat.le_of_ble_eq_true rfl)
  rw [lg_entry_eq]
  generalize (lg_sl ([.ref ch, .ref pr]) ++ List.replicate (4 - (lg_sl ([.ref ch, .ref pr])).length) Slot.unset).toArray = ls at hl ⊢
  have hl : lv_has ls 4 [(0, .ref ch), (1, .ref pr)] := hl
  refine lv_aload_n hx hb dX1_stepEnds_0 rfl (lv_at hl 1 rfl) ?_
  refine lv_aload_n hx hb dX1_stepEnds_1 rfl (lv_at hl 0 rfl) ?_
  refine va_get (v := .int prg) (D := D) (ci := 1) (C := RX1) (T := TX1) (N := 14) hx hb hts in_X1 hown hK hP 0 rfl rfl 4 (by decide) (hts _ kl_RX1_46) (fun _ h9 => h9) rfl dX1_stepEnds_2 ?_
  refine lv_aload_n hx hb dX1_stepEnds_5 rfl (lv_at hl 0 rfl) ?_
  refine va_get (v := .int stp) (D := D) (ci := 1) (C := RX1) (T := TX1) (N := 14) hx hb hts in_X1 hown hK hP 0 rfl rfl 5 (by decide) (hts _ kl_RX1_49) (fun _ h9 => h9) rfl dX1_stepEnds_6 ?_
  obtain ⟨hP, hD⟩ := ty_opPD (E1 := [(fn_1 ch idx cl mt sta prg stp las tb qu wai bin bou hel sbo), (fn_0 cl cur pts nom ohm pol tau chg lft cap thr pz tmp het cun vol bk), (rf_RW ct 0 kds 48 fkds), (rf_RW ct 0 scs 48 fscs)]) (E2 := [(fn_5 pr pcn sps kds fst scs), (rf_RW ct 0 fst 48 ffst)]) (n := 6) [0, 1, 3, 5, 2, 4] hP hD rfl rfl (by decide +kernel) ty_mv2
  refine ty_Ki hP hD hS hA (va_runVN (As := [.int prg, .int stp]) (rest := []) ⟨hx, hb, hml, hown, hts⟩ (r_X5_firstOf l D ct (fun _ => none) [] (fun _ => True) (fun _ _ _ => True) pr pcn sps kds fst scs ffst prg stp _ ty_V0 ty_C0 ty_y10) (cm_VN 2 hts kc_X5_firstOf ki_RX5 kl_RX1_196 kv_X5_firstOf kx_X5_firstOf kd_X5_firstOf ⟨Nat.le_of_ble_eq_true rfl, Nat.le_of_ble_eq_true rfl⟩) (ty_preE (ci := 5) hP hK hD hS hA hX rfl (ty_app (j := 0) rfl)) rfl rfl hl.1 rfl (lv_room (Nat.le_of_ble_eq_true rfl)) dX1_stepEnds_9 ⟨Nat.le_of_ble_eq_true rfl, Nat.le_of_ble_eq_true rfl⟩) (fun r_1 u H locs hw_2 hP hD hS => ?_)
  obtain ⟨ws_3, rfl⟩ : ∃ z, z = u := ⟨_, rfl⟩
  obtain ⟨hT9_4, hp_5⟩ := hw_2
  have hp_5 : (a_X5_firstOf ffst prg stp r_1) := hp_5
  obtain ⟨hP, hD⟩ := ty_bkPD (E := [(fn_1 ch idx cl mt sta prg stp las tb qu wai bin bou hel sbo), (fn_0 cl cur pts nom ohm pol tau chg lft cap thr pz tmp het cun vol bk), (rf_RW ct 0 kds 48 fkds), (rf_RW ct 0 scs 48 fscs), (fn_5 pr pcn sps kds fst scs), (rf_RW ct 0 fst 48 ffst)]) hP hD rfl
  refine lv_istore_n (lv' := [(2, .int r_1), (0, .ref ch), (1, .ref pr)]) hx hb dX1_stepEnds_12 rfl hl (by decide) rfl (fun ls hl => ?_)
  refine lv_aload_n hx hb dX1_stepEnds_13 rfl (lv_at hl 2 rfl) ?_
  refine lv_aload_n hx hb dX1_stepEnds_14 rfl (lv_at hl 1 rfl) ?_
  refine va_get (v := .int prg) (D := D) (ci := 1) (C := RX1) (T := TX1) (N := 14) hx hb hts in_X1 hown hK hP 0 rfl rfl 4 (by decide) (hts _ kl_RX1_46) (fun _ h9 => h9) rfl dX1_stepEnds_15 ?_
  refine lv_aload_n hx hb dX1_stepEnds_18 rfl (lv_at hl 1 rfl) ?_
  refine va_get (v := .int stp) (D := D) (ci := 1) (C := RX1) (T := TX1) (N := 14) hx hb hts in_X1 hown hK hP 0 rfl rfl 5 (by decide) (hts _ kl_RX1_49) (fun _ h9 => h9) rfl dX1_stepEnds_19 ?_
  obtain ⟨hP, hD⟩ := ty_opPD (E1 := [(fn_1 ch idx cl mt sta prg stp las tb qu wai bin bou hel sbo), (fn_0 cl cur pts nom ohm pol tau chg lft cap thr pz tmp het cun vol bk), (rf_RW ct 0 kds 48 fkds), (rf_RW ct 0 fst 48 ffst)]) (E2 := [(fn_5 pr pcn sps kds fst scs), (rf_RW ct 0 scs 48 fscs)]) (n := 6) [0, 1, 2, 5, 4, 3] hP hD rfl rfl (by decide +kernel) ty_mv2
  refine ty_Ki hP hD hS hA (va_runVN (As := [.int prg, .int stp]) (rest := []) ⟨hx, hb, hml, hown, hts⟩ (r_X5_secondOf l D ct (fun _ => none) [] (fun _ => True) (fun _ _ _ => True) pr pcn sps kds fst scs fscs prg stp _ ty_V0 ty_C0 ty_y10) (cm_VN 2 hts kc_X5_secondOf ki_RX5 kl_RX1_231 kv_X5_secondOf kx_X5_secondOf kd_X5_secondOf ⟨Nat.le_of_ble_eq_true rfl, Nat.le_of_ble_eq_true rfl⟩) (ty_preE (ci := 5) hP hK hD hS hA hX rfl (ty_app (j := 0) rfl)) rfl rfl hl.1 rfl (lv_room (Nat.le_of_ble_eq_true rfl)) dX1_stepEnds_22 ⟨Nat.le_of_ble_eq_true rfl, Nat.le_of_ble_eq_true rfl⟩) (fun r_6 u H locs hw_7 hP hD hS => ?_)
  obtain ⟨ws_8, rfl⟩ : ∃ z, z = u := ⟨_, rfl⟩
  obtain ⟨hT9_9, hp_10⟩ := hw_7
  have hp_10 : (a_X5_secondOf fscs prg stp r_6) := hp_10
  obtain ⟨hP, hD⟩ := ty_bkPD (E := [(fn_1 ch idx cl mt sta prg stp las tb qu wai bin bou hel sbo), (fn_0 cl cur pts nom ohm pol tau chg lft cap thr pz tmp het cun vol bk), (rf_RW ct 0 kds 48 fkds), (rf_RW ct 0 fst 48 ffst), (fn_5 pr pcn sps kds fst scs), (rf_RW ct 0 scs 48 fscs)]) hP hD rfl
  refine lv_istore_n (lv' := [(3, .int r_6), (2, .int r_1), (0, .ref ch), (1, .ref pr)]) hx hb dX1_stepEnds_25 rfl hl (by decide) rfl (fun ls hl => ?_)
  refine lv_aload_n hx hb dX1_stepEnds_26 rfl (lv_at hl 3 rfl) ?_
  refine lv_aload_n hx hb dX1_stepEnds_27 rfl (lv_at hl 2 rfl) ?_
  refine va_get (v := .int prg) (D := D) (ci := 1) (C := RX1) (T := TX1) (N := 14) hx hb hts in_X1 hown hK hP 0 rfl rfl 4 (by decide) (hts _ kl_RX1_46) (fun _ h9 => h9) rfl dX1_stepEnds_28 ?_
  refine lv_aload_n hx hb dX1_stepEnds_31 rfl (lv_at hl 2 rfl) ?_
  refine va_get (v := .int stp) (D := D) (ci := 1) (C := RX1) (T := TX1) (N := 14) hx hb hts in_X1 hown hK hP 0 rfl rfl 5 (by decide) (hts _ kl_RX1_49) (fun _ h9 => h9) rfl dX1_stepEnds_32 ?_
  obtain ⟨hP, hD⟩ := ty_opPD (E1 := [(fn_1 ch idx cl mt sta prg stp las tb qu wai bin bou hel sbo), (fn_0 cl cur pts nom ohm pol tau chg lft cap thr pz tmp het cun vol bk), (rf_RW ct 0 fst 48 ffst), (rf_RW ct 0 scs 48 fscs)]) (E2 := [(fn_5 pr pcn sps kds fst scs), (rf_RW ct 0 kds 48 fkds)]) (n := 6) [0, 1, 3, 5, 4, 2] hP hD rfl rfl (by decide +kernel) ty_mv2
  refine ty_Ki hP hD hS hA (va_runVN (As := [.int prg, .int stp]) (rest := []) ⟨hx, hb, hml, hown, hts⟩ (r_X5_kindOf l D ct (fun _ => none) [] (fun _ => True) (fun _ _ _ => True) pr pcn sps kds fst scs fkds prg stp _ ty_V0 ty_C0 ty_y10) (cm_VN 2 hts kc_X5_kindOf ki_RX5 kl_RX1_201 kv_X5_kindOf kx_X5_kindOf kd_X5_kindOf ⟨Nat.le_of_ble_eq_true rfl, Nat.le_of_ble_eq_true rfl⟩) (ty_preE (ci := 5) hP hK hD hS hA hX rfl (ty_app (j := 0) rfl)) rfl rfl hl.1 rfl (lv_room (Nat.le_of_ble_eq_true rfl)) dX1_stepEnds_35 ⟨Nat.le_of_ble_eq_true rfl, Nat.le_of_ble_eq_true rfl⟩) (fun r_11 u H locs hw_12 hP hD hS => ?_)
  obtain ⟨ws_13, rfl⟩ : ∃ z, z = u := ⟨_, rfl⟩
  obtain ⟨hT9_14, hp_15⟩ := hw_12
  have hp_15 : (a_X5_kindOf fkds prg stp r_11) := hp_15
  obtain ⟨hP, hD⟩ := ty_bkPD (E := [(fn_1 ch idx cl mt sta prg stp las tb qu wai bin bou hel sbo), (fn_0 cl cur pts nom ohm pol tau chg lft cap thr pz tmp het cun vol bk), (rf_RW ct 0 fst 48 ffst), (rf_RW ct 0 scs 48 fscs), (fn_5 pr pcn sps kds fst scs), (rf_RW ct 0 kds 48 fkds)]) hP hD rfl
  by_cases hk_16 : r_11 = 0
  · refine cm_cst hk_16 (lv_tableIn (off := 26) (tgt := 64) hx hb dX1_stepEnds_38 (by decide) (by decide) (by decide) (by decide) ?_)
    refine lv_aload_n hx hb dX1_stepEnds_64 rfl (lv_at hl 2 rfl) ?_
    refine va_get (v := .ref cl) (D := D) (ci := 1) (C := RX1) (T := TX1) (N := 14) hx hb hts in_X1 hown hK hP 0 rfl rfl 1 (by decide) (hts _ kl_RX1_18) (fun _ h9 => h9) rfl dX1_stepEnds_65 ?_
    refine va_getN (v := .int vol) (D := D) (ci := 0) (C := RX0) (T := TX0) (N := 16) hx hb hts in_X0 hown hK hP 1 rfl rfl 14 (by decide) (hts _ kl_RX1_79) (fun _ h9 => h9) rfl dX1_stepEnds_68 ?_
    refine lv_iload_n hx hb dX1_stepEnds_71 rfl (lv_at hl 0 rfl) ?_
    refine lv_icmp_lt (tgt := 79) hx hb dX1_stepEnds_72 (by decide) (fun hc_17 => ?_) (fun hc_17 => ?_)
    · refine lv_iconst (v := 0) hx hb dX1_stepEnds_79 (by decide) ?_
      obtain ⟨hP, hD⟩ := ty_ordPD (E2 := [(fn_1 ch idx cl mt sta prg stp las tb qu wai bin bou hel sbo), (fn_0 cl cur pts nom ohm pol tau chg lft cap thr pz tmp het cun vol bk), (fn_5 pr pcn sps kds fst scs), (rf_RW ct 0 kds 48 fkds), (rf_RW ct 0 fst 48 ffst), (rf_RW ct 0 scs 48 fscs)]) (n := 6) [0, 1, 4, 5, 2, 3] hP hD rfl rfl (by decide +kernel)
      exact W.zret (v := 0) hx hb hr (by decide) (fun t ht hW => ⟨⟨0, ws, rfl, ⟨hT, ⟨⟨r_1, hp_5, ⟨r_6, hp_10, ⟨r_11, hp_15, (Or.inl ⟨hk_16, (Or.inl ⟨hc_17, rfl⟩)⟩)⟩⟩⟩, (Or.inl rfl)⟩⟩, by rw [ht]; exact hP, by rw [hAe]; exact hD⟩, hS.F ht⟩) hS.2.2 dX1_stepEnds_80
    · refine lv_iconst (v := 1) hx hb dX1_stepEnds_75 (by decide) ?_
      refine lv_goto (tgt := 80) hx hb dX1_stepEnds_76 (by decide) ?_
      obtain ⟨hP, hD⟩ := ty_ordPD (E2 := [(fn_1 ch idx cl mt sta prg stp las tb qu wai bin bou hel sbo), (fn_0 cl cur pts nom ohm pol tau chg lft cap thr pz tmp het cun vol bk), (fn_5 pr pcn sps kds fst scs), (rf_RW ct 0 kds 48 fkds), (rf_RW ct 0 fst 48 ffst), (rf_RW ct 0 scs 48 fscs)]) (n := 6) [0, 1, 4, 5, 2, 3] hP hD rfl rfl (by decide +kernel)
      exact W.zret (v := 1) hx hb hr (by decide) (fun t ht hW => ⟨⟨1, ws, rfl, ⟨hT, ⟨⟨r_1, hp_5, ⟨r_6, hp_10, ⟨r_11, hp_15, (Or.inl ⟨hk_16, (Or.inr ⟨hc_17, rfl⟩)⟩)⟩⟩⟩, (Or.inr rfl)⟩⟩, by rw [ht]; exact hP, by rw [hAe]; exact hD⟩, hS.F ht⟩) hS.2.2 dX1_stepEnds_80
  by_cases hk_18 : r_11 = 1
  · refine cm_cst hk_18 (lv_tableIn (off := 43) (tgt := 81) hx hb dX1_stepEnds_38 (by decide) (by decide) (by decide) (by decide) ?_)
    refine lv_aload_n hx hb dX1_stepEnds_81 rfl (lv_at hl 2 rfl) ?_
    refine va_get (v := .ref cl) (D := D) (ci := 1) (C := RX1) (T := TX1) (N := 14) hx hb hts in_X1 hown hK hP 0 rfl rfl 1 (by decide) (hts _ kl_RX1_18) (fun _ h9 => h9) rfl dX1_stepEnds_82 ?_
    refine va_getN (v := .int cun) (D := D) (ci := 0) (C := RX0) (T := TX0) (N := 16) hx hb hts in_X0 hown hK hP 1 rfl rfl 13 (by decide) (hts _ kl_RX1_76) (fun _ h9 => h9) rfl dX1_stepEnds_85 ?_
    refine lv_iload_n hx hb dX1_stepEnds_88 rfl (lv_at hl 0 rfl) ?_
    refine lv_icmp_gt (tgt := 96) hx hb dX1_stepEnds_89 (by decide) (fun hc_19 => ?_) (fun hc_19 => ?_)
    · refine lv_iconst (v := 0) hx hb dX1_stepEnds_96 (by decide) ?_
      obtain ⟨hP, hD⟩ := ty_ordPD (E2 := [(fn_1 ch idx cl mt sta prg stp las tb qu wai bin bou hel sbo), (fn_0 cl cur pts nom ohm pol tau chg lft cap thr pz tmp het cun vol bk), (fn_5 pr pcn sps kds fst scs), (rf_RW ct 0 kds 48 fkds), (rf_RW ct 0 fst 48 ffst), (rf_RW ct 0 scs 48 fscs)]) (n := 6) [0, 1, 4, 5, 2, 3] hP hD rfl rfl (by decide +kernel)
      exact W.zret (v := 0) hx hb hr (by decide) (fun t ht hW => ⟨⟨0, ws, rfl, ⟨hT, ⟨⟨r_1, hp_5, ⟨r_6, hp_10, ⟨r_11, hp_15, (Or.inr ⟨hk_16, (Or.inl ⟨hk_18, (Or.inl ⟨hc_19, rfl⟩)⟩)⟩)⟩⟩⟩, (Or.inl rfl)⟩⟩, by rw [ht]; exact hP, by rw [hAe]; exact hD⟩, hS.F ht⟩) hS.2.2 dX1_stepEnds_97
    · refine lv_iconst (v := 1) hx hb dX1_stepEnds_92 (by decide) ?_
      refine lv_goto (tgt := 97) hx hb dX1_stepEnds_93 (by decide) ?_
      obtain ⟨hP, hD⟩ := ty_ordPD (E2 := [(fn_1 ch idx cl mt sta prg stp las tb qu wai bin bou hel sbo), (fn_0 cl cur pts nom ohm pol tau chg lft cap thr pz tmp het cun vol bk), (fn_5 pr pcn sps kds fst scs), (rf_RW ct 0 kds 48 fkds), (rf_RW ct 0 fst 48 ffst), (rf_RW ct 0 scs 48 fscs)]) (n := 6) [0, 1, 4, 5, 2, 3] hP hD rfl rfl (by decide +kernel)
      exact W.zret (v := 1) hx hb hr (by decide) (fun t ht hW => ⟨⟨1, ws, rfl, ⟨hT, ⟨⟨r_1, hp_5, ⟨r_6, hp_10, ⟨r_11, hp_15, (Or.inr ⟨hk_16, (Or.inl ⟨hk_18, (Or.inr ⟨hc_19, rfl⟩)⟩)⟩)⟩⟩⟩, (Or.inr rfl)⟩⟩, by rw [ht]; exact hP, by rw [hAe]; exact hD⟩, hS.F ht⟩) hS.2.2 dX1_stepEnds_97
  by_cases hk_20 : r_11 = 2
  · refine cm_cst hk_20 (lv_tableIn (off := 60) (tgt := 98) hx hb dX1_stepEnds_38 (by decide) (by decide) (by decide) (by decide) ?_)
    refine lv_aload_n hx hb dX1_stepEnds_98 rfl (lv_at hl 2 rfl) ?_
    refine va_get (v := .ref cl) (D := D) (ci := 1) (C := RX1) (T := TX1) (N := 14) hx hb hts in_X1 hown hK hP 0 rfl rfl 1 (by decide) (hts _ kl_RX1_18) (fun _ h9 => h9) rfl dX1_stepEnds_99 ?_
    refine va_getN (v := .int vol) (D := D) (ci := 0) (C := RX0) (T := TX0) (N := 16) hx hb hts in_X0 hown hK hP 1 rfl rfl 14 (by decide) (hts _ kl_RX1_79) (fun _ h9 => h9) rfl dX1_stepEnds_102 ?_
    refine lv_iload_n hx hb dX1_stepEnds_105 rfl (lv_at hl 0 rfl) ?_
    refine lv_icmp_le (tgt := 119) hx hb dX1_stepEnds_106 (by decide) (fun hc_21 => ?_) (fun hc_21 => ?_)
    · refine lv_iconst (v := 1) hx hb dX1_stepEnds_119 (by decide) ?_
      refine lv_goto (tgt := 124) hx hb dX1_stepEnds_120 (by decide) ?_
      obtain ⟨hP, hD⟩ := ty_ordPD (E2 := [(fn_1 ch idx cl mt sta prg stp las tb qu wai bin bou hel sbo), (fn_0 cl cur pts nom ohm pol tau chg lft cap thr pz tmp het cun vol bk), (fn_5 pr pcn sps kds fst scs), (rf_RW ct 0 kds 48 fkds), (rf_RW ct 0 fst 48 ffst), (rf_RW ct 0 scs 48 fscs)]) (n := 6) [0, 1, 4, 5, 2, 3] hP hD rfl rfl (by decide +kernel)
      exact W.zret (v := 1) hx hb hr (by decide) (fun t ht hW => ⟨⟨1, ws, rfl, ⟨hT, ⟨⟨r_1, hp_5, ⟨r_6, hp_10, ⟨r_11, hp_15, (Or.inr ⟨hk_16, (Or.inr ⟨hk_18, (Or.inl ⟨hk_20, (Or.inl ⟨hc_21, rfl⟩)⟩)⟩)⟩)⟩⟩⟩, (Or.inr rfl)⟩⟩, by rw [ht]; exact hP, by rw [hAe]; exact hD⟩, hS.F ht⟩) hS.2.2 dX1_stepEnds_124
    · refine lv_aload_n hx hb dX1_stepEnds_109 rfl (lv_at hl 2 rfl) ?_
      refine va_get (v := .ref cl) (D := D) (ci := 1) (C := RX1) (T := TX1) (N := 14) hx hb hts in_X1 hown hK hP 0 rfl rfl 1 (by decide) (hts _ kl_RX1_18) (fun _ h9 => h9) rfl dX1_stepEnds_110 ?_
      refine va_getN (v := .int chg) (D := D) (ci := 0) (C := RX0) (T := TX0) (N := 16) hx hb hts in_X0 hown hK hP 1 rfl rfl 6 (by decide) (hts _ kl_RX1_82) (fun _ h9 => h9) rfl dX1_stepEnds_113 ?_
      refine lv_if_ne (tgt := 123) hx hb dX1_stepEnds_116 (by decide) (fun hc_22 => ?_) (fun hc_22 => ?_)
      · refine lv_iconst (v := 0) hx hb dX1_stepEnds_123 (by decide) ?_
        obtain ⟨hP, hD⟩ := ty_ordPD (E2 := [(fn_1 ch idx cl mt sta prg stp las tb qu wai bin bou hel sbo), (fn_0 cl cur pts nom ohm pol tau chg lft cap thr pz tmp het cun vol bk), (fn_5 pr pcn sps kds fst scs), (rf_RW ct 0 kds 48 fkds), (rf_RW ct 0 fst 48 ffst), (rf_RW ct 0 scs 48 fscs)]) (n := 6) [0, 1, 4, 5, 2, 3] hP hD rfl rfl (by decide +kernel)
        exact W.zret (v := 0) hx hb hr (by decide) (fun t ht hW => ⟨⟨0, ws, rfl, ⟨hT, ⟨⟨r_1, hp_5, ⟨r_6, hp_10, ⟨r_11, hp_15, (Or.inr ⟨hk_16, (Or.inr ⟨hk_18, (Or.inl ⟨hk_20, (Or.inr ⟨hc_21, (Or.inl ⟨hc_22, rfl⟩)⟩)⟩)⟩)⟩)⟩⟩⟩, (Or.inl rfl)⟩⟩, by rw [ht]; exact hP, by rw [hAe]; exact hD⟩, hS.F ht⟩) hS.2.2 dX1_stepEnds_124
      · refine lv_iconst (v := 1) hx hb dX1_stepEnds_119 (by decide) ?_
        refine lv_goto (tgt := 124) hx hb dX1_stepEnds_120 (by decide) ?_
        obtain ⟨hP, hD⟩ := ty_ordPD (E2 := [(fn_1 ch idx cl mt sta prg stp las tb qu wai bin bou hel sbo), (fn_0 cl cur pts nom ohm pol tau chg lft cap thr pz tmp het cun vol bk), (fn_5 pr pcn sps kds fst scs), (rf_RW ct 0 kds 48 fkds), (rf_RW ct 0 fst 48 ffst), (rf_RW ct 0 scs 48 fscs)]) (n := 6) [0, 1, 4, 5, 2, 3] hP hD rfl rfl (by decide +kernel)
        exact W.zret (v := 1) hx hb hr (by decide) (fun t ht hW => ⟨⟨1, ws, rfl, ⟨hT, ⟨⟨r_1, hp_5, ⟨r_6, hp_10, ⟨r_11, hp_15, (Or.inr ⟨hk_16, (Or.inr ⟨hk_18, (Or.inl ⟨hk_20, (Or.inr ⟨hc_21, (Or.inr ⟨hc_22, rfl⟩)⟩)⟩)⟩)⟩)⟩⟩⟩, (Or.inr rfl)⟩⟩, by rw [ht]; exact hP, by rw [hAe]; exact hD⟩, hS.F ht⟩) hS.2.2 dX1_stepEnds_124
  refine lv_tableOut (tgt := 125) hx hb dX1_stepEnds_38 (ty_sw0_2 hk_16 hk_18 hk_20) (by decide) ?_
  refine lv_aload_n hx hb dX1_stepEnds_125 rfl (lv_at hl 2 rfl) ?_
  refine va_get (v := .int las) (D := D) (ci := 1) (C := RX1) (T := TX1) (N := 14) hx hb hts in_X1 hown hK hP 0 rfl rfl 6 (by decide) (hts _ kl_RX1_52) (fun _ h9 => h9) rfl dX1_stepEnds_126 ?_
  refine lv_iload_n hx hb dX1_stepEnds_129 rfl (lv_at hl 1 rfl) ?_
  refine lv_icmp_lt (tgt := 137) hx hb dX1_stepEnds_130 (by decide) (fun hc_23 => ?_) (fun hc_23 => ?_)
  · refine lv_iconst (v := 0) hx hb dX1_stepEnds_137 (by decide) ?_
    obtain ⟨hP, hD⟩ := ty_ordPD (E2 := [(fn_1 ch idx cl mt sta prg stp las tb qu wai bin bou hel sbo), (fn_0 cl cur pts nom ohm pol tau chg lft cap thr pz tmp het cun vol bk), (fn_5 pr pcn sps kds fst scs), (rf_RW ct 0 kds 48 fkds), (rf_RW ct 0 fst 48 ffst), (rf_RW ct 0 scs 48 fscs)]) (n := 6) [0, 1, 4, 5, 2, 3] hP hD rfl rfl (by decide +kernel)
    exact W.zret (v := 0) hx hb hr (by decide) (fun t ht hW => ⟨⟨0, ws, rfl, ⟨hT, ⟨⟨r_1, hp_5, ⟨r_6, hp_10, ⟨r_11, hp_15, (Or.inr ⟨hk_16, (Or.inr ⟨hk_18, (Or.inr ⟨hk_20, (Or.inl ⟨hc_23, rfl⟩)⟩)⟩)⟩)⟩⟩⟩, (Or.inl rfl)⟩⟩, by rw [ht]; exact hP, by rw [hAe]; exact hD⟩, hS.F ht⟩) hS.2.2 dX1_stepEnds_138
  · refine lv_iconst (v := 1) hx hb dX1_stepEnds_133 (by decide) ?_
    refine lv_goto (tgt := 138) hx hb dX1_stepEnds_134 (by decide) ?_
    obtain ⟨hP, hD⟩ := ty_ordPD (E2 := [(fn_1 ch idx cl mt sta prg stp las tb qu wai bin bou hel sbo), (fn_0 cl cur pts nom ohm pol tau chg lft cap thr pz tmp het cun vol bk), (fn_5 pr pcn sps kds fst scs), (rf_RW ct 0 kds 48 fkds), (rf_RW ct 0 fst 48 ffst), (rf_RW ct 0 scs 48 fscs)]) (n := 6) [0, 1, 4, 5, 2, 3] hP hD rfl rfl (by decide +kernel)
    exact W.zret (v := 1) hx hb hr (by decide) (fun t ht hW => ⟨⟨1, ws, rfl, ⟨hT, ⟨⟨r_1, hp_5, ⟨r_6, hp_10, ⟨r_11, hp_15, (Or.inr ⟨hk_16, (Or.inr ⟨hk_18, (Or.inr ⟨hk_20, (Or.inr ⟨hc_23, rfl⟩)⟩)⟩)⟩)⟩⟩⟩, (Or.inr rfl)⟩⟩, by rw [ht]; exact hP, by rw [hAe]; exact hD⟩, hS.F ht⟩) hS.2.2 dX1_stepEnds_138
def a_X1_tripReason (las : Int32) (tmp : Int32) (vol : Int32) (low : Int32) (hig : Int32) (hot : Int32) (p1 : Int32) (r : Int32) : Prop := ((vol ≤ hig ∧ ((low ≤ vol ∧ ((tmp ≤ hot ∧ ((las < (20000 : Int32) ∧ (r = 0)) ∨ (¬ las < (20000 : Int32) ∧ ((¬ p1 = (0 : Int32) ∧ (r = 0)) ∨ (p1 = (0 : Int32) ∧ (r = 4)))))) ∨ (¬ tmp ≤ hot ∧ (r = 3)))) ∨ (¬ low ≤ vol ∧ (r = 2)))) ∨ (¬ vol ≤ hig ∧ (r = 1)))
set_option maxRecDepth 100000 in
set_option maxHeartbeats 4000000 in
theorem r_X1_tripReason (l : Launch) (D : va_G) (ct : Nat → ClassId) (S : ty_S) (ws : va_W) (ph : va_W → Prop) (xx : Nat → Nat → Nat → Prop) (ch : Nat) (idx : Int32) (cl : Nat) (mt : Nat) (sta : Int32) (prg : Int32) (stp : Int32) (las : Int32) (tb : Nat) (qu : Nat) (wai : Int32) (bin : Int64) (bou : Int64) (hel : Int32) (sbo : Int64) (cur : Nat) (pts : Int32) (nom : Int32) (ohm : Int32) (pol : Int32) (tau : Int32) (chg : Int32) (lft : Int32) (cap : Int32) (thr : Int32) (pz : Int32) (tmp : Int32) (het : Int32) (cun : Int32) (vol : Int32) (bk : Nat) (se : Nat) (efc : Int32) (fad : Int32) (hea : Int32) (coo : Int32) (low : Int32) (hig : Int32) (hot : Int32) (amb : Int32) (wlo : Int32) (whi : Int32) (who : Int32) (spa : Int32) (p1 : Int32) (sz : Nat) (hT : ty_V ct S ph ws) (hph : ty_C ph xx) (hy1 : ty_y1 xx) : Met l yX1_tripReason (ws_ yX1_tripReason cX1_tripReason 3 (some .int)) ({ frames := 0, cells := 0, slots := 0, locals := 0 } : Room) (va_Pc [.ref ch, .ref se, .int p1] (cmP D ct sz ([(fn_1 ch idx cl mt sta prg stp las tb qu wai bin bou hel sbo), (fn_0 cl cur pts nom ohm pol tau chg lft cap thr pz tmp het cun vol bk), (fn_7 se efc fad hea coo low hig hot amb wlo whi who spa)] ++ ws))) (va_Qi (fun (r : Int32) (u9 : va_W) => ty_V ct S ph u9 ∧ (a_X1_tripReason las tmp vol low hig hot p1 r)) (cmB D ([(fn_1 ch idx cl mt sta prg stp las tb qu wai bin bou hel sbo), (fn_0 cl cur pts nom ohm pol tau chg lft cap thr pz tmp het cun vol bk), (fn_7 se efc fad hea coo low hig hot amb wlo whi who spa)] ++ ws) sz (fun (u9 : va_W) => ([(fn_1 ch idx cl mt sta prg stp las tb qu wai bin bou hel sbo), (fn_0 cl cur pts nom ohm pol tau chg lft cap thr pz tmp het cun vol bk), (fn_7 se efc fad hea coo low hig hot amb wlo whi who spa)] ++ u9))) (va_A ([(fn_1 ch idx cl mt sta prg stp las tb qu wai bin bou hel sbo), (fn_0 cl cur pts nom ohm pol tau chg lft cap thr pz tmp het cun vol bk), (fn_7 se efc fad hea coo low hig hot amb wlo whi who spa)] ++ ws) sz)) 0 0 (va_A ([(fn_1 ch idx cl mt sta prg stp las tb qu wai bin bou hel sbo), (fn_0 cl cur pts nom ohm pol tau chg lft cap thr pz tmp het cun vol bk), (fn_7 se efc fad hea coo low hig hot amb wlo whi who spa)] ++ ws) sz) := by
  refine Met.ofW (cc := cX1_tripReason) (maxL := 3) (ret := (some .int)) (by decide) rfl ?_
  intro p e s m args below meth c s₁ B hml hv
  obtain ⟨rfl, hsz, hP, hK, hD0, hX⟩ := hv
  have hx := B.exec
  have hb := B.bytes
  have hr := B.returns
  have hts := ws_all (atoms_spec (ws := ws_ yX1_tripReason cX1_tripReason 3 (some .int)) B.pre)
  have hown : s.vm.findClass RX1 = some m.cls := findClass_of_methodNamed B.named
  have hlocks := B.notSynchronized
  subst hsz
  have hD := hD0.self (sz := s.heap.size)
  generalize hAe : va_A ([(fn_1 ch idx cl mt sta prg stp las tb qu wai bin bou hel sbo), (fn_0 cl cur pts nom ohm pol tau chg lft cap thr pz tmp het cun vol bk), (fn_7 se efc fad hea coo low hig hot amb wlo whi who spa)] ++ ws) s.heap.size = A at hD hX ⊢
  have hA : ∀ q : Nat, s.heap.size ≤ q → A q := fun q h => by rw [← hAe]; exact Or.inr h
  have hS : va_S A s.heap s.heap [] := va_S.rf
  have hl := lv_entry ([.ref ch, .ref se, .int p1]) (n := 3) (Nat.le_of_ble_eq_true rfl)
  rw [lg_entry_eq]
  generalize (lg_sl ([.ref ch, .ref se, .int p1]) ++ List.replicate (3 - (lg_sl ([.ref ch, .ref se, .int p1])).length) Slot.unset).toArray = ls at hl ⊢
  have hl : lv_has ls 3 [(0, .ref ch), (1, .ref se), (2, .int p1)] := hl
  refine lv_aload_n hx hb dX1_tripReason_0 rfl (lv_at hl 0 rfl) ?_
  refine va_get (v := .ref cl) (D := D) (ci := 1) (C := RX1) (T := TX1) (N := 14) hx hb hts in_X1 hown hK hP 0 rfl rfl 1 (by decide) (hts _ kl_RX1_18) (fun _ h9 => h9) rfl dX1_tripReason_1 ?_
  refine va_getN (v := .int vol) (D := D) (ci := 0) (C := RX0) (T := TX0) (N := 16) hx hb hts in_X0 hown hK hP 1 rfl rfl 14 (by decide) (hts _ kl_RX1_79) (fun _ h9 => h9) rfl dX1_tripReason_4 ?_
  refine lv_aload_n hx hb dX1_tripReason_7 rfl (lv_at hl 1 rfl) ?_
  refine va_getN (v := .int hig) (D := D) (ci := 7) (C := RX7) (T := TX7) (N := 12) hx hb hts in_X7 hown hK hP 2 rfl rfl 5 (by decide) (hts _ kl_RX1_222) (fun _ h9 => h9) rfl dX1_tripReason_8 ?_
  refine lv_icmp_le (tgt := 16) hx hb dX1_tripReason_11 (by decide) (fun hc_1 => ?_) (fun hc_1 => ?_)
  · refine lv_aload_n hx hb dX1_tripReason_16 rfl (lv_at hl 0 rfl) ?_
    refine va_get (v := .ref cl) (D := D) (ci := 1) (C := RX1) (T := TX1) (N := 14) hx hb hts in_X1 hown hK hP 0 rfl rfl 1 (by decide) (hts _ kl_RX1_18) (fun _ h9 => h9) rfl dX1_tripReason_17 ?_
    refine va_getN (v := .int vol) (D := D) (ci := 0) (C := RX0) (T := TX0) (N := 16) hx hb hts in_X0 hown hK hP 1 rfl rfl 14 (by decide) (hts _ kl_RX1_79) (fun _ h9 => h9) rfl dX1_tripReason_20 ?_
    refine lv_aload_n hx hb dX1_tripReason_23 rfl (lv_at hl 1 rfl) ?_
    refine va_getN (v := .int low) (D := D) (ci := 7) (C := RX7) (T := TX7) (N := 12) hx hb hts in_X7 hown hK hP 2 rfl rfl 4 (by decide) (hts _ kl_RX1_225) (fun _ h9 => h9) rfl dX1_tripReason_24 ?_
    refine lv_icmp_ge (tgt := 32) hx hb dX1_tripReason_27 (by decide) (fun hc_2 => ?_) (fun hc_2 => ?_)
    · refine lv_aload_n hx hb dX1_tripReason_32 rfl (lv_at hl 0 rfl) ?_
      refine va_get (v := .ref cl) (D := D) (ci := 1) (C := RX1) (T := TX1) (N := 14) hx hb hts in_X1 hown hK hP 0 rfl rfl 1 (by decide) (hts _ kl_RX1_18) (fun _ h9 => h9) rfl dX1_tripReason_33 ?_
      refine va_getN (v := .int tmp) (D := D) (ci := 0) (C := RX0) (T := TX0) (N := 16) hx hb hts in_X0 hown hK hP 1 rfl rfl 11 (by decide) (hts _ kl_RX1_91) (fun _ h9 => h9) rfl dX1_tripReason_36 ?_
      refine lv_aload_n hx hb dX1_tripReason_39 rfl (lv_at hl 1 rfl) ?_
      refine va_getN (v := .int hot) (D := D) (ci := 7) (C := RX7) (T := TX7) (N := 12) hx hb hts in_X7 hown hK hP 2 rfl rfl 6 (by decide) (hts _ kl_RX1_228) (fun _ h9 => h9) rfl dX1_tripReason_40 ?_
      refine lv_icmp_le (tgt := 48) hx hb dX1_tripReason_43 (by decide) (fun hc_3 => ?_) (fun hc_3 => ?_)
      · refine lv_aload_n hx hb dX1_tripReason_48 rfl (lv_at hl 0 rfl) ?_
        refine va_get (v := .int las) (D := D) (ci := 1) (C := RX1) (T := TX1) (N := 14) hx hb hts in_X1 hown hK hP 0 rfl rfl 6 (by decide) (hts _ kl_RX1_52) (fun _ h9 => h9) rfl dX1_tripReason_49 ?_
        refine lv_sipush (v := 20000) hx hb dX1_tripReason_52 (by decide) ?_
        refine lv_icmp_lt (tgt := 66) hx hb dX1_tripReason_55 (by decide) (fun hc_4 => ?_) (fun hc_4 => ?_)
        · refine lv_iconst (v := 0) hx hb dX1_tripReason_66 (by decide) ?_
          exact W.iret (v := 0) hx hb hr (fun t ht hW => ⟨⟨0, ws, rfl, ⟨hT, (Or.inl ⟨hc_1, (Or.inl ⟨hc_2, (Or.inl ⟨hc_3, (Or.inl ⟨hc_4, rfl⟩)⟩)⟩)⟩)⟩, by rw [ht]; exact hP, by rw [hAe]; exact hD⟩, hS.F ht⟩) hS.2.2 dX1_tripReason_67
        · refine lv_iload_n hx hb dX1_tripReason_58 rfl (lv_at hl 2 rfl) ?_
          refine lv_if_ne (tgt := 66) hx hb dX1_tripReason_59 (by decide) (fun hc_5 => ?_) (fun hc_5 => ?_)
          · refine lv_iconst (v := 0) hx hb dX1_tripReason_66 (by decide) ?_
            exact W.iret (v := 0) hx hb hr (fun t ht hW => ⟨⟨0, ws, rfl, ⟨hT, (Or.inl ⟨hc_1, (Or.inl ⟨hc_2, (Or.inl ⟨hc_3, (Or.inr ⟨hc_4, (Or.inl ⟨hc_5, rfl⟩)⟩)⟩)⟩)⟩)⟩, by rw [ht]; exact hP, by rw [hAe]; exact hD⟩, hS.F ht⟩) hS.2.2 dX1_tripReason_67
          · refine lv_iconst (v := 4) hx hb dX1_tripReason_62 (by decide) ?_
            refine lv_goto (tgt := 67) hx hb dX1_tripReason_63 (by decide) ?_
            exact W.iret (v := 4) hx hb hr (fun t ht hW => ⟨⟨4, ws, rfl, ⟨hT, (Or.inl ⟨hc_1, (Or.inl ⟨hc_2, (Or.inl ⟨hc_3, (Or.inr ⟨hc_4, (Or.inr ⟨hc_5, rfl⟩)⟩)⟩)⟩)⟩)⟩, by rw [ht]; exact hP, by rw [hAe]; exact hD⟩, hS.F ht⟩) hS.2.2 dX1_tripReason_67
      · refine lv_iconst (v := 3) hx hb dX1_tripReason_46 (by decide) ?_
        exact W.iret (v := 3) hx hb hr (fun t ht hW => ⟨⟨3, ws, rfl, ⟨hT, (Or.inl ⟨hc_1, (Or.inl ⟨hc_2, (Or.inr ⟨hc_3, rfl⟩)⟩)⟩)⟩, by rw [ht]; exact hP, by rw [hAe]; exact hD⟩, hS.F ht⟩) hS.2.2 dX1_tripReason_47
    · refine lv_iconst (v := 2) hx hb dX1_tripReason_30 (by decide) ?_
      exact W.iret (v := 2) hx hb hr (fun t ht hW => ⟨⟨2, ws, rfl, ⟨hT, (Or.inl ⟨hc_1, (Or.inr ⟨hc_2, rfl⟩)⟩)⟩, by rw [ht]; exact hP, by rw [hAe]; exact hD⟩, hS.F ht⟩) hS.2.2 dX1_tripReason_31
  · refine lv_iconst (v := 1) hx hb dX1_tripReason_14 (by decide) ?_
    exact W.iret (v := 1) hx hb hr (fun t ht hW => ⟨⟨1, ws, rfl, ⟨hT, (Or.inr ⟨hc_1, rfl⟩)⟩, by rw [ht]; exact hP, by rw [hAe]; exact hD⟩, hS.F ht⟩) hS.2.2 dX1_tripReason_15
def a_X1_trip (idx : Int32) (tim : Int32) (llim : Int32) (lwid : Int32) (lold : Int32) (lsiz : Int32) (fln : Nat → Int32) (p1 : Int32) (sta1 : Int32) (trr1 : Int32) : Prop := (∃ (lold1_4 : Int32) (lsiz1_5 : Int32) (fln1_6 : Nat → Int32), (a_X9_note tim llim lwid lold lsiz fln idx (3 : Int32) p1) ∧ (sta1 = 4 ∧ trr1 = p1))
set_option maxRecDepth 100000 in
set_option maxHeartbeats 4000000 in
theorem r_X1_trip (l : Launch) (D : va_G) (ct : Nat → ClassId) (S : ty_S) (ws : va_W) (ph : va_W → Prop) (xx : Nat → Nat → Nat → Prop) (ch : Nat) (idx : Int32) (cl : Nat) (mt : Nat) (sta : Int32) (prg : Int32) (stp : Int32) (las : Int32) (tb : Nat) (qu : Nat) (wai : Int32) (bin : Int64) (bou : Int64) (hel : Int32) (sbo : Int64) (res : Int32) (mca : Int32) (mre : Int32) (trr : Int32) (wfo : Int32) (wct : Int32) (bd : Nat) (wo : Nat) (tim : Int32) (se : Nat) (cu : Nat) (pr : Nat) (cco : Int32) (chs : Nat) (rc : Nat) (lg : Nat) (llim : Int32) (lwid : Int32) (lnu : Nat) (lold : Int32) (lsiz : Int32) (fln : Nat → Int32) (p1 : Int32) (sz : Nat) (hT : ty_V ct S ph ws) (hph : ty_C ph xx) (hy1 : ty_y1 xx) : Met l yX1_trip (ws_ yX1_trip cX1_trip 3 none) ({ frames := 2, cells := 0, slots := 0, locals := 46 } : Room) (va_Pc [.ref ch, .int p1, .ref wo] (cmP D ct sz ([(fn_1 ch idx cl mt sta prg stp las tb qu wai bin bou hel sbo), (fn_4 mt res mca mre trr wfo wct bd), (fn_9 wo tim se cu pr cco chs rc lg), (fn_8 lg llim lwid lnu lold lsiz), (rf_RW ct 0 lnu 240 fln)] ++ ws))) (va_Qv (fun (u : va_W × Int32 × Int32 × Int32 × Int32 × (Nat → Int32)) => match u with | (u9, sta1, trr1, lold1, lsiz1, fln1) => ty_V ct S ph u9 ∧ (a_X1_trip idx tim llim lwid lold lsiz fln p1 sta1 trr1)) (cmB D ([(fn_1 ch idx cl mt sta prg stp las tb qu wai bin bou hel sbo), (fn_4 mt res mca mre trr wfo wct bd), (fn_9 wo tim se cu pr cco chs rc lg), (fn_8 lg llim lwid lnu lold lsiz), (rf_RW ct 0 lnu 240 fln)] ++ ws) sz (fun (u : va_W × Int32 × Int32 × Int32 × Int32 × (Nat → Int32)) => match u with | (u9, sta1, trr1, lold1, lsiz1, fln1) => ([(fn_1 ch idx cl mt sta1 prg stp las tb qu wai bin bou hel sbo), (fn_4 mt res mca mre trr1 wfo wct bd), (fn_9 wo tim se cu pr cco chs rc lg), (fn_8 lg llim lwid lnu lold1 lsiz1), (rf_RW ct 0 lnu 240 fln1)] ++ u9))) (va_A ([(fn_1 ch idx cl mt sta prg stp las tb qu wai bin bou hel sbo), (fn_4 mt res mca mre trr wfo wct bd), (fn_9 wo tim se cu pr cco chs rc lg), (fn_8 lg llim lwid lnu lold lsiz), (rf_RW ct 0 lnu 240 fln)] ++ ws) sz)) 0 0 (va_A ([(fn_1 ch idx cl mt sta prg stp las tb qu wai bin bou hel sbo), (fn_4 mt res mca mre trr wfo wct bd), (fn_9 wo tim se cu pr cco chs rc lg), (fn_8 lg llim lwid lnu lold lsiz), (rf_RW ct 0 lnu 240 fln)] ++ ws) sz) := by
  refine Met.ofW (cc := cX1_trip) (maxL := 3) (ret := none) (by decide) rfl ?_
  intro p e s m args below meth c s₁ B hml hv
  obtain ⟨rfl, hsz, hP, hK, hD0, hX⟩ := hv
  have hx := B.exec
  have hb := B.bytes
  have hr := B.returns
  have hts := ws_all (atoms_spec (ws := ws_ yX1_trip cX1_trip 3 none) B.pre)
  have hown : s.vm.findClass RX1 = some m.cls := findClass_of_methodNamed B.named
  have hlocks := B.notSynchronized
  subst hsz
  have hD := hD0.self (sz := s.heap.size)
  generalize hAe : va_A ([(fn_1 ch idx cl mt sta prg stp las tb qu wai bin bou hel sbo), (fn_4 mt res mca mre trr wfo wct bd), (fn_9 wo tim se cu pr cco chs rc lg), (fn_8 lg llim lwid lnu lold lsiz), (rf_RW ct 0 lnu 240 fln)] ++ ws) s.heap.size = A at hD hX ⊢
  have hA : ∀ q : Nat, s.heap.size ≤ q → A q := fun q h => by rw [← hAe]; exact Or.inr h
  have hS : va_S A s.heap s.heap [] := va_S.rf
  have hl := lv_entry ([.ref ch, .int p1, .ref wo]) (n := 3) (Nat.le_of_ble_eq_true rfl)
  rw [lg_entry_eq]
  generalize (lg_sl ([.ref ch, .int p1, .ref wo]) ++ List.replicate (3 - (lg_sl ([.ref ch, .int p1, .ref wo])).length) Slot.unset).toArray = ls at hl ⊢
  have hl : lv_has ls 3 [(0, .ref ch), (1, .int p1), (2, .ref wo)] := hl
  refine lv_aload_n hx hb dX1_trip_0 rfl (lv_at hl 0 rfl) ?_
  refine lv_iconst (v := 4) hx hb dX1_trip_1 (by decide) ?_
  refine va_put (v := .int 4) (ty := .int) (D := D) (ci := 1) (C := RX1) (T := TX1) (N := 14) hx hb hts in_X1 tyX1 tyX1_ok nmX1 hown hK hP hD hS 0 rfl rfl 3 (by decide) (hts _ kl_RX1_43) (fun _ h9 => h9) rfl (by decide +kernel) rfl rfl (Nat.le_of_ble_eq_true rfl) dX1_trip_2 (fun H locs hP hD hS => ?_)
  have hP : va_P D vwCl ([(fn_1 ch idx cl mt (4) prg stp las tb qu wai bin bou hel sbo), (fn_4 mt res mca mre trr wfo wct bd), (fn_9 wo tim se cu pr cco chs rc lg), (fn_8 lg llim lwid lnu lold lsiz), (rf_RW ct 0 lnu 240 fln)] ++ ws) H := hP
  have hD : va_D A ([(fn_1 ch idx cl mt (4) prg stp las tb qu wai bin bou hel sbo), (fn_4 mt res mca mre trr wfo wct bd), (fn_9 wo tim se cu pr cco chs rc lg), (fn_8 lg llim lwid lnu lold lsiz), (rf_RW ct 0 lnu 240 fln)] ++ ws) := hD
  refine lv_aload_n hx hb dX1_trip_5 rfl (lv_at hl 0 rfl) ?_
  refine va_get (v := .ref mt) (D := D) (ci := 1) (C := RX1) (T := TX1) (N := 14) hx hb hts in_X1 hown hK hP 0 rfl rfl 2 (by decide) (hts _ kl_RX1_25) (fun _ h9 => h9) rfl dX1_trip_6 ?_
  refine lv_iload_n hx hb dX1_trip_9 rfl (lv_at hl 1 rfl) ?_
  refine va_putN (v := .int p1) (ty := .int) (D := D) (ci := 4) (C := RX4) (T := TX4) (N := 7) hx hb hts in_X4 tyX4 tyX4_ok nmX4 hown hK hP hD hS 1 rfl rfl 3 (by decide) (hts _ kl_RX1_94) (fun _ h9 => h9) rfl (by decide +kernel) rfl rfl (Nat.le_of_ble_eq_true rfl) dX1_trip_10 (fun H locs hP hD hS => ?_)
  have hP : va_P D vwCl ([(fn_1 ch idx cl mt (4) prg stp las tb qu wai bin bou hel sbo), (fn_4 mt res mca mre p1 wfo wct bd), (fn_9 wo tim se cu pr cco chs rc lg), (fn_8 lg llim lwid lnu lold lsiz), (rf_RW ct 0 lnu 240 fln)] ++ ws) H := hP
  have hD : va_D A ([(fn_1 ch idx cl mt (4) prg stp las tb qu wai bin bou hel sbo), (fn_4 mt res mca mre p1 wfo wct bd), (fn_9 wo tim se cu pr cco chs rc lg), (fn_8 lg llim lwid lnu lold lsiz), (rf_RW ct 0 lnu 240 fln)] ++ ws) := hD
  refine lv_aload_n hx hb dX1_trip_13 rfl (lv_at hl 2 rfl) ?_
  refine lv_aload_n hx hb dX1_trip_14 rfl (lv_at hl 0 rfl) ?_
  refine va_get (v := .int idx) (D := D) (ci := 1) (C := RX1) (T := TX1) (N := 14) hx hb hts in_X1 hown hK hP 0 rfl rfl 0 (by decide) (hts _ kl_RX1_9) (fun _ h9 => h9) rfl dX1_trip_15 ?_
  refine lv_iconst (v := 3) hx hb dX1_trip_18 (by decide) ?_
  refine lv_iload_n hx hb dX1_trip_19 rfl (lv_at hl 1 rfl) ?_
  obtain ⟨hP, hD⟩ := ty_ipPD (E1 := [(fn_1 ch idx cl mt (4) prg stp las tb qu wai bin bou hel sbo), (fn_4 mt res mca mre p1 wfo wct bd)]) (E2 := [(fn_9 wo tim se cu pr cco chs rc lg), (fn_8 lg llim lwid lnu lold lsiz), (rf_RW ct 0 lnu 240 fln)]) hP hD rfl ty_mv2
  refine ty_Kv hP hD hS hA (va_runVN (As := [.int idx, .int 3, .int p1]) (rest := []) ⟨hx, hb, hml, hown, hts⟩ (r_X9_note l D ct (fun _ => none) [] (fun _ => True) (fun _ _ _ => True) wo tim se cu pr cco chs rc lg llim lwid lnu lold lsiz fln idx (3 : Int32) p1 _ ty_V0 ty_C0 ty_y10) (cm_VN 3 hts kc_X9_note ki_RX9 kl_RX1_100 kv_X9_note kx_X9_note kd_X9_note ⟨Nat.le_of_ble_eq_true rfl, Nat.le_of_ble_eq_true rfl⟩) (ty_preE (ci := 9) hP hK hD hS hA hX rfl (ty_app (j := 0) rfl)) rfl rfl hl.1 rfl (lv_room (Nat.le_of_ble_eq_true rfl)) dX1_trip_20 ⟨Nat.le_of_ble_eq_true rfl, Nat.le_of_ble_eq_true rfl⟩) (fun u H locs hw_2 hP hD hS => ?_)
  obtain ⟨ws_3, lold1_4, lsiz1_5, fln1_6⟩ := u
  obtain ⟨hT9_7, hp_8⟩ := hw_2
  have hp_8 : (a_X9_note tim llim lwid lold lsiz fln idx (3 : Int32) p1) := hp_8
  obtain ⟨hP, hD⟩ := ty_bkPD (E := [(fn_1 ch idx cl mt (4) prg stp las tb qu wai bin bou hel sbo), (fn_4 mt res mca mre p1 wfo wct bd), (fn_9 wo tim se cu pr cco chs rc lg), (fn_8 lg llim lwid lnu lold1_4 lsiz1_5), (rf_RW ct 0 lnu 240 fln1_6)]) hP hD rfl
  exact W.vret hx hb hr (fun t ht hW => ⟨⟨(ws, (4 : Int32), p1, lold1_4, lsiz1_5, fln1_6), rfl, ⟨hT, ⟨lold1_4, lsiz1_5, fln1_6, hp_8, ⟨rfl, rfl⟩⟩⟩, by rw [ht]; exact hP, by rw [hAe]; exact hD⟩, hS.F ht⟩) hS.2.2 dX1_trip_23
def a_X1_warn (idx : Int32) (tmp : Int32) (vol : Int32) (wfo : Int32) (wct : Int32) (tim : Int32) (wlo : Int32) (whi : Int32) (who : Int32) (llim : Int32) (lwid : Int32) (lold : Int32) (lsiz : Int32) (fln : Nat → Int32) (wfo1 : Int32) (wct1 : Int32) : Prop := ((vol ≤ whi ∧ ((wlo ≤ vol ∧ ((tmp ≤ who ∧ (wfo1 = 0 ∧ wct1 = wct)) ∨ (¬ tmp ≤ who ∧ (((3 : Int32) = wfo ∧ (wfo1 = 3 ∧ wct1 = wct)) ∨ (¬ (3 : Int32) = wfo ∧ (∃ (lold1_8 : Int32) (lsiz1_9 : Int32) (fln1_10 : Nat → Int32), (a_X9_note tim llim lwid lold lsiz fln idx (4 : Int32) (3 : Int32)) ∧ (wfo1 = 3 ∧ wct1 = (wct + 1)))))))) ∨ (¬ wlo ≤ vol ∧ (((2 : Int32) = wfo ∧ (wfo1 = 2 ∧ wct1 = wct)) ∨ (¬ (2 : Int32) = wfo ∧ (∃ (lold1_17 : Int32) (lsiz1_18 : Int32) (fln1_19 : Nat → Int32), (a_X9_note tim llim lwid lold lsiz fln idx (4 : Int32) (2 : Int32)) ∧ (wfo1 = 2 ∧ wct1 = (wct + 1)))))))) ∨ (¬ vol ≤ whi ∧ (((1 : Int32) = wfo ∧ (wfo1 = 1 ∧ wct1 = wct)) ∨ (¬ (1 : Int32) = wfo ∧ (∃ (lold1_26 : Int32) (lsiz1_27 : Int32) (fln1_28 : Nat → Int32), (a_X9_note tim llim lwid lold lsiz fln idx (4 : Int32) (1 : Int32)) ∧ (wfo1 = 1 ∧ wct1 = (wct + 1)))))))
set_option maxRecDepth 100000 in
set_option maxHeartbeats 4000000 in
theorem r_X1_warn (l : Launch) (D : va_G) (ct : Nat → ClassId) (S : ty_S) (ws : va_W) (ph : va_W → Prop) (xx : Nat → Nat → Nat → Prop) (ch : Nat) (idx : Int32) (cl : Nat) (mt : Nat) (sta : Int32) (prg : Int32) (stp : Int32) (las : Int32) (tb : Nat) (qu : Nat) (wai : Int32) (bin : Int64) (bou : Int64) (hel : Int32) (sbo : Int64) (cur : Nat) (pts : Int32) (nom : Int32) (ohm : Int32) (pol : Int32) (tau : Int32) (chg : Int32) (lft : Int32) (cap : Int32) (thr : Int32) (pz : Int32) (tmp : Int32) (het : Int32) (cun : Int32) (vol : Int32) (bk : Nat) (res : Int32) (mca : Int32) (mre : Int32) (trr : Int32) (wfo : Int32) (wct : Int32) (bd : Nat) (wo : Nat) (tim : Int32) (se : Nat) (cu : Nat) (pr : Nat) (cco : Int32) (chs : Nat) (rc : Nat) (lg : Nat) (efc : Int32) (fad : Int32) (hea : Int32) (coo : Int32) (low : Int32) (hig : Int32) (hot : Int32) (amb : Int32) (wlo : Int32) (whi : Int32) (who : Int32) (spa : Int32) (llim : Int32) (lwid : Int32) (lnu : Nat) (lold : Int32) (lsiz : Int32) (fln : Nat → Int32) (sz : Nat) (hT : ty_V ct S ph ws) (hph : ty_C ph xx) (hy1 : ty_y1 xx) : Met l yX1_warn (ws_ yX1_warn cX1_warn 4 none) ({ frames := 2, cells := 0, slots := 0, locals := 46 } : Room) (va_Pc [.ref ch, .ref wo] (cmP D ct sz ([(fn_1 ch idx cl mt sta prg stp las tb qu wai bin bou hel sbo), (fn_0 cl cur pts nom ohm pol tau chg lft cap thr pz tmp het cun vol bk), (fn_4 mt res mca mre trr wfo wct bd), (fn_9 wo tim se cu pr cco chs rc lg), (fn_7 se efc fad hea coo low hig hot amb wlo whi who spa), (fn_8 lg llim lwid lnu lold lsiz), (rf_RW ct 0 lnu 240 fln)] ++ ws))) (va_Qv (fun (u : va_W × Int32 × Int32 × Int32 × Int32 × (Nat → Int32)) => match u with | (u9, wfo1, wct1, lold1, lsiz1, fln1) => ty_V ct S ph u9 ∧ (a_X1_warn idx tmp vol wfo wct tim wlo whi who llim lwid lold lsiz fln wfo1 wct1)) (cmB D ([(fn_1 ch idx cl mt sta prg stp las tb qu wai bin bou hel sbo), (fn_0 cl cur pts nom ohm pol tau chg lft cap thr pz tmp het cun vol bk), (fn_4 mt res mca mre trr wfo wct bd), (fn_9 wo tim se cu pr cco chs rc lg), (fn_7 se efc fad hea coo low hig hot amb wlo whi who spa), (fn_8 lg llim lwid lnu lold lsiz), (rf_RW ct 0 lnu 240 fln)] ++ ws) sz (fun (u : va_W × Int32 × Int32 × Int32 × Int32 × (Nat → Int32)) => match u with | (u9, wfo1, wct1, lold1, lsiz1, fln1) => ([(fn_1 ch idx cl mt sta prg stp las tb qu wai bin bou hel sbo), (fn_0 cl cur pts nom ohm pol tau chg lft cap thr pz tmp het cun vol bk), (fn_4 mt res mca mre trr wfo1 wct1 bd), (fn_9 wo tim se cu pr cco chs rc lg), (fn_7 se efc fad hea coo low hig hot amb wlo whi who spa), (fn_8 lg llim lwid lnu lold1 lsiz1), (rf_RW ct 0 lnu 240 fln1)] ++ u9))) (va_A ([(fn_1 ch idx cl mt sta prg stp las tb qu wai bin bou hel sbo), (fn_0 cl cur pts nom ohm pol tau chg lft cap thr pz tmp het cun vol bk), (fn_4 mt res mca mre trr wfo wct bd), (fn_9 wo tim se cu pr cco chs rc lg), (fn_7 se efc fad hea coo low hig hot amb wlo whi who spa), (fn_8 lg llim lwid lnu lold lsiz), (rf_RW ct 0 lnu 240 fln)] ++ ws) sz)) 0 0 (va_A ([(fn_1 ch idx cl mt sta prg stp las tb qu wai bin bou hel sbo), (fn_0 cl cur pts nom ohm pol tau chg lft cap thr pz tmp het cun vol bk), (fn_4 mt res mca mre trr wfo wct bd), (fn_9 wo tim se cu pr cco chs rc lg), (fn_7 se efc fad hea coo low hig hot amb wlo whi who spa), (fn_8 lg llim lwid lnu lold lsiz), (rf_RW ct 0 lnu 240 fln)] ++ ws) sz) := by
  refine Met.ofW (cc := cX1_warn) (maxL := 4) (ret := none) (by decide) rfl ?_
  intro p e s m args below meth c s₁ B hml hv
  obtain ⟨rfl, hsz, hP, hK, hD0, hX⟩ := hv
  have hx := B.exec
  have hb := B.bytes
  have hr := B.returns
  have hts := ws_all (atoms_spec (ws := ws_ yX1_warn cX1_warn 4 none) B.pre)
  have hown : s.vm.findClass RX1 = some m.cls := findClass_of_methodNamed B.named
  have hlocks := B.notSynchronized
  subst hsz
  have hD := hD0.self (sz := s.heap.size)
  generalize hAe : va_A ([(fn_1 ch idx cl mt sta prg stp las tb qu wai bin bou hel sbo), (fn_0 cl cur pts nom ohm pol tau chg lft cap thr pz tmp het cun vol bk), (fn_4 mt res mca mre trr wfo wct bd), (fn_9 wo tim se cu pr cco chs rc lg), (fn_7 se efc fad hea coo low hig hot amb wlo whi who spa), (fn_8 lg llim lwid lnu lold lsiz), (rf_RW ct 0 lnu 240 fln)] ++ ws) s.heap.size = A at hD hX ⊢
  have hA : ∀ q : Nat, s.heap.size ≤ q → A q := fun q h => by rw [← hAe]; exact Or.inr h
  have hS : va_S A s.heap s.heap [] := va_S.rf
  have hl := lv_entry ([.ref ch, .ref wo]) (n := 4) (Nat.le_of_ble_eq_true rfl)
  rw [lg_entry_eq]
  generalize (lg_sl ([.ref ch, .ref wo]) ++ List.replicate (4 - (lg_sl ([.ref ch, .ref wo])).length) Slot.unset).toArray = ls at hl ⊢
  have hl : lv_has ls 4 [(0, .ref ch), (1, .ref wo)] := hl
  refine lv_aload_n hx hb dX1_warn_0 rfl (lv_at hl 1 rfl) ?_
  refine va_getN (v := .ref se) (D := D) (ci := 9) (C := RX9) (T := TX9) (N := 8) hx hb hts in_X9 hown hK hP 3 rfl rfl 1 (by decide) (hts _ kl_RX1_140) (fun _ h9 => h9) rfl dX1_warn_1 ?_
  refine lv_astore_n (lv' := [(2, .ref se), (0, .ref ch), (1, .ref wo)]) hx hb dX1_warn_4 rfl hl (by decide) rfl (fun ls hl => ?_)
  refine lv_iconst (v := 0) hx hb dX1_warn_5 (by decide) ?_
  refine lv_istore_n (lv' := [(3, .int 0), (2, .ref se), (0, .ref ch), (1, .ref wo)]) hx hb dX1_warn_6 rfl hl (by decide) rfl (fun ls hl => ?_)
  refine lv_aload_n hx hb dX1_warn_7 rfl (lv_at hl 2 rfl) ?_
  refine va_get (v := .ref cl) (D := D) (ci := 1) (C := RX1) (T := TX1) (N := 14) hx hb hts in_X1 hown hK hP 0 rfl rfl 1 (by decide) (hts _ kl_RX1_18) (fun _ h9 => h9) rfl dX1_warn_8 ?_
  refine va_getN (v := .int vol) (D := D) (ci := 0) (C := RX0) (T := TX0) (N := 16) hx hb hts in_X0 hown hK hP 1 rfl rfl 14 (by decide) (hts _ kl_RX1_79) (fun _ h9 => h9) rfl dX1_warn_11 ?_
  refine lv_aload_n hx hb dX1_warn_14 rfl (lv_at hl 1 rfl) ?_
  refine va_getN (v := .int whi) (D := D) (ci := 7) (C := RX7) (T := TX7) (N := 12) hx hb hts in_X7 hown hK hP 4 rfl rfl 9 (by decide) (hts _ kl_RX1_208) (fun _ h9 => h9) rfl dX1_warn_15 ?_
  refine lv_icmp_le (tgt := 26) hx hb dX1_warn_18 (by decide) (fun hc_1 => ?_) (fun hc_1 => ?_)
  · refine lv_aload_n hx hb dX1_warn_26 rfl (lv_at hl 2 rfl) ?_
    refine va_get (v := .ref cl) (D := D) (ci := 1) (C := RX1) (T := TX1) (N := 14) hx hb hts in_X1 hown hK hP 0 rfl rfl 1 (by decide) (hts _ kl_RX1_18) (fun _ h9 => h9) rfl dX1_warn_27 ?_
    refine va_getN (v := .int vol) (D := D) (ci := 0) (C := RX0) (T := TX0) (N := 16) hx hb hts in_X0 hown hK hP 1 rfl rfl 14 (by decide) (hts _ kl_RX1_79) (fun _ h9 => h9) rfl dX1_warn_30 ?_
    refine lv_aload_n hx hb dX1_warn_33 rfl (lv_at hl 1 rfl) ?_
    refine va_getN (v := .int wlo) (D := D) (ci := 7) (C := RX7) (T := TX7) (N := 12) hx hb hts in_X7 hown hK hP 4 rfl rfl 8 (by decide) (hts _ kl_RX1_213) (fun _ h9 => h9) rfl dX1_warn_34 ?_
    refine lv_icmp_ge (tgt := 45) hx hb dX1_warn_37 (by decide) (fun hc_2 => ?_) (fun hc_2 => ?_)
    · refine lv_aload_n hx hb dX1_warn_45 rfl (lv_at hl 2 rfl) ?_
      refine va_get (v := .ref cl) (D := D) (ci := 1) (C := RX1) (T := TX1) (N := 14) hx hb hts in_X1 hown hK hP 0 rfl rfl 1 (by decide) (hts _ kl_RX1_18) (fun _ h9 => h9) rfl dX1_warn_46 ?_
      refine va_getN (v := .int tmp) (D := D) (ci := 0) (C := RX0) (T := TX0) (N := 16) hx hb hts in_X0 hown hK hP 1 rfl rfl 11 (by decide) (hts _ kl_RX1_91) (fun _ h9 => h9) rfl dX1_warn_49 ?_
      refine lv_aload_n hx hb dX1_warn_52 rfl (lv_at hl 1 rfl) ?_
      refine va_getN (v := .int who) (D := D) (ci := 7) (C := RX7) (T := TX7) (N := 12) hx hb hts in_X7 hown hK hP 4 rfl rfl 10 (by decide) (hts _ kl_RX1_216) (fun _ h9 => h9) rfl dX1_warn_53 ?_
      refine lv_icmp_le (tgt := 61) hx hb dX1_warn_56 (by decide) (fun hc_3 => ?_) (fun hc_3 => ?_)
      · refine lv_iload_n hx hb dX1_warn_61 rfl (lv_at hl 0 rfl) ?_
        refine lv_if_eq (tgt := 99) hx hb dX1_warn_62 (by decide) (fun _ => ?_) (fun hc => absurd (by decide) hc)
        refine lv_aload_n hx hb dX1_warn_99 rfl (lv_at hl 2 rfl) ?_
        refine va_get (v := .ref mt) (D := D) (ci := 1) (C := RX1) (T := TX1) (N := 14) hx hb hts in_X1 hown hK hP 0 rfl rfl 2 (by decide) (hts _ kl_RX1_25) (fun _ h9 => h9) rfl dX1_warn_100 ?_
        refine lv_iload_n hx hb dX1_warn_103 rfl (lv_at hl 0 rfl) ?_
        refine va_putN (v := .int 0) (ty := .int) (D := D) (ci := 4) (C := RX4) (T := TX4) (N := 7) hx hb hts in_X4 tyX4 tyX4_ok nmX4 hown hK hP hD hS 2 rfl rfl 4 (by decide) (hts _ kl_RX1_159) (fun _ h9 => h9) rfl (by decide +kernel) rfl rfl (Nat.le_of_ble_eq_true rfl) dX1_warn_104 (fun H locs hP hD hS => ?_)
        have hP : va_P D vwCl ([(fn_1 ch idx cl mt sta prg stp las tb qu wai bin bou hel sbo), (fn_0 cl cur pts nom ohm pol tau chg lft cap thr pz tmp het cun vol bk), (fn_4 mt res mca mre trr (0) wct bd), (fn_9 wo tim se cu pr cco chs rc lg), (fn_7 se efc fad hea coo low hig hot amb wlo whi who spa), (fn_8 lg llim lwid lnu lold lsiz), (rf_RW ct 0 lnu 240 fln)] ++ ws) H := hP
        have hD : va_D A ([(fn_1 ch idx cl mt sta prg stp las tb qu wai bin bou hel sbo), (fn_0 cl cur pts nom ohm pol tau chg lft cap thr pz tmp het cun vol bk), (fn_4 mt res mca mre trr (0) wct bd), (fn_9 wo tim se cu pr cco chs rc lg), (fn_7 se efc fad hea coo low hig hot amb wlo whi who spa), (fn_8 lg llim lwid lnu lold lsiz), (rf_RW ct 0 lnu 240 fln)] ++ ws) := hD
        exact W.vret hx hb hr (fun t ht hW => ⟨⟨(ws, (0 : Int32), wct, lold, lsiz, fln), rfl, ⟨hT, (Or.inl ⟨hc_1, (Or.inl ⟨hc_2, (Or.inl ⟨hc_3, ⟨rfl, rfl⟩⟩)⟩)⟩)⟩, by rw [ht]; exact hP, by rw [hAe]; exact hD⟩, hS.F ht⟩) hS.2.2 dX1_warn_107
      · refine lv_iconst (v := 3) hx hb dX1_warn_59 (by decide) ?_
        refine lv_istore_n (lv' := [(3, .int 3), (2, .ref se), (0, .ref ch), (1, .ref wo)]) hx hb dX1_warn_60 rfl hl (by decide) rfl (fun ls hl => ?_)
        refine lv_iload_n hx hb dX1_warn_61 rfl (lv_at hl 0 rfl) ?_
        refine lv_if_eq (tgt := 99) hx hb dX1_warn_62 (by decide) (fun hc => absurd hc (by decide)) (fun _ => ?_)
        refine lv_iload_n hx hb dX1_warn_65 rfl (lv_at hl 0 rfl) ?_
        refine lv_aload_n hx hb dX1_warn_66 rfl (lv_at hl 2 rfl) ?_
        refine va_get (v := .ref mt) (D := D) (ci := 1) (C := RX1) (T := TX1) (N := 14) hx hb hts in_X1 hown hK hP 0 rfl rfl 2 (by decide) (hts _ kl_RX1_25) (fun _ h9 => h9) rfl dX1_warn_67 ?_
        refine va_getN (v := .int wfo) (D := D) (ci := 4) (C := RX4) (T := TX4) (N := 7) hx hb hts in_X4 hown hK hP 2 rfl rfl 4 (by decide) (hts _ kl_RX1_159) (fun _ h9 => h9) rfl dX1_warn_70 ?_
        refine lv_icmp_eq (tgt := 99) hx hb dX1_warn_73 (by decide) (fun hc_4 => ?_) (fun hc_4 => ?_)
        · refine lv_aload_n hx hb dX1_warn_99 rfl (lv_at hl 2 rfl) ?_
          refine va_get (v := .ref mt) (D := D) (ci := 1) (C := RX1) (T := TX1) (N := 14) hx hb hts in_X1 hown hK hP 0 rfl rfl 2 (by decide) (hts _ kl_RX1_25) (fun _ h9 => h9) rfl dX1_warn_100 ?_
          refine lv_iload_n hx hb dX1_warn_103 rfl (lv_at hl 0 rfl) ?_
          refine va_putN (v := .int 3) (ty := .int) (D := D) (ci := 4) (C := RX4) (T := TX4) (N := 7) hx hb hts in_X4 tyX4 tyX4_ok nmX4 hown hK hP hD hS 2 rfl rfl 4 (by decide) (hts _ kl_RX1_159) (fun _ h9 => h9) rfl (by decide +kernel) rfl rfl (Nat.le_of_ble_eq_true rfl) dX1_warn_104 (fun H locs hP hD hS => ?_)
          have hP : va_P D vwCl ([(fn_1 ch idx cl mt sta prg stp las tb qu wai bin bou hel sbo), (fn_0 cl cur pts nom ohm pol tau chg lft cap thr pz tmp het cun vol bk), (fn_4 mt res mca mre trr (3) wct bd), (fn_9 wo tim se cu pr cco chs rc lg), (fn_7 se efc fad hea coo low hig hot amb wlo whi who spa), (fn_8 lg llim lwid lnu lold lsiz), (rf_RW ct 0 lnu 240 fln)] ++ ws) H := hP
          have hD : va_D A ([(fn_1 ch idx cl mt sta prg stp las tb qu wai bin bou hel sbo), (fn_0 cl cur pts nom ohm pol tau chg lft cap thr pz tmp het cun vol bk), (fn_4 mt res mca mre trr (3) wct bd), (fn_9 wo tim se cu pr cco chs rc lg), (fn_7 se efc fad hea coo low hig hot amb wlo whi who spa), (fn_8 lg llim lwid lnu lold lsiz), (rf_RW ct 0 lnu 240 fln)] ++ ws) := hD
          exact W.vret hx hb hr (fun t ht hW => ⟨⟨(ws, (3 : Int32), wct, lold, lsiz, fln), rfl, ⟨hT, (Or.inl ⟨hc_1, (Or.inl ⟨hc_2, (Or.inr ⟨hc_3, (Or.inl ⟨hc_4, ⟨rfl, rfl⟩⟩)⟩)⟩)⟩)⟩, by rw [ht]; exact hP, by rw [hAe]; exact hD⟩, hS.F ht⟩) hS.2.2 dX1_warn_107
        · refine lv_aload_n hx hb dX1_warn_76 rfl (lv_at hl 2 rfl) ?_
          refine va_get (v := .ref mt) (D := D) (ci := 1) (C := RX1) (T := TX1) (N := 14) hx hb hts in_X1 hown hK hP 0 rfl rfl 2 (by decide) (hts _ kl_RX1_25) (fun _ h9 => h9) rfl dX1_warn_77 ?_
          refine lv_dup hx hb dX1_warn_80 rfl ?_
          refine va_getN (v := .int wct) (D := D) (ci := 4) (C := RX4) (T := TX4) (N := 7) hx hb hts in_X4 hown hK hP 2 rfl rfl 5 (by decide) (hts _ kl_RX1_219) (fun _ h9 => h9) rfl dX1_warn_81 ?_
          refine lv_iconst (v := 1) hx hb dX1_warn_84 (by decide) ?_
          refine lv_iadd hx hb dX1_warn_85 ?_
          refine va_putN (v := .int (wct + 1)) (ty := .int) (D := D) (ci := 4) (C := RX4) (T := TX4) (N := 7) hx hb hts in_X4 tyX4 tyX4_ok nmX4 hown hK hP hD hS 2 rfl rfl 5 (by decide) (hts _ kl_RX1_219) (fun _ h9 => h9) rfl (by decide +kernel) rfl rfl (Nat.le_of_ble_eq_true rfl) dX1_warn_86 (fun H locs hP hD hS => ?_)
          have hP : va_P D vwCl ([(fn_1 ch idx cl mt sta prg stp las tb qu wai bin bou hel sbo), (fn_0 cl cur pts nom ohm pol tau chg lft cap thr pz tmp het cun vol bk), (fn_4 mt res mca mre trr wfo (wct + 1) bd), (fn_9 wo tim se cu pr cco chs rc lg), (fn_7 se efc fad hea coo low hig hot amb wlo whi who spa), (fn_8 lg llim lwid lnu lold lsiz), (rf_RW ct 0 lnu 240 fln)] ++ ws) H := hP
          have hD : va_D A ([(fn_1 ch idx cl mt sta prg stp las tb qu wai bin bou hel sbo), (fn_0 cl cur pts nom ohm pol tau chg lft cap thr pz tmp het cun vol bk), (fn_4 mt res mca mre trr wfo (wct + 1) bd), (fn_9 wo tim se cu pr cco chs rc lg), (fn_7 se efc fad hea coo low hig hot amb wlo whi who spa), (fn_8 lg llim lwid lnu lold lsiz), (rf_RW ct 0 lnu 240 fln)] ++ ws) := hD
          refine lv_aload_n hx hb dX1_warn_89 rfl (lv_at hl 3 rfl) ?_
          refine lv_aload_n hx hb dX1_warn_90 rfl (lv_at hl 2 rfl) ?_
          refine va_get (v := .int idx) (D := D) (ci := 1) (C := RX1) (T := TX1) (N := 14) hx hb hts in_X1 hown hK hP 0 rfl rfl 0 (by decide) (hts _ kl_RX1_9) (fun _ h9 => h9) rfl dX1_warn_91 ?_
          refine lv_iconst (v := 4) hx hb dX1_warn_94 (by decide) ?_
          refine lv_iload_n hx hb dX1_warn_95 rfl (lv_at hl 0 rfl) ?_
          obtain ⟨hP, hD⟩ := ty_opPD (E1 := [(fn_1 ch idx cl mt sta prg stp las tb qu wai bin bou hel sbo), (fn_0 cl cur pts nom ohm pol tau chg lft cap thr pz tmp het cun vol bk), (fn_4 mt res mca mre trr wfo (wct + 1) bd), (fn_7 se efc fad hea coo low hig hot amb wlo whi who spa)]) (E2 := [(fn_9 wo tim se cu pr cco chs rc lg), (fn_8 lg llim lwid lnu lold lsiz), (rf_RW ct 0 lnu 240 fln)]) (n := 7) [0, 1, 2, 4, 3, 5, 6] hP hD rfl rfl (by decide +kernel) ty_mv2
          refine ty_Kv hP hD hS hA (va_runVN (As := [.int idx, .int 4, .int 3]) (rest := []) ⟨hx, hb, hml, hown, hts⟩ (r_X9_note l D ct (fun _ => none) [] (fun _ => True) (fun _ _ _ => True) wo tim se cu pr cco chs rc lg llim lwid lnu lold lsiz fln idx (4 : Int32) (3 : Int32) _ ty_V0 ty_C0 ty_y10) (cm_VN 3 hts kc_X9_note ki_RX9 kl_RX1_100 kv_X9_note kx_X9_note kd_X9_note ⟨Nat.le_of_ble_eq_true rfl, Nat.le_of_ble_eq_true rfl⟩) (ty_preE (ci := 9) hP hK hD hS hA hX rfl (ty_app (j := 0) rfl)) rfl rfl hl.1 rfl (lv_room (Nat.le_of_ble_eq_true rfl)) dX1_warn_96 ⟨Nat.le_of_ble_eq_true rfl, Nat.le_of_ble_eq_true rfl⟩) (fun u H locs hw_6 hP hD hS => ?_)
          obtain ⟨ws_7, lold1_8, lsiz1_9, fln1_10⟩ := u
          obtain ⟨hT9_11, hp_12⟩ := hw_6
          have hp_12 : (a_X9_note tim llim lwid lold lsiz fln idx (4 : Int32) (3 : Int32)) := hp_12
          obtain ⟨hP, hD⟩ := ty_bkPD (E := [(fn_1 ch idx cl mt sta prg stp las tb qu wai bin bou hel sbo), (fn_0 cl cur pts nom ohm pol tau chg lft cap thr pz tmp het cun vol bk), (fn_4 mt res mca mre trr wfo (wct + 1) bd), (fn_7 se efc fad hea coo low hig hot amb wlo whi who spa), (fn_9 wo tim se cu pr cco chs rc lg), (fn_8 lg llim lwid lnu lold1_8 lsiz1_9), (rf_RW ct 0 lnu 240 fln1_10)]) hP hD rfl
          refine lv_aload_n hx hb dX1_warn_99 rfl (lv_at hl 2 rfl) ?_
          refine va_get (v := .ref mt) (D := D) (ci := 1) (C := RX1) (T := TX1) (N := 14) hx hb hts in_X1 hown hK hP 0 rfl rfl 2 (by decide) (hts _ kl_RX1_25) (fun _ h9 => h9) rfl dX1_warn_100 ?_
          refine lv_iload_n hx hb dX1_warn_103 rfl (lv_at hl 0 rfl) ?_
          refine va_putN (v := .int 3) (ty := .int) (D := D) (ci := 4) (C := RX4) (T := TX4) (N := 7) hx hb hts in_X4 tyX4 tyX4_ok nmX4 hown hK hP hD hS 2 rfl rfl 4 (by decide) (hts _ kl_RX1_159) (fun _ h9 => h9) rfl (by decide +kernel) rfl rfl (Nat.le_of_ble_eq_true rfl) dX1_warn_104 (fun H locs hP hD hS => ?_)
          have hP : va_P D vwCl ([(fn_1 ch idx cl mt sta prg stp las tb qu wai bin bou hel sbo), (fn_0 cl cur pts nom ohm pol tau chg lft cap thr pz tmp het cun vol bk), (fn_4 mt res mca mre trr (3) (wct + 1) bd), (fn_7 se efc fad hea coo low hig hot amb wlo whi who spa), (fn_9 wo tim se cu pr cco chs rc lg), (fn_8 lg llim lwid lnu lold1_8 lsiz1_9), (rf_RW ct 0 lnu 240 fln1_10)] ++ ws) H := hP
          have hD : va_D A ([(fn_1 ch idx cl mt sta prg stp las tb qu wai bin bou hel sbo), (fn_0 cl cur pts nom ohm pol tau chg lft cap thr pz tmp het cun vol bk), (fn_4 mt res mca mre trr (3) (wct + 1) bd), (fn_7 se efc fad hea coo low hig hot amb wlo whi who spa), (fn_9 wo tim se cu pr cco chs rc lg), (fn_8 lg llim lwid lnu lold1_8 lsiz1_9), (rf_RW ct 0 lnu 240 fln1_10)] ++ ws) := hD
          obtain ⟨hP, hD⟩ := ty_ordPD (E2 := [(fn_1 ch idx cl mt sta prg stp las tb qu wai bin bou hel sbo), (fn_0 cl cur pts nom ohm pol tau chg lft cap thr pz tmp het cun vol bk), (fn_4 mt res mca mre trr (3) (wct + 1) bd), (fn_9 wo tim se cu pr cco chs rc lg), (fn_7 se efc fad hea coo low hig hot amb wlo whi who spa), (fn_8 lg llim lwid lnu lold1_8 lsiz1_9), (rf_RW ct 0 lnu 240 fln1_10)]) (n := 7) [0, 1, 2, 4, 3, 5, 6] hP hD rfl rfl (by decide +kernel)
          exact W.vret hx hb hr (fun t ht hW => ⟨⟨(ws, (3 : Int32), (wct + 1), lold1_8, lsiz1_9, fln1_10), rfl, ⟨hT, (Or.inl ⟨hc_1, (Or.inl ⟨hc_2, (Or.inr ⟨hc_3, (Or.inr ⟨hc_4, ⟨lold1_8, lsiz1_9, fln1_10, hp_12, ⟨rfl, rfl⟩⟩⟩)⟩)⟩)⟩)⟩, by rw [ht]; exact hP, by rw [hAe]; exact hD⟩, hS.F ht⟩) hS.2.2 dX1_warn_107
    · refine lv_iconst (v := 2) hx hb dX1_warn_40 (by decide) ?_
      refine lv_istore_n (lv' := [(3, .int 2), (2, .ref se), (0, .ref ch), (1, .ref wo)]) hx hb dX1_warn_41 rfl hl (by decide) rfl (fun ls hl => ?_)
      refine lv_goto (tgt := 61) hx hb dX1_warn_42 (by decide) ?_
      refine lv_iload_n hx hb dX1_warn_61 rfl (lv_at hl 0 rfl) ?_
      refine lv_if_eq (tgt := 99) hx hb dX1_warn_62 (by decide) (fun hc => absurd hc (by decide)) (fun _ => ?_)
      refine lv_iload_n hx hb dX1_warn_65 rfl (lv_at hl 0 rfl) ?_
      refine lv_aload_n hx hb dX1_warn_66 rfl (lv_at hl 2 rfl) ?_
      refine va_get (v := .ref mt) (D := D) (ci := 1) (C := RX1) (T := TX1) (N := 14) hx hb hts in_X1 hown hK hP 0 rfl rfl 2 (by decide) (hts _ kl_RX1_25) (fun _ h9 => h9) rfl dX1_warn_67 ?_
      refine va_getN (v := .int wfo) (D := D) (ci := 4) (C := RX4) (T := TX4) (N := 7) hx hb hts in_X4 hown hK hP 2 rfl rfl 4 (by decide) (hts _ kl_RX1_159) (fun _ h9 => h9) rfl dX1_warn_70 ?_
      refine lv_icmp_eq (tgt := 99) hx hb dX1_warn_73 (by decide) (fun hc_13 => ?_) (fun hc_13 => ?_)
      · refine lv_aload_n hx hb dX1_warn_99 rfl (lv_at hl 2 rfl) ?_
        refine va_get (v := .ref mt) (D := D) (ci := 1) (C := RX1) (T := TX1) (N := 14) hx hb hts in_X1 hown hK hP 0 rfl rfl 2 (by decide) (hts _ kl_RX1_25) (fun _ h9 => h9) rfl dX1_warn_100 ?_
        refine lv_iload_n hx hb dX1_warn_103 rfl (lv_at hl 0 rfl) ?_
        refine va_putN (v := .int 2) (ty := .int) (D := D) (ci := 4) (C := RX4) (T := TX4) (N := 7) hx hb hts in_X4 tyX4 tyX4_ok nmX4 hown hK hP hD hS 2 rfl rfl 4 (by decide) (hts _ kl_RX1_159) (fun _ h9 => h9) rfl (by decide +kernel) rfl rfl (Nat.le_of_ble_eq_true rfl) dX1_warn_104 (fun H locs hP hD hS => ?_)
        have hP : va_P D vwCl ([(fn_1 ch idx cl mt sta prg stp las tb qu wai bin bou hel sbo), (fn_0 cl cur pts nom ohm pol tau chg lft cap thr pz tmp het cun vol bk), (fn_4 mt res mca mre trr (2) wct bd), (fn_9 wo tim se cu pr cco chs rc lg), (fn_7 se efc fad hea coo low hig hot amb wlo whi who spa), (fn_8 lg llim lwid lnu lold lsiz), (rf_RW ct 0 lnu 240 fln)] ++ ws) H := hP
        have hD : va_D A ([(fn_1 ch idx cl mt sta prg stp las tb qu wai bin bou hel sbo), (fn_0 cl cur pts nom ohm pol tau chg lft cap thr pz tmp het cun vol bk), (fn_4 mt res mca mre trr (2) wct bd), (fn_9 wo tim se cu pr cco chs rc lg), (fn_7 se efc fad hea coo low hig hot amb wlo whi who spa), (fn_8 lg llim lwid lnu lold lsiz), (rf_RW ct 0 lnu 240 fln)] ++ ws) := hD
        exact W.vret hx hb hr (fun t ht hW => ⟨⟨(ws, (2 : Int32), wct, lold, lsiz, fln), rfl, ⟨hT, (Or.inl ⟨hc_1, (Or.inr ⟨hc_2, (Or.inl ⟨hc_13, ⟨rfl, rfl⟩⟩)⟩)⟩)⟩, by rw [ht]; exact hP, by rw [hAe]; exact hD⟩, hS.F ht⟩) hS.2.2 dX1_warn_107
      · refine lv_aload_n hx hb dX1_warn_76 rfl (lv_at hl 2 rfl) ?_
        refine va_get (v := .ref mt) (D := D) (ci := 1) (C := RX1) (T := TX1) (N := 14) hx hb hts in_X1 hown hK hP 0 rfl rfl 2 (by decide) (hts _ kl_RX1_25) (fun _ h9 => h9) rfl dX1_warn_77 ?_
        refine lv_dup hx hb dX1_warn_80 rfl ?_
        refine va_getN (v := .int wct) (D := D) (ci := 4) (C := RX4) (T := TX4) (N := 7) hx hb hts in_X4 hown hK hP 2 rfl rfl 5 (by decide) (hts _ kl_RX1_219) (fun _ h9 => h9) rfl dX1_warn_81 ?_
        refine lv_iconst (v := 1) hx hb dX1_warn_84 (by decide) ?_
        refine lv_iadd hx hb dX1_warn_85 ?_
        refine va_putN (v := .int (wct + 1)) (ty := .int) (D := D) (ci := 4) (C := RX4) (T := TX4) (N := 7) hx hb hts in_X4 tyX4 tyX4_ok nmX4 hown hK hP hD hS 2 rfl rfl 5 (by decide) (hts _ kl_RX1_219) (fun _ h9 => h9) rfl (by decide +kernel) rfl rfl (Nat.le_of_ble_eq_true rfl) dX1_warn_86 (fun H locs hP hD hS => ?_)
        have hP : va_P D vwCl ([(fn_1 ch idx cl mt sta prg stp las tb qu wai bin bou hel sbo), (fn_0 cl cur pts nom ohm pol tau chg lft cap thr pz tmp het cun vol bk), (fn_4 mt res mca mre trr wfo (wct + 1) bd), (fn_9 wo tim se cu pr cco chs rc lg), (fn_7 se efc fad hea coo low hig hot amb wlo whi who spa), (fn_8 lg llim lwid lnu lold lsiz), (rf_RW ct 0 lnu 240 fln)] ++ ws) H := hP
        have hD : va_D A ([(fn_1 ch idx cl mt sta prg stp las tb qu wai bin bou hel sbo), (fn_0 cl cur pts nom ohm pol tau chg lft cap thr pz tmp het cun vol bk), (fn_4 mt res mca mre trr wfo (wct + 1) bd), (fn_9 wo tim se cu pr cco chs rc lg), (fn_7 se efc fad hea coo low hig hot amb wlo whi who spa), (fn_8 lg llim lwid lnu lold lsiz), (rf_RW ct 0 lnu 240 fln)] ++ ws) := hD
        refine lv_aload_n hx hb dX1_warn_89 rfl (lv_at hl 3 rfl) ?_
        refine lv_aload_n hx hb dX1_warn_90 rfl (lv_at hl 2 rfl) ?_
        refine va_get (v := .int idx) (D := D) (ci := 1) (C := RX1) (T := TX1) (N := 14) hx hb hts in_X1 hown hK hP 0 rfl rfl 0 (by decide) (hts _ kl_RX1_9) (fun _ h9 => h9) rfl dX1_warn_91 ?_
        refine lv_iconst (v := 4) hx hb dX1_warn_94 (by decide) ?_
        refine lv_iload_n hx hb dX1_warn_95 rfl (lv_at hl 0 rfl) ?_
        obtain ⟨hP, hD⟩ := ty_opPD (E1 := [(fn_1 ch idx cl mt sta prg stp las tb qu wai bin bou hel sbo), (fn_0 cl cur pts nom ohm pol tau chg lft cap thr pz tmp het cun vol bk), (fn_4 mt res mca mre trr wfo (wct + 1) bd), (fn_7 se efc fad hea coo low hig hot amb wlo whi who spa)]) (E2 := [(fn_9 wo tim se cu pr cco chs rc lg), (fn_8 lg llim lwid lnu lold lsiz), (rf_RW ct 0 lnu 240 fln)]) (n := 7) [0, 1, 2, 4, 3, 5, 6] hP hD rfl rfl (by decide +kernel) ty_mv2
        refine ty_Kv hP hD hS hA (va_runVN (As := [.int idx, .int 4, .int 2]) (rest := []) ⟨hx, hb, hml, hown, hts⟩ (r_X9_note l D ct (fun _ => none) [] (fun _ => True) (fun _ _ _ => True) wo tim se cu pr cco chs rc lg llim lwid lnu lold lsiz fln idx (4 : Int32) (2 : Int32) _ ty_V0 ty_C0 ty_y10) (cm_VN 3 hts kc_X9_note ki_RX9 kl_RX1_100 kv_X9_note kx_X9_note kd_X9_note ⟨Nat.le_of_ble_eq_true rfl, Nat.le_of_ble_eq_true rfl⟩) (ty_preE (ci := 9) hP hK hD hS hA hX rfl (ty_app (j := 0) rfl)) rfl rfl hl.1 rfl (lv_room (Nat.le_of_ble_eq_true rfl)) dX1_warn_96 ⟨Nat.le_of_ble_eq_true rfl, Nat.le_of_ble_eq_true rfl⟩) (fun u H locs hw_15 hP hD hS => ?_)
        obtain ⟨ws_16, lold1_17, lsiz1_18, fln1_19⟩ := u
        obtain ⟨hT9_20, hp_21⟩ := hw_15
        have hp_21 : (a_X9_note tim llim lwid lold lsiz fln idx (4 : Int32) (2 : Int32)) := hp_21
        obtain ⟨hP, hD⟩ := ty_bkPD (E := [(fn_1 ch idx cl mt sta prg stp las tb qu wai bin bou hel sbo), (fn_0 cl cur pts nom ohm pol tau chg lft cap thr pz tmp het cun vol bk), (fn_4 mt res mca mre trr wfo (wct + 1) bd), (fn_7 se efc fad hea coo low hig hot amb wlo whi who spa), (fn_9 wo tim se cu pr cco chs rc lg), (fn_8 lg llim lwid lnu lold1_17 lsiz1_18), (rf_RW ct 0 lnu 240 fln1_19)]) hP hD rfl
        refine lv_aload_n hx hb dX1_warn_99 rfl (lv_at hl 2 rfl) ?_
        refine va_get (v := .ref mt) (D := D) (ci := 1) (C := RX1) (T := TX1) (N := 14) hx hb hts in_X1 hown hK hP 0 rfl rfl 2 (by decide) (hts _ kl_RX1_25) (fun _ h9 => h9) rfl dX1_warn_100 ?_
        refine lv_iload_n hx hb dX1_warn_103 rfl (lv_at hl 0 rfl) ?_
        refine va_putN (v := .int 2) (ty := .int) (D := D) (ci := 4) (C := RX4) (T := TX4) (N := 7) hx hb hts in_X4 tyX4 tyX4_ok nmX4 hown hK hP hD hS 2 rfl rfl 4 (by decide) (hts _ kl_RX1_159) (fun _ h9 => h9) rfl (by decide +kernel) rfl rfl (Nat.le_of_ble_eq_true rfl) dX1_warn_104 (fun H locs hP hD hS => ?_)
        have hP : va_P D vwCl ([(fn_1 ch idx cl mt sta prg stp las tb qu wai bin bou hel sbo), (fn_0 cl cur pts nom ohm pol tau chg lft cap thr pz tmp het cun vol bk), (fn_4 mt res mca mre trr (2) (wct + 1) bd), (fn_7 se efc fad hea coo low hig hot amb wlo whi who spa), (fn_9 wo tim se cu pr cco chs rc lg), (fn_8 lg llim lwid lnu lold1_17 lsiz1_18), (rf_RW ct 0 lnu 240 fln1_19)] ++ ws) H := hP
        have hD : va_D A ([(fn_1 ch idx cl mt sta prg stp las tb qu wai bin bou hel sbo), (fn_0 cl cur pts nom ohm pol tau chg lft cap thr pz tmp het cun vol bk), (fn_4 mt res mca mre trr (2) (wct + 1) bd), (fn_7 se efc fad hea coo low hig hot amb wlo whi who spa), (fn_9 wo tim se cu pr cco chs rc lg), (fn_8 lg llim lwid lnu lold1_17 lsiz1_18), (rf_RW ct 0 lnu 240 fln1_19)] ++ ws) := hD
        obtain ⟨hP, hD⟩ := ty_ordPD (E2 := [(fn_1 ch idx cl mt sta prg stp las tb qu wai bin bou hel sbo), (fn_0 cl cur pts nom ohm pol tau chg lft cap thr pz tmp het cun vol bk), (fn_4 mt res mca mre trr (2) (wct + 1) bd), (fn_9 wo tim se cu pr cco chs rc lg), (fn_7 se efc fad hea coo low hig hot amb wlo whi who spa), (fn_8 lg llim lwid lnu lold1_17 lsiz1_18), (rf_RW ct 0 lnu 240 fln1_19)]) (n := 7) [0, 1, 2, 4, 3, 5, 6] hP hD rfl rfl (by decide +kernel)
        exact W.vret hx hb hr (fun t ht hW => ⟨⟨(ws, (2 : Int32), (wct + 1), lold1_17, lsiz1_18, fln1_19), rfl, ⟨hT, (Or.inl ⟨hc_1, (Or.inr ⟨hc_2, (Or.inr ⟨hc_13, ⟨lold1_17, lsiz1_18, fln1_19, hp_21, ⟨rfl, rfl⟩⟩⟩)⟩)⟩)⟩, by rw [ht]; exact hP, by rw [hAe]; exact hD⟩, hS.F ht⟩) hS.2.2 dX1_warn_107
  · refine lv_iconst (v := 1) hx hb dX1_warn_21 (by decide) ?_
    refine lv_istore_n (lv' := [(3, .int 1), (2, .ref se), (0, .ref ch), (1, .ref wo)]) hx hb dX1_warn_22 rfl hl (by decide) rfl (fun ls hl => ?_)
    refine lv_goto (tgt := 61) hx hb dX1_warn_23 (by decide) ?_
    refine lv_iload_n hx hb dX1_warn_61 rfl (lv_at hl 0 rfl) ?_
    refine lv_if_eq (tgt := 99) hx hb dX1_warn_62 (by decide) (fun hc => absurd hc (by decide)) (fun _ => ?_)
    refine lv_iload_n hx hb dX1_warn_65 rfl (lv_at hl 0 rfl) ?_
    refine lv_aload_n hx hb dX1_warn_66 rfl (lv_at hl 2 rfl) ?_
    refine va_get (v := .ref mt) (D := D) (ci := 1) (C := RX1) (T := TX1) (N := 14) hx hb hts in_X1 hown hK hP 0 rfl rfl 2 (by decide) (hts _ kl_RX1_25) (fun _ h9 => h9) rfl dX1_warn_67 ?_
    refine va_getN (v := .int wfo) (D := D) (ci := 4) (C := RX4) (T := TX4) (N := 7) hx hb hts in_X4 hown hK hP 2 rfl rfl 4 (by decide) (hts _ kl_RX1_159) (fun _ h9 => h9) rfl dX1_warn_70 ?_
    refine lv_icmp_eq (tgt := 99) hx hb dX1_warn_73 (by decide) (fun hc_22 => ?_) (fun hc_22 => ?_)
    · refine lv_aload_n hx hb dX1_warn_99 rfl (lv_at hl 2 rfl) ?_
      refine va_get (v := .ref mt) (D := D) (ci := 1) (C := RX1) (T := TX1) (N := 14) hx hb hts in_X1 hown hK hP 0 rfl rfl 2 (by decide) (hts _ kl_RX1_25) (fun _ h9 => h9) rfl dX1_warn_100 ?_
      refine lv_iload_n hx hb dX1_warn_103 rfl (lv_at hl 0 rfl) ?_
      refine va_putN (v := .int 1) (ty := .int) (D := D) (ci := 4) (C := RX4) (T := TX4) (N := 7) hx hb hts in_X4 tyX4 tyX4_ok nmX4 hown hK hP hD hS 2 rfl rfl 4 (by decide) (hts _ kl_RX1_159) (fun _ h9 => h9) rfl (by decide +kernel) rfl rfl (Nat.le_of_ble_eq_true rfl) dX1_warn_104 (fun H locs hP hD hS => ?_)
      have hP : va_P D vwCl ([(fn_1 ch idx cl mt sta prg stp las tb qu wai bin bou hel sbo), (fn_0 cl cur pts nom ohm pol tau chg lft cap thr pz tmp het cun vol bk), (fn_4 mt res mca mre trr (1) wct bd), (fn_9 wo tim se cu pr cco chs rc lg), (fn_7 se efc fad hea coo low hig hot amb wlo whi who spa), (fn_8 lg llim lwid lnu lold lsiz), (rf_RW ct 0 lnu 240 fln)] ++ ws) H := hP
      have hD : va_D A ([(fn_1 ch idx cl mt sta prg stp las tb qu wai bin bou hel sbo), (fn_0 cl cur pts nom ohm pol tau chg lft cap thr pz tmp het cun vol bk), (fn_4 mt res mca mre trr (1) wct bd), (fn_9 wo tim se cu pr cco chs rc lg), (fn_7 se efc fad hea coo low hig hot amb wlo whi who spa), (fn_8 lg llim lwid lnu lold lsiz), (rf_RW ct 0 lnu 240 fln)] ++ ws) := hD
      exact W.vret hx hb hr (fun t ht hW => ⟨⟨(ws, (1 : Int32), wct, lold, lsiz, fln), rfl, ⟨hT, (Or.inr ⟨hc_1, (Or.inl ⟨hc_22, ⟨rfl, rfl⟩⟩)⟩)⟩, by rw [ht]; exact hP, by rw [hAe]; exact hD⟩, hS.F ht⟩) hS.2.2 dX1_warn_107
    · refine lv_aload_n hx hb dX1_warn_76 rfl (lv_at hl 2 rfl) ?_
      refine va_get (v := .ref mt) (D := D) (ci := 1) (C := RX1) (T := TX1) (N := 14) hx hb hts in_X1 hown hK hP 0 rfl rfl 2 (by decide) (hts _ kl_RX1_25) (fun _ h9 => h9) rfl dX1_warn_77 ?_
      refine lv_dup hx hb dX1_warn_80 rfl ?_
      refine va_getN (v := .int wct) (D := D) (ci := 4) (C := RX4) (T := TX4) (N := 7) hx hb hts in_X4 hown hK hP 2 rfl rfl 5 (by decide) (hts _ kl_RX1_219) (fun _ h9 => h9) rfl dX1_warn_81 ?_
      refine lv_iconst (v := 1) hx hb dX1_warn_84 (by decide) ?_
      refine lv_iadd hx hb dX1_warn_85 ?_
      refine va_putN (v := .int (wct + 1)) (ty := .int) (D := D) (ci := 4) (C := RX4) (T := TX4) (N := 7) hx hb hts in_X4 tyX4 tyX4_ok nmX4 hown hK hP hD hS 2 rfl rfl 5 (by decide) (hts _ kl_RX1_219) (fun _ h9 => h9) rfl (by decide +kernel) rfl rfl (Nat.le_of_ble_eq_true rfl) dX1_warn_86 (fun H locs hP hD hS => ?_)
      have hP : va_P D vwCl ([(fn_1 ch idx cl mt sta prg stp las tb qu wai bin bou hel sbo), (fn_0 cl cur pts nom ohm pol tau chg lft cap thr pz tmp het cun vol bk), (fn_4 mt res mca mre trr wfo (wct + 1) bd), (fn_9 wo tim se cu pr cco chs rc lg), (fn_7 se efc fad hea coo low hig hot amb wlo whi who spa), (fn_8 lg llim lwid lnu lold lsiz), (rf_RW ct 0 lnu 240 fln)] ++ ws) H := hP
      have hD : va_D A ([(fn_1 ch idx cl mt sta prg stp las tb qu wai bin bou hel sbo), (fn_0 cl cur pts nom ohm pol tau chg lft cap thr pz tmp het cun vol bk), (fn_4 mt res mca mre trr wfo (wct + 1) bd), (fn_9 wo tim se cu pr cco chs rc lg), (fn_7 se efc fad hea coo low hig hot amb wlo whi who spa), (fn_8 lg llim lwid lnu lold lsiz), (rf_RW ct 0 lnu 240 fln)] ++ ws) := hD
      refine lv_aload_n hx hb dX1_warn_89 rfl (lv_at hl 3 rfl) ?_
      refine lv_aload_n hx hb dX1_warn_90 rfl (lv_at hl 2 rfl) ?_
      refine va_get (v := .int idx) (D := D) (ci := 1) (C := RX1) (T := TX1) (N := 14) hx hb hts in_X1 hown hK hP 0 rfl rfl 0 (by decide) (hts _ kl_RX1_9) (fun _ h9 => h9) rfl dX1_warn_91 ?_
      refine lv_iconst (v := 4) hx hb dX1_warn_94 (by decide) ?_
      refine lv_iload_n hx hb dX1_warn_95 rfl (lv_at hl 0 rfl) ?_
      obtain ⟨hP, hD⟩ := ty_opPD (E1 := [(fn_1 ch idx cl mt sta prg stp las tb qu wai bin bou hel sbo), (fn_0 cl cur pts nom ohm pol tau chg lft cap thr pz tmp het cun vol bk), (fn_4 mt res mca mre trr wfo (wct + 1) bd), (fn_7 se efc fad hea coo low hig hot amb wlo whi who spa)]) (E2 := [(fn_9 wo tim se cu pr cco chs rc lg), (fn_8 lg llim lwid lnu lold lsiz), (rf_RW ct 0 lnu 240 fln)]) (n := 7) [0, 1, 2, 4, 3, 5, 6] hP hD rfl rfl (by decide +kernel) ty_mv2
      refine ty_Kv hP hD hS hA (va_runVN (As := [.int idx, .int 4, .int 1]) (rest := []) ⟨hx, hb, hml, hown, hts⟩ (r_X9_note l D ct (fun _ => none) [] (fun _ => True) (fun _ _ _ => True) wo tim se cu pr cco chs rc lg llim lwid lnu lold lsiz fln idx (4 : Int32) (1 : Int32) _ ty_V0 ty_C0 ty_y10) (cm_VN 3 hts kc_X9_note ki_RX9 kl_RX1_100 kv_X9_note kx_X9_note kd_X9_note ⟨Nat.le_of_ble_eq_true rfl, Nat.le_of_ble_eq_true rfl⟩) (ty_preE (ci := 9) hP hK hD hS hA hX rfl (ty_app (j := 0) rfl)) rfl rfl hl.1 rfl (lv_room (Nat.le_of_ble_eq_true rfl)) dX1_warn_96 ⟨Nat.le_of_ble_eq_true rfl, Nat.le_of_ble_eq_true rfl⟩) (fun u H locs hw_24 hP hD hS => ?_)
      obtain ⟨ws_25, lold1_26, lsiz1_27, fln1_28⟩ := u
      obtain ⟨hT9_29, hp_30⟩ := hw_24
      have hp_30 : (a_X9_note tim llim lwid lold lsiz fln idx (4 : Int32) (1 : Int32)) := hp_30
      obtain ⟨hP, hD⟩ := ty_bkPD (E := [(fn_1 ch idx cl mt sta prg stp las tb qu wai bin bou hel sbo), (fn_0 cl cur pts nom ohm pol tau chg lft cap thr pz tmp het cun vol bk), (fn_4 mt res mca mre trr wfo (wct + 1) bd), (fn_7 se efc fad hea coo low hig hot amb wlo whi who spa), (fn_9 wo tim se cu pr cco chs rc lg), (fn_8 lg llim lwid lnu lold1_26 lsiz1_27), (rf_RW ct 0 lnu 240 fln1_28)]) hP hD rfl
      refine lv_aload_n hx hb dX1_warn_99 rfl (lv_at hl 2 rfl) ?_
      refine va_get (v := .ref mt) (D := D) (ci := 1) (C := RX1) (T := TX1) (N := 14) hx hb hts in_X1 hown hK hP 0 rfl rfl 2 (by decide) (hts _ kl_RX1_25) (fun _ h9 => h9) rfl dX1_warn_100 ?_
      refine lv_iload_n hx hb dX1_warn_103 rfl (lv_at hl 0 rfl) ?_
      refine va_putN (v := .int 1) (ty := .int) (D := D) (ci := 4) (C := RX4) (T := TX4) (N := 7) hx hb hts in_X4 tyX4 tyX4_ok nmX4 hown hK hP hD hS 2 rfl rfl 4 (by decide) (hts _ kl_RX1_159) (fun _ h9 => h9) rfl (by decide +kernel) rfl rfl (Nat.le_of_ble_eq_true rfl) dX1_warn_104 (fun H locs hP hD hS => ?_)
      have hP : va_P D vwCl ([(fn_1 ch idx cl mt sta prg stp las tb qu wai bin bou hel sbo), (fn_0 cl cur pts nom ohm pol tau chg lft cap thr pz tmp het cun vol bk), (fn_4 mt res mca mre trr (1) (wct + 1) bd), (fn_7 se efc fad hea coo low hig hot amb wlo whi who spa), (fn_9 wo tim se cu pr cco chs rc lg), (fn_8 lg llim lwid lnu lold1_26 lsiz1_27), (rf_RW ct 0 lnu 240 fln1_28)] ++ ws) H := hP
      have hD : va_D A ([(fn_1 ch idx cl mt sta prg stp las tb qu wai bin bou hel sbo), (fn_0 cl cur pts nom ohm pol tau chg lft cap thr pz tmp het cun vol bk), (fn_4 mt res mca mre trr (1) (wct + 1) bd), (fn_7 se efc fad hea coo low hig hot amb wlo whi who spa), (fn_9 wo tim se cu pr cco chs rc lg), (fn_8 lg llim lwid lnu lold1_26 lsiz1_27), (rf_RW ct 0 lnu 240 fln1_28)] ++ ws) := hD
      obtain ⟨hP, hD⟩ := ty_ordPD (E2 := [(fn_1 ch idx cl mt sta prg stp las tb qu wai bin bou hel sbo), (fn_0 cl cur pts nom ohm pol tau chg lft cap thr pz tmp het cun vol bk), (fn_4 mt res mca mre trr (1) (wct + 1) bd), (fn_9 wo tim se cu pr cco chs rc lg), (fn_7 se efc fad hea coo low hig hot amb wlo whi who spa), (fn_8 lg llim lwid lnu lold1_26 lsiz1_27), (rf_RW ct 0 lnu 240 fln1_28)]) (n := 7) [0, 1, 2, 4, 3, 5, 6] hP hD rfl rfl (by decide +kernel)
      exact W.vret hx hb hr (fun t ht hW => ⟨⟨(ws, (1 : Int32), (wct + 1), lold1_26, lsiz1_27, fln1_28), rfl, ⟨hT, (Or.inr ⟨hc_1, (Or.inr ⟨hc_22, ⟨lold1_26, lsiz1_27, fln1_28, hp_30, ⟨rfl, rfl⟩⟩⟩)⟩)⟩, by rw [ht]; exact hP, by rw [hAe]; exact hD⟩, hS.F ht⟩) hS.2.2 dX1_warn_107
def a_X1_wantedCurrent (sta : Int32) (prg : Int32) (stp : Int32) (pts : Int32) (ohm : Int32) (chg : Int32) (cap : Int32) (pz : Int32) (cv : Nat → Int32) (fkds : Nat → Int32) (ffst : Nat → Int32) (r : Int32) : Prop := ((sta = (1 : Int32) ∧ (∃ (r_2 : Int32), (a_X5_firstOf ffst prg stp r_2) ∧ (∃ (r_7 : Int32), (a_X5_kindOf fkds prg stp r_7) ∧ ((r_7 = (0 : Int32) ∧ (r = r_2)) ∨ (¬ r_7 = (0 : Int32) ∧ ((r_7 = (1 : Int32) ∧ (∃ (r_14 : Int32), (a_X0_holding pts ohm chg cap pz cv r_2 r_14) ∧ (r = r_14))) ∨ (¬ r_7 = (1 : Int32) ∧ ((r_7 = (2 : Int32) ∧ (r = (- r_2))) ∨ (¬ r_7 = (2 : Int32) ∧ (r = 0)))))))))) ∨ (¬ sta = (1 : Int32) ∧ (r = 0)))
set_option maxRecDepth 100000 in
set_option maxHeartbeats 4000000 in
theorem r_X1_wantedCurrent (l : Launch) (D : va_G) (ct : Nat → ClassId) (S : ty_S) (ws : va_W) (ph : va_W → Prop) (xx : Nat → Nat → Nat → Prop) (ch : Nat) (idx : Int32) (cl : Nat) (mt : Nat) (sta : Int32) (prg : Int32) (stp : Int32) (las : Int32) (tb : Nat) (qu : Nat) (wai : Int32) (bin : Int64) (bou : Int64) (hel : Int32) (sbo : Int64) (cur : Nat) (pts : Int32) (nom : Int32) (ohm : Int32) (pol : Int32) (tau : Int32) (chg : Int32) (lft : Int32) (cap : Int32) (thr : Int32) (pz : Int32) (tmp : Int32) (het : Int32) (cun : Int32) (vol : Int32) (bk : Nat) (cv : Nat → Int32) (wo : Nat) (tim : Int32) (se : Nat) (cu : Nat) (pr : Nat) (cco : Int32) (chs : Nat) (rc : Nat) (lg : Nat) (pcn : Int32) (sps : Nat) (kds : Nat) (fst : Nat) (scs : Nat) (fkds : Nat → Int32) (ffst : Nat → Int32) (sz : Nat) (hT : ty_V ct S ph ws) (hph : ty_C ph xx) (hy1 : ty_y1 xx) : Met l yX1_wantedCurrent (ws_ yX1_wantedCurrent cX1_wantedCurrent 3 (some .int)) ({ frames := 3, cells := 0, slots := 0, locals := 74 } : Room) (va_Pc [.ref ch, .ref wo] (cmP D ct sz ([(fn_1 ch idx cl mt sta prg stp las tb qu wai bin bou hel sbo), (fn_0 cl cur pts nom ohm pol tau chg lft cap thr pz tmp het cun vol bk), (rf_RW ct 0 cur 11 cv), (fn_9 wo tim se cu pr cco chs rc lg), (fn_5 pr pcn sps kds fst scs), (rf_RW ct 0 kds 48 fkds), (rf_RW ct 0 fst 48 ffst)] ++ ws))) (va_Qi (fun (r : Int32) (u9 : va_W) => ty_V ct S ph u9 ∧ (a_X1_wantedCurrent sta prg stp pts ohm chg cap pz cv fkds ffst r)) (cmB D ([(fn_1 ch idx cl mt sta prg stp las tb qu wai bin bou hel sbo), (fn_0 cl cur pts nom ohm pol tau chg lft cap thr pz tmp het cun vol bk), (rf_RW ct 0 cur 11 cv), (fn_9 wo tim se cu pr cco chs rc lg), (fn_5 pr pcn sps kds fst scs), (rf_RW ct 0 kds 48 fkds), (rf_RW ct 0 fst 48 ffst)] ++ ws) sz (fun (u9 : va_W) => ([(fn_1 ch idx cl mt sta prg stp las tb qu wai bin bou hel sbo), (fn_0 cl cur pts nom ohm pol tau chg lft cap thr pz tmp het cun vol bk), (rf_RW ct 0 cur 11 cv), (fn_9 wo tim se cu pr cco chs rc lg), (fn_5 pr pcn sps kds fst scs), (rf_RW ct 0 kds 48 fkds), (rf_RW ct 0 fst 48 ffst)] ++ u9))) (va_A ([(fn_1 ch idx cl mt sta prg stp las tb qu wai bin bou hel sbo), (fn_0 cl cur pts nom ohm pol tau chg lft cap thr pz tmp het cun vol bk), (rf_RW ct 0 cur 11 cv), (fn_9 wo tim se cu pr cco chs rc lg), (fn_5 pr pcn sps kds fst scs), (rf_RW ct 0 kds 48 fkds), (rf_RW ct 0 fst 48 ffst)] ++ ws) sz)) 0 0 (va_A ([(fn_1 ch idx cl mt sta prg stp las tb qu wai bin bou hel sbo), (fn_0 cl cur pts nom ohm pol tau chg lft cap thr pz tmp het cun vol bk), (rf_RW ct 0 cur 11 cv), (fn_9 wo tim se cu pr cco chs rc lg), (fn_5 pr pcn sps kds fst scs), (rf_RW ct 0 kds 48 fkds), (rf_RW ct 0 fst 48 ffst)] ++ ws) sz) := by
  refine Met.ofW (cc := cX1_wantedCurrent) (maxL := 3) (ret := (some .int)) (by decide) rfl ?_
  intro p e s m args below meth c s₁ B hml hv
  obtain ⟨rfl, hsz, hP, hK, hD0, hX⟩ := hv
  have hx := B.exec
  have hb := B.bytes
  have hr := B.returns
  have hts := ws_all (atoms_spec (ws := ws_ yX1_wantedCurrent cX1_wantedCurrent 3 (some .int)) B.pre)
  have hown : s.vm.findClass RX1 = some m.cls := findClass_of_methodNamed B.named
  have hlocks := B.notSynchronized
  subst hsz
  have hD := hD0.self (sz := s.heap.size)
  generalize hAe : va_A ([(fn_1 ch idx cl mt sta prg stp las tb qu wai bin bou hel sbo), (fn_0 cl cur pts nom ohm pol tau chg lft cap thr pz tmp het cun vol bk), (rf_RW ct 0 cur 11 cv), (fn_9 wo tim se cu pr cco chs rc lg), (fn_5 pr pcn sps kds fst scs), (rf_RW ct 0 kds 48 fkds), (rf_RW ct 0 fst 48 ffst)] ++ ws) s.heap.size = A at hD hX ⊢
  have hA : ∀ q : Nat, s.heap.size ≤ q → A q := fun q h => by rw [← hAe]; exact Or.inr h
  have hS : va_S A s.heap s.heap [] := va_S.rf
  have hl := lv_entry ([.ref ch, .ref wo]) (n := 3) (Nat.le_of_ble_eq_true rfl)
  rw [lg_entry_eq]
  generalize (lg_sl ([.ref ch, .ref wo]) ++ List.replicate (3 - (lg_sl ([.ref ch, .ref wo])).length) Slot.unset).toArray = ls at hl ⊢
  have hl : lv_has ls 3 [(0, .ref ch), (1, .ref wo)] := hl
  refine lv_aload_n hx hb dX1_wantedCurrent_0 rfl (lv_at hl 0 rfl) ?_
  refine va_get (v := .int sta) (D := D) (ci := 1) (C := RX1) (T := TX1) (N := 14) hx hb hts in_X1 hown hK hP 0 rfl rfl 3 (by decide) (hts _ kl_RX1_43) (fun _ h9 => h9) rfl dX1_wantedCurrent_1 ?_
  refine lv_iconst (v := 1) hx hb dX1_wantedCurrent_4 (by decide) ?_
  refine lv_icmp_eq (tgt := 10) hx hb dX1_wantedCurrent_5 (by decide) (fun hc_1 => ?_) (fun hc_1 => ?_)
  · refine lv_aload_n hx hb dX1_wantedCurrent_10 rfl (lv_at hl 1 rfl) ?_
    refine va_getN (v := .ref pr) (D := D) (ci := 9) (C := RX9) (T := TX9) (N := 8) hx hb hts in_X9 hown hK hP 3 rfl rfl 3 (by decide) (hts _ kl_RX1_175) (fun _ h9 => h9) rfl dX1_wantedCurrent_11 ?_
    refine lv_aload_n hx hb dX1_wantedCurrent_14 rfl (lv_at hl 0 rfl) ?_
    refine va_get (v := .int prg) (D := D) (ci := 1) (C := RX1) (T := TX1) (N := 14) hx hb hts in_X1 hown hK hP 0 rfl rfl 4 (by decide) (hts _ kl_RX1_46) (fun _ h9 => h9) rfl dX1_wantedCurrent_15 ?_
    refine lv_aload_n hx hb dX1_wantedCurrent_18 rfl (lv_at hl 0 rfl) ?_
    refine va_get (v := .int stp) (D := D) (ci := 1) (C := RX1) (T := TX1) (N := 14) hx hb hts in_X1 hown hK hP 0 rfl rfl 5 (by decide) (hts _ kl_RX1_49) (fun _ h9 => h9) rfl dX1_wantedCurrent_19 ?_
    obtain ⟨hP, hD⟩ := ty_opPD (E1 := [(fn_1 ch idx cl mt sta prg stp las tb qu wai bin bou hel sbo), (fn_0 cl cur pts nom ohm pol tau chg lft cap thr pz tmp het cun vol bk), (rf_RW ct 0 cur 11 cv), (fn_9 wo tim se cu pr cco chs rc lg), (rf_RW ct 0 kds 48 fkds)]) (E2 := [(fn_5 pr pcn sps kds fst scs), (rf_RW ct 0 fst 48 ffst)]) (n := 7) [0, 1, 2, 3, 5, 4, 6] hP hD rfl rfl (by decide +kernel) ty_mv2
    refine ty_Ki hP hD hS hA (va_runVN (As := [.int prg, .int stp]) (rest := []) ⟨hx, hb, hml, hown, hts⟩ (r_X5_firstOf l D ct (fun _ => none) [] (fun _ => True) (fun _ _ _ => True) pr pcn sps kds fst scs ffst prg stp _ ty_V0 ty_C0 ty_y10) (cm_VN 2 hts kc_X5_firstOf ki_RX5 kl_RX1_196 kv_X5_firstOf kx_X5_firstOf kd_X5_firstOf ⟨Nat.le_of_ble_eq_true rfl, Nat.le_of_ble_eq_true rfl⟩) (ty_preE (ci := 5) hP hK hD hS hA hX rfl (ty_app (j := 0) rfl)) rfl rfl hl.1 rfl (lv_room (Nat.le_of_ble_eq_true rfl)) dX1_wantedCurrent_22 ⟨Nat.le_of_ble_eq_true rfl, Nat.le_of_ble_eq_true rfl⟩) (fun r_2 u H locs hw_3 hP hD hS => ?_)
    obtain ⟨ws_4, rfl⟩ : ∃ z, z = u := ⟨_, rfl⟩
    obtain ⟨hT9_5, hp_6⟩ := hw_3
    have hp_6 : (a_X5_firstOf ffst prg stp r_2) := hp_6
    obtain ⟨hP, hD⟩ := ty_bkPD (E := [(fn_1 ch idx cl mt sta prg stp las tb qu wai bin bou hel sbo), (fn_0 cl cur pts nom ohm pol tau chg lft cap thr pz tmp het cun vol bk), (rf_RW ct 0 cur 11 cv), (fn_9 wo tim se cu pr cco chs rc lg), (rf_RW ct 0 kds 48 fkds), (fn_5 pr pcn sps kds fst scs), (rf_RW ct 0 fst 48 ffst)]) hP hD rfl
    refine lv_istore_n (lv' := [(2, .int r_2), (0, .ref ch), (1, .ref wo)]) hx hb dX1_wantedCurrent_25 rfl hl (by decide) rfl (fun ls hl => ?_)
    refine lv_aload_n hx hb dX1_wantedCurrent_26 rfl (lv_at hl 2 rfl) ?_
    refine va_getN (v := .ref pr) (D := D) (ci := 9) (C := RX9) (T := TX9) (N := 8) hx hb hts in_X9 hown hK hP 3 rfl rfl 3 (by decide) (hts _ kl_RX1_175) (fun _ h9 => h9) rfl dX1_wantedCurrent_27 ?_
    refine lv_aload_n hx hb dX1_wantedCurrent_30 rfl (lv_at hl 1 rfl) ?_
    refine va_get (v := .int prg) (D := D) (ci := 1) (C := RX1) (T := TX1) (N := 14) hx hb hts in_X1 hown hK hP 0 rfl rfl 4 (by decide) (hts _ kl_RX1_46) (fun _ h9 => h9) rfl dX1_wantedCurrent_31 ?_
    refine lv_aload_n hx hb dX1_wantedCurrent_34 rfl (lv_at hl 1 rfl) ?_
    refine va_get (v := .int stp) (D := D) (ci := 1) (C := RX1) (T := TX1) (N := 14) hx hb hts in_X1 hown hK hP 0 rfl rfl 5 (by decide) (hts _ kl_RX1_49) (fun _ h9 => h9) rfl dX1_wantedCurrent_35 ?_
    obtain ⟨hP, hD⟩ := ty_opPD (E1 := [(fn_1 ch idx cl mt sta prg stp las tb qu wai bin bou hel sbo), (fn_0 cl cur pts nom ohm pol tau chg lft cap thr pz tmp het cun vol bk), (rf_RW ct 0 cur 11 cv), (fn_9 wo tim se cu pr cco chs rc lg), (rf_RW ct 0 fst 48 ffst)]) (E2 := [(fn_5 pr pcn sps kds fst scs), (rf_RW ct 0 kds 48 fkds)]) (n := 7) [0, 1, 2, 3, 6, 5, 4] hP hD rfl rfl (by decide +kernel) ty_mv2
    refine ty_Ki hP hD hS hA (va_runVN (As := [.int prg, .int stp]) (rest := []) ⟨hx, hb, hml, hown, hts⟩ (r_X5_kindOf l D ct (fun _ => none) [] (fun _ => True) (fun _ _ _ => True) pr pcn sps kds fst scs fkds prg stp _ ty_V0 ty_C0 ty_y10) (cm_VN 2 hts kc_X5_kindOf ki_RX5 kl_RX1_201 kv_X5_kindOf kx_X5_kindOf kd_X5_kindOf ⟨Nat.le_of_ble_eq_true rfl, Nat.le_of_ble_eq_true rfl⟩) (ty_preE (ci := 5) hP hK hD hS hA hX rfl (ty_app (j := 0) rfl)) rfl rfl hl.1 rfl (lv_room (Nat.le_of_ble_eq_true rfl)) dX1_wantedCurrent_38 ⟨Nat.le_of_ble_eq_true rfl, Nat.le_of_ble_eq_true rfl⟩) (fun r_7 u H locs hw_8 hP hD hS => ?_)
    obtain ⟨ws_9, rfl⟩ : ∃ z, z = u := ⟨_, rfl⟩
    obtain ⟨hT9_10, hp_11⟩ := hw_8
    have hp_11 : (a_X5_kindOf fkds prg stp r_7) := hp_11
    obtain ⟨hP, hD⟩ := ty_bkPD (E := [(fn_1 ch idx cl mt sta prg stp las tb qu wai bin bou hel sbo), (fn_0 cl cur pts nom ohm pol tau chg lft cap thr pz tmp het cun vol bk), (rf_RW ct 0 cur 11 cv), (fn_9 wo tim se cu pr cco chs rc lg), (rf_RW ct 0 fst 48 ffst), (fn_5 pr pcn sps kds fst scs), (rf_RW ct 0 kds 48 fkds)]) hP hD rfl
    by_cases hk_12 : r_7 = 0
    · refine cm_cst hk_12 (lv_tableIn (off := 27) (tgt := 68) hx hb dX1_wantedCurrent_41 (by decide) (by decide) (by decide) (by decide) ?_)
      refine lv_iload_n hx hb dX1_wantedCurrent_68 rfl (lv_at hl 0 rfl) ?_
      obtain ⟨hP, hD⟩ := ty_ordPD (E2 := [(fn_1 ch idx cl mt sta prg stp las tb qu wai bin bou hel sbo), (fn_0 cl cur pts nom ohm pol tau chg lft cap thr pz tmp het cun vol bk), (rf_RW ct 0 cur 11 cv), (fn_9 wo tim se cu pr cco chs rc lg), (fn_5 pr pcn sps kds fst scs), (rf_RW ct 0 kds 48 fkds), (rf_RW ct 0 fst 48 ffst)]) (n := 7) [0, 1, 2, 3, 5, 6, 4] hP hD rfl rfl (by decide +kernel)
      exact W.iret (v := r_2) hx hb hr (fun t ht hW => ⟨⟨r_2, ws, rfl, ⟨hT, (Or.inl ⟨hc_1, ⟨r_2, hp_6, ⟨r_7, hp_11, (Or.inl ⟨hk_12, rfl⟩)⟩⟩⟩)⟩, by rw [ht]; exact hP, by rw [hAe]; exact hD⟩, hS.F ht⟩) hS.2.2 dX1_wantedCurrent_69
    by_cases hk_13 : r_7 = 1
    · refine cm_cst hk_13 (lv_tableIn (off := 29) (tgt := 70) hx hb dX1_wantedCurrent_41 (by decide) (by decide) (by decide) (by decide) ?_)
      refine lv_aload_n hx hb dX1_wantedCurrent_70 rfl (lv_at hl 1 rfl) ?_
      refine va_get (v := .ref cl) (D := D) (ci := 1) (C := RX1) (T := TX1) (N := 14) hx hb hts in_X1 hown hK hP 0 rfl rfl 1 (by decide) (hts _ kl_RX1_18) (fun _ h9 => h9) rfl dX1_wantedCurrent_71 ?_
      refine lv_iload_n hx hb dX1_wantedCurrent_74 rfl (lv_at hl 0 rfl) ?_
      obtain ⟨hP, hD⟩ := ty_opPD (E1 := [(fn_1 ch idx cl mt sta prg stp las tb qu wai bin bou hel sbo), (fn_9 wo tim se cu pr cco chs rc lg), (rf_RW ct 0 fst 48 ffst), (fn_5 pr pcn sps kds fst scs), (rf_RW ct 0 kds 48 fkds)]) (E2 := [(fn_0 cl cur pts nom ohm pol tau chg lft cap thr pz tmp het cun vol bk), (rf_RW ct 0 cur 11 cv)]) (n := 7) [0, 3, 4, 5, 6, 1, 2] hP hD rfl rfl (by decide +kernel) ty_mv2
      refine ty_Ki hP hD hS hA (va_runVN (As := [.int r_2]) (rest := []) ⟨hx, hb, hml, hown, hts⟩ (r_X0_holding l D ct (fun _ => none) [] (fun _ => True) (fun _ _ _ => True) cl cur pts nom ohm pol tau chg lft cap thr pz tmp het cun vol bk cv r_2 _ ty_V0 ty_C0 ty_y10) (cm_VN 1 hts kc_X0_holding ki_RX0 kl_RX1_204 kv_X0_holding kx_X0_holding kd_X0_holding ⟨Nat.le_of_ble_eq_true rfl, Nat.le_of_ble_eq_true rfl⟩) (ty_preE (ci := 0) hP hK hD hS hA hX rfl (ty_app (j := 0) rfl)) rfl rfl hl.1 rfl (lv_room (Nat.le_of_ble_eq_true rfl)) dX1_wantedCurrent_75 ⟨Nat.le_of_ble_eq_true rfl, Nat.le_of_ble_eq_true rfl⟩) (fun r_14 u H locs hw_15 hP hD hS => ?_)
      obtain ⟨ws_16, rfl⟩ : ∃ z, z = u := ⟨_, rfl⟩
      obtain ⟨hT9_17, hp_18⟩ := hw_15
      have hp_18 : (a_X0_holding pts ohm chg cap pz cv r_2 r_14) := hp_18
      obtain ⟨hP, hD⟩ := ty_bkPD (E := [(fn_1 ch idx cl mt sta prg stp las tb qu wai bin bou hel sbo), (fn_9 wo tim se cu pr cco chs rc lg), (rf_RW ct 0 fst 48 ffst), (fn_5 pr pcn sps kds fst scs), (rf_RW ct 0 kds 48 fkds), (fn_0 cl cur pts nom ohm pol tau chg lft cap thr pz tmp het cun vol bk), (rf_RW ct 0 cur 11 cv)]) hP hD rfl
      obtain ⟨hP, hD⟩ := ty_ordPD (E2 := [(fn_1 ch idx cl mt sta prg stp las tb qu wai bin bou hel sbo), (fn_0 cl cur pts nom ohm pol tau chg lft cap thr pz tmp het cun vol bk), (rf_RW ct 0 cur 11 cv), (fn_9 wo tim se cu pr cco chs rc lg), (fn_5 pr pcn sps kds fst scs), (rf_RW ct 0 kds 48 fkds), (rf_RW ct 0 fst 48 ffst)]) (n := 7) [0, 5, 6, 1, 3, 4, 2] hP hD rfl rfl (by decide +kernel)
      exact W.iret (v := r_14) hx hb hr (fun t ht hW => ⟨⟨r_14, ws, rfl, ⟨hT, (Or.inl ⟨hc_1, ⟨r_2, hp_6, ⟨r_7, hp_11, (Or.inr ⟨hk_12, (Or.inl ⟨hk_13, ⟨r_14, hp_18, rfl⟩⟩)⟩)⟩⟩⟩)⟩, by rw [ht]; exact hP, by rw [hAe]; exact hD⟩, hS.F ht⟩) hS.2.2 dX1_wantedCurrent_78
    by_cases hk_19 : r_7 = 2
    · refine cm_cst hk_19 (lv_tableIn (off := 38) (tgt := 79) hx hb dX1_wantedCurrent_41 (by decide) (by decide) (by decide) (by decide) ?_)
      refine lv_iload_n hx hb dX1_wantedCurrent_79 rfl (lv_at hl 0 rfl) ?_
      refine lv_ineg hx hb dX1_wantedCurrent_80 ?_
      obtain ⟨hP, hD⟩ := ty_ordPD (E2 := [(fn_1 ch idx cl mt sta prg stp las tb qu wai bin bou hel sbo), (fn_0 cl cur pts nom ohm pol tau chg lft cap thr pz tmp het cun vol bk), (rf_RW ct 0 cur 11 cv), (fn_9 wo tim se cu pr cco chs rc lg), (fn_5 pr pcn sps kds fst scs), (rf_RW ct 0 kds 48 fkds), (rf_RW ct 0 fst 48 ffst)]) (n := 7) [0, 1, 2, 3, 5, 6, 4] hP hD rfl rfl (by decide +kernel)
      exact W.iret (v := (- r_2)) hx hb hr (fun t ht hW => ⟨⟨(- r_2), ws, rfl, ⟨hT, (Or.inl ⟨hc_1, ⟨r_2, hp_6, ⟨r_7, hp_11, (Or.inr ⟨hk_12, (Or.inr ⟨hk_13, (Or.inl ⟨hk_19, rfl⟩)⟩)⟩)⟩⟩⟩)⟩, by rw [ht]; exact hP, by rw [hAe]; exact hD⟩, hS.F ht⟩) hS.2.2 dX1_wantedCurrent_81
    refine lv_tableOut (tgt := 82) hx hb dX1_wantedCurrent_41 (ty_sw0_2 hk_12 hk_13 hk_19) (by decide) ?_
    refine lv_iconst (v := 0) hx hb dX1_wantedCurrent_82 (by decide) ?_
    obtain ⟨hP, hD⟩ := ty_ordPD (E2 := [(fn_1 ch idx cl mt sta prg stp las tb qu wai bin bou hel sbo), (fn_0 cl cur pts nom ohm pol tau chg lft cap thr pz tmp het cun vol bk), (rf_RW ct 0 cur 11 cv), (fn_9 wo tim se cu pr cco chs rc lg), (fn_5 pr pcn sps kds fst scs), (rf_RW ct 0 kds 48 fkds), (rf_RW ct 0 fst 48 ffst)]) (n := 7) [0, 1, 2, 3, 5, 6, 4] hP hD rfl rfl (by decide +kernel)
    exact W.iret (v := 0) hx hb hr (fun t ht hW => ⟨⟨0, ws, rfl, ⟨hT, (Or.inl ⟨hc_1, ⟨r_2, hp_6, ⟨r_7, hp_11, (Or.inr ⟨hk_12, (Or.inr ⟨hk_13, (Or.inr ⟨hk_19, rfl⟩)⟩)⟩)⟩⟩⟩)⟩, by rw [ht]; exact hP, by rw [hAe]; exact hD⟩, hS.F ht⟩) hS.2.2 dX1_wantedCurrent_83
  · refine lv_iconst (v := 0) hx hb dX1_wantedCurrent_8 (by decide) ?_
    exact W.iret (v := 0) hx hb hr (fun t ht hW => ⟨⟨0, ws, rfl, ⟨hT, (Or.inr ⟨hc_1, rfl⟩)⟩, by rw [ht]; exact hP, by rw [hAe]; exact hD⟩, hS.F ht⟩) hS.2.2 dX1_wantedCurrent_9
def a_X1_makeRecord (idx : Int32) (prg : Int32) (stp : Int32) (bin : Int64) (bou : Int64) (hel : Int32) (sbo : Int64) (vol : Int32) (cin : Int64) (cou : Int64) (mca : Int32) (tim : Int32) (fscs : Nat → Int32) (rlim : Int32) (rwid : Int32) (rold : Int32) (rsiz : Int32) (frn : Nat → Int32) (bin1 : Int64) (bou1 : Int64) (hel1 : Int32) (mca1 : Int32) (rold1 : Int32) (rsiz1 : Int32) (frn1 : Nat → Int32) : Prop := (∃ (r_1 : Int32), (a_X5_secondOf fscs prg stp r_1) ∧ ((r_1 < vol ∧ ((hel = (0 : Int32) ∧ (∃ (told1_11 : Int32) (tsiz1_12 : Int32), (a_X8_addRow rlim rold rsiz told1_11 tsiz1_12) ∧ (∃ (r_15 : Int32), (a_X8_placeOf rlim rwid told1_11 (tsiz1_12 - 1) r_15) ∧ (∃ (b1_23 : Nat → Int32), (a_X10_put_150 frn (r_15 + 0) idx b1_23) ∧ (∃ (b1_29 : Nat → Int32), (a_X10_put_150 b1_23 (r_15 + 1) ((cin - bin).toInt32) b1_29) ∧ (∃ (b1_35 : Nat → Int32), (a_X10_put_150 b1_29 (r_15 + 2) ((cou - bou).toInt32) b1_35) ∧ (∃ (b1_41 : Nat → Int32), (a_X10_put_150 b1_35 (r_15 + 3) tim b1_41) ∧ (∃ (b1_47 : Nat → Int32), (a_X10_put_150 b1_41 (r_15 + 4) (0 : Int32) b1_47) ∧ (bin1 = cin ∧ bou1 = cou ∧ hel1 = 0 ∧ mca1 = mca ∧ rold1 = told1_11 ∧ rsiz1 = tsiz1_12 ∧ frn1 = b1_47))))))))) ∨ (¬ hel = (0 : Int32) ∧ (∃ (told1_57 : Int32) (tsiz1_58 : Int32), (a_X8_addRow rlim rold rsiz told1_57 tsiz1_58) ∧ (∃ (r_61 : Int32), (a_X8_placeOf rlim rwid told1_57 (tsiz1_58 - 1) r_61) ∧ (∃ (b1_69 : Nat → Int32), (a_X10_put_150 frn (r_61 + 0) idx b1_69) ∧ (∃ (b1_75 : Nat → Int32), (a_X10_put_150 b1_69 (r_61 + 1) ((cin - bin).toInt32) b1_75) ∧ (∃ (b1_81 : Nat → Int32), (a_X10_put_150 b1_75 (r_61 + 2) ((cou - bou).toInt32) b1_81) ∧ (∃ (b1_87 : Nat → Int32), (a_X10_put_150 b1_81 (r_61 + 3) tim b1_87) ∧ (∃ (b1_93 : Nat → Int32), (a_X10_put_150 b1_87 (r_61 + 4) (0 : Int32) b1_93) ∧ (bin1 = cin ∧ bou1 = cou ∧ hel1 = 0 ∧ mca1 = mca ∧ rold1 = told1_57 ∧ rsiz1 = tsiz1_58 ∧ frn1 = b1_93))))))))))) ∨ (¬ r_1 < vol ∧ ((hel = (0 : Int32) ∧ (∃ (told1_104 : Int32) (tsiz1_105 : Int32), (a_X8_addRow rlim rold rsiz told1_104 tsiz1_105) ∧ (∃ (r_108 : Int32), (a_X8_placeOf rlim rwid told1_104 (tsiz1_105 - 1) r_108) ∧ (∃ (b1_116 : Nat → Int32), (a_X10_put_150 frn (r_108 + 0) idx b1_116) ∧ (∃ (b1_122 : Nat → Int32), (a_X10_put_150 b1_116 (r_108 + 1) ((cin - bin).toInt32) b1_122) ∧ (∃ (b1_128 : Nat → Int32), (a_X10_put_150 b1_122 (r_108 + 2) ((cou - bou).toInt32) b1_128) ∧ (∃ (b1_134 : Nat → Int32), (a_X10_put_150 b1_128 (r_108 + 3) tim b1_134) ∧ (∃ (b1_140 : Nat → Int32), (a_X10_put_150 b1_134 (r_108 + 4) (0 : Int32) b1_140) ∧ (bin1 = cin ∧ bou1 = cou ∧ hel1 = 0 ∧ mca1 = mca ∧ rold1 = told1_104 ∧ rsiz1 = tsiz1_105 ∧ frn1 = b1_140))))))))) ∨ (¬ hel = (0 : Int32) ∧ (∃ (told1_150 : Int32) (tsiz1_151 : Int32), (a_X8_addRow rlim rold rsiz told1_150 tsiz1_151) ∧ (∃ (r_154 : Int32), (a_X8_placeOf rlim rwid told1_150 (tsiz1_151 - 1) r_154) ∧ (∃ (b1_162 : Nat → Int32), (a_X10_put_150 frn (r_154 + 0) idx b1_162) ∧ (∃ (b1_168 : Nat → Int32), (a_X10_put_150 b1_162 (r_154 + 1) ((cin - bin).toInt32) b1_168) ∧ (∃ (b1_174 : Nat → Int32), (a_X10_put_150 b1_168 (r_154 + 2) ((cou - bou).toInt32) b1_174) ∧ (∃ (b1_180 : Nat → Int32), (a_X10_put_150 b1_174 (r_154 + 3) tim b1_180) ∧ (∃ (b1_186 : Nat → Int32), (a_X10_put_150 b1_180 (r_154 + 4) (1 : Int32) b1_186) ∧ (bin1 = cin ∧ bou1 = cou ∧ hel1 = 0 ∧ mca1 = (cou - sbo).toInt32 ∧ rold1 = told1_150 ∧ rsiz1 = tsiz1_151 ∧ frn1 = b1_186)))))))))))))
set_option maxRecDepth 100000 in
set_option maxHeartbeats 4000000 in
theorem r_X1_makeRecord (l : Launch) (D : va_G) (ct : Nat → ClassId) (S : ty_S) (ws : va_W) (ph : va_W → Prop) (xx : Nat → Nat → Nat → Prop) (ch : Nat) (idx : Int32) (cl : Nat) (mt : Nat) (sta : Int32) (prg : Int32) (stp : Int32) (las : Int32) (tb : Nat) (qu : Nat) (wai : Int32) (bin : Int64) (bou : Int64) (hel : Int32) (sbo : Int64) (cur : Nat) (pts : Int32) (nom : Int32) (ohm : Int32) (pol : Int32) (tau : Int32) (chg : Int32) (lft : Int32) (cap : Int32) (thr : Int32) (pz : Int32) (tmp : Int32) (het : Int32) (cun : Int32) (vol : Int32) (bk : Nat) (cin : Int64) (cou : Int64) (ein : Int64) (eou : Int64) (res : Int32) (mca : Int32) (mre : Int32) (trr : Int32) (wfo : Int32) (wct : Int32) (bd : Nat) (wo : Nat) (tim : Int32) (se : Nat) (cu : Nat) (pr : Nat) (cco : Int32) (chs : Nat) (rc : Nat) (lg : Nat) (pcn : Int32) (sps : Nat) (kds : Nat) (fst : Nat) (scs : Nat) (fkds : Nat → Int32) (fscs : Nat → Int32) (rlim : Int32) (rwid : Int32) (rnu : Nat) (rold : Int32) (rsiz : Int32) (frn : Nat → Int32) (sz : Nat) (hT : ty_V ct S ph ws) (hph : ty_C ph xx) (hy1 : ty_y1 xx) : Met l yX1_makeRecord (ws_ yX1_makeRecord cX1_makeRecord 8 none) ({ frames := 2, cells := 0, slots := 0, locals := 43 } : Room) (va_Pc [.ref ch, .ref wo] (cmP D ct sz ([(fn_1 ch idx cl mt sta prg stp las tb qu wai bin bou hel sbo), (fn_0 cl cur pts nom ohm pol tau chg lft cap thr pz tmp het cun vol bk), (fn_3 bk cin cou ein eou), (fn_4 mt res mca mre trr wfo wct bd), (fn_9 wo tim se cu pr cco chs rc lg), (fn_5 pr pcn sps kds fst scs), (rf_RW ct 0 kds 48 fkds), (rf_RW ct 0 scs 48 fscs), (fn_8 rc rlim rwid rnu rold rsiz), (rf_RW ct 0 rnu 150 frn)] ++ ws))) (va_Qv (fun (u : va_W × Int64 × Int64 × Int32 × Int32 × Int32 × Int32 × (Nat → Int32)) => match u with | (u9, bin1, bou1, hel1, mca1, rold1, rsiz1, frn1) => ty_V ct S ph u9 ∧ (a_X1_makeRecord idx prg stp bin bou hel sbo vol cin cou mca tim fscs rlim rwid rold rsiz frn bin1 bou1 hel1 mca1 rold1 rsiz1 frn1) ∧ (a_nb hel → a_nb hel1)) (cmB D ([(fn_1 ch idx cl mt sta prg stp las tb qu wai bin bou hel sbo), (fn_0 cl cur pts nom ohm pol tau chg lft cap thr pz tmp het cun vol bk), (fn_3 bk cin cou ein eou), (fn_4 mt res mca mre trr wfo wct bd), (fn_9 wo tim se cu pr cco chs rc lg), (fn_5 pr pcn sps kds fst scs), (rf_RW ct 0 kds 48 fkds), (rf_RW ct 0 scs 48 fscs), (fn_8 rc rlim rwid rnu rold rsiz), (rf_RW ct 0 rnu 150 frn)] ++ ws) sz (fun (u : va_W × Int64 × Int64 × Int32 × Int32 × Int32 × Int32 × (Nat → Int32)) => match u with | (u9, bin1, bou1, hel1, mca1, rold1, rsiz1, frn1) => ([(fn_1 ch idx cl mt sta prg stp las tb qu wai bin1 bou1 hel1 sbo), (fn_0 cl cur pts nom ohm pol tau chg lft cap thr pz tmp het cun vol bk), (fn_3 bk cin cou ein eou), (fn_4 mt res mca1 mre trr wfo wct bd), (fn_9 wo tim se cu pr cco chs rc lg), (fn_5 pr pcn sps kds fst scs), (rf_RW ct 0 kds 48 fkds), (rf_RW ct 0 scs 48 fscs), (fn_8 rc rlim rwid rnu rold1 rsiz1), (rf_RW ct 0 rnu 150 frn1)] ++ u9))) (va_A ([(fn_1 ch idx cl mt sta prg stp las tb qu wai bin bou hel sbo), (fn_0 cl cur pts nom ohm pol tau chg lft cap thr pz tmp het cun vol bk), (fn_3 bk cin cou ein eou), (fn_4 mt res mca mre trr wfo wct bd), (fn_9 wo tim se cu pr cco chs rc lg), (fn_5 pr pcn sps kds fst scs), (rf_RW ct 0 kds 48 fkds), (rf_RW ct 0 scs 48 fscs), (fn_8 rc rlim rwid rnu rold rsiz), (rf_RW ct 0 rnu 150 frn)] ++ ws) sz)) 0 0 (va_A ([(fn_1 ch idx cl mt sta prg stp las tb qu wai bin bou hel sbo), (fn_0 cl cur pts nom ohm pol tau chg lft cap thr pz tmp het cun vol bk), (fn_3 bk cin cou ein eou), (fn_4 mt res mca mre trr wfo wct bd), (fn_9 wo tim se cu pr cco chs rc lg), (fn_5 pr pcn sps kds fst scs), (rf_RW ct 0 kds 48 fkds), (rf_RW ct 0 scs 48 fscs), (fn_8 rc rlim rwid rnu rold rsiz), (rf_RW ct 0 rnu 150 frn)] ++ ws) sz) := by
  refine Met.ofW (cc := cX1_makeRecord) (maxL := 8) (ret := none) (by decide) rfl ?_
  intro p e s m args below meth c s₁ B hml hv
  obtain ⟨rfl, hsz, hP, hK, hD0, hX⟩ := hv
  have hx := B.exec
  have hb := B.bytes
  have hr := B.returns
  have hts := ws_all (atoms_spec (ws := ws_ yX1_makeRecord cX1_makeRecord 8 none) B.pre)
  have hown : s.vm.findClass RX1 = some m.cls := findClass_of_methodNamed B.named
  have hlocks := B.notSynchronized
  subst hsz
  have hD := hD0.self (sz := s.heap.size)
  generalize hAe : va_A ([(fn_1 ch idx cl mt sta prg stp las tb qu wai bin bou hel sbo), (fn_0 cl cur pts nom ohm pol tau chg lft cap thr pz tmp het cun vol bk), (fn_3 bk cin cou ein eou), (fn_4 mt res mca mre trr wfo wct bd), (fn_9 wo tim se cu pr cco chs rc lg), (fn_5 pr pcn sps kds fst scs), (rf_RW ct 0 kds 48 fkds), (rf_RW ct 0 scs 48 fscs), (fn_8 rc rlim rwid rnu rold rsiz), (rf_RW ct 0 rnu 150 frn)] ++ ws) s.heap.size = A at hD hX ⊢
  have hA : ∀ q : Nat, s.heap.size ≤ q → A q := fun q h => by rw [← hAe]; exact Or.inr h
  have hS : va_S A s.heap s.heap [] := va_S.rf
  have hl := lv_entry ([.ref ch, .ref wo]) (n := 8) (Nat.le_of_ble_eq_true rfl)
  rw [lg_entry_eq]
  generalize (lg_sl ([.ref ch, .ref wo]) ++ List.replicate (8 - (lg_sl ([.ref ch, .ref wo])).length) Slot.unset).toArray = ls at hl ⊢
  have hl : lv_has ls 8 [(0, .ref ch), (1, .ref wo)] := hl
  refine lv_aload_n hx hb dX1_makeRecord_0 rfl (lv_at hl 0 rfl) ?_
  refine va_get (v := .ref cl) (D := D) (ci := 1) (C := RX1) (T := TX1) (N := 14) hx hb hts in_X1 hown hK hP 0 rfl rfl 1 (by decide) (hts _ kl_RX1_18) (fun _ h9 => h9) rfl dX1_makeRecord_1 ?_
  refine va_getN (v := .ref bk) (D := D) (ci := 0) (C := RX0) (T := TX0) (N := 16) hx hb hts in_X0 hown hK hP 1 rfl rfl 15 (by decide) (hts _ kl_RX1_110) (fun _ h9 => h9) rfl dX1_makeRecord_4 ?_
  refine lv_astore_n (lv' := [(2, .ref bk), (0, .ref ch), (1, .ref wo)]) hx hb dX1_makeRecord_7 rfl hl (by decide) rfl (fun ls hl => ?_)
  refine lv_aload_n hx hb dX1_makeRecord_8 rfl (lv_at hl 1 rfl) ?_
  refine va_get (v := .ref cl) (D := D) (ci := 1) (C := RX1) (T := TX1) (N := 14) hx hb hts in_X1 hown hK hP 0 rfl rfl 1 (by decide) (hts _ kl_RX1_18) (fun _ h9 => h9) rfl dX1_makeRecord_9 ?_
  refine va_getN (v := .int vol) (D := D) (ci := 0) (C := RX0) (T := TX0) (N := 16) hx hb hts in_X0 hown hK hP 1 rfl rfl 14 (by decide) (hts _ kl_RX1_79) (fun _ h9 => h9) rfl dX1_makeRecord_12 ?_
  refine lv_aload_n hx hb dX1_makeRecord_15 rfl (lv_at hl 2 rfl) ?_
  refine va_getN (v := .ref pr) (D := D) (ci := 9) (C := RX9) (T := TX9) (N := 8) hx hb hts in_X9 hown hK hP 4 rfl rfl 3 (by decide) (hts _ kl_RX1_175) (fun _ h9 => h9) rfl dX1_makeRecord_16 ?_
  refine lv_aload_n hx hb dX1_makeRecord_19 rfl (lv_at hl 1 rfl) ?_
  refine va_get (v := .int prg) (D := D) (ci := 1) (C := RX1) (T := TX1) (N := 14) hx hb hts in_X1 hown hK hP 0 rfl rfl 4 (by decide) (hts _ kl_RX1_46) (fun _ h9 => h9) rfl dX1_makeRecord_20 ?_
  refine lv_aload_n hx hb dX1_makeRecord_23 rfl (lv_at hl 1 rfl) ?_
  refine va_get (v := .int stp) (D := D) (ci := 1) (C := RX1) (T := TX1) (N := 14) hx hb hts in_X1 hown hK hP 0 rfl rfl 5 (by decide) (hts _ kl_RX1_49) (fun _ h9 => h9) rfl dX1_makeRecord_24 ?_
  obtain ⟨hP, hD⟩ := ty_opPD (E1 := [(fn_1 ch idx cl mt sta prg stp las tb qu wai bin bou hel sbo), (fn_0 cl cur pts nom ohm pol tau chg lft cap thr pz tmp het cun vol bk), (fn_3 bk cin cou ein eou), (fn_4 mt res mca mre trr wfo wct bd), (fn_9 wo tim se cu pr cco chs rc lg), (rf_RW ct 0 kds 48 fkds), (fn_8 rc rlim rwid rnu rold rsiz), (rf_RW ct 0 rnu 150 frn)]) (E2 := [(fn_5 pr pcn sps kds fst scs), (rf_RW ct 0 scs 48 fscs)]) (n := 10) [0, 1, 2, 3, 4, 6, 8, 9, 5, 7] hP hD rfl rfl (by decide +kernel) ty_mv2
  refine ty_Ki hP hD hS hA (va_runVN (As := [.int prg, .int stp]) (rest := [.int vol]) ⟨hx, hb, hml, hown, hts⟩ (r_X5_secondOf l D ct (fun _ => none) [] (fun _ => True) (fun _ _ _ => True) pr pcn sps kds fst scs fscs prg stp _ ty_V0 ty_C0 ty_y10) (cm_VN 2 hts kc_X5_secondOf ki_RX5 kl_RX1_231 kv_X5_secondOf kx_X5_secondOf kd_X5_secondOf ⟨Nat.le_of_ble_eq_true rfl, Nat.le_of_ble_eq_true rfl⟩) (ty_preE (ci := 5) hP hK hD hS hA hX rfl (ty_app (j := 0) rfl)) rfl rfl hl.1 rfl (lv_room (Nat.le_of_ble_eq_true rfl)) dX1_makeRecord_27 ⟨Nat.le_of_ble_eq_true rfl, Nat.le_of_ble_eq_true rfl⟩) (fun r_1 u H locs hw_2 hP hD hS => ?_)
  obtain ⟨ws_3, rfl⟩ : ∃ z, z = u := ⟨_, rfl⟩
  obtain ⟨hT9_4, hp_5⟩ := hw_2
  have hp_5 : (a_X5_secondOf fscs prg stp r_1) := hp_5
  obtain ⟨hP, hD⟩ := ty_bkPD (E := [(fn_1 ch idx cl mt sta prg stp las tb qu wai bin bou hel sbo), (fn_0 cl cur pts nom ohm pol tau chg lft cap thr pz tmp het cun vol bk), (fn_3 bk cin cou ein eou), (fn_4 mt res mca mre trr wfo wct bd), (fn_9 wo tim se cu pr cco chs rc lg), (rf_RW ct 0 kds 48 fkds), (fn_8 rc rlim rwid rnu rold rsiz), (rf_RW ct 0 rnu 150 frn), (fn_5 pr pcn sps kds fst scs), (rf_RW ct 0 scs 48 fscs)]) hP hD rfl
  refine lv_icmp_gt (tgt := 37) hx hb dX1_makeRecord_30 (by decide) (fun hc_6 => ?_) (fun hc_6 => ?_)
  · refine lv_iconst (v := 0) hx hb dX1_makeRecord_37 (by decide) ?_
    refine lv_istore_n (lv' := [(3, .int 0), (2, .ref bk), (0, .ref ch), (1, .ref wo)]) hx hb dX1_makeRecord_38 rfl hl (by decide) rfl (fun ls hl => ?_)
    refine lv_aload_n hx hb dX1_makeRecord_39 rfl (lv_at hl 2 rfl) ?_
    refine va_get (v := .int hel) (D := D) (ci := 1) (C := RX1) (T := TX1) (N := 14) hx hb hts in_X1 hown hK hP 0 rfl rfl 12 (by decide) (hts _ kl_RX1_69) (fun _ h9 => h9) rfl dX1_makeRecord_40 ?_
    refine lv_if_eq (tgt := 54) hx hb dX1_makeRecord_43 (by decide) (fun hc_7 => ?_) (fun hc_7 => ?_)
    · refine lv_iconst (v := 0) hx hb dX1_makeRecord_54 (by decide) ?_
      refine lv_istore (lv' := [(4, .int 0), (3, .int 0), (2, .ref bk), (0, .ref ch), (1, .ref wo)]) hx hb dX1_makeRecord_55 hl (by decide) rfl (fun ls hl => ?_)
      refine lv_aload_n hx hb dX1_makeRecord_57 rfl (lv_at hl 4 rfl) ?_
      refine va_getN (v := .ref rc) (D := D) (ci := 9) (C := RX9) (T := TX9) (N := 8) hx hb hts in_X9 hown hK hP 4 rfl rfl 6 (by decide) (hts _ kl_RX1_240) (fun _ h9 => h9) rfl dX1_makeRecord_58 ?_
      refine lv_astore (lv' := [(5, .ref rc), (4, .int 0), (3, .int 0), (2, .ref bk), (0, .ref ch), (1, .ref wo)]) hx hb dX1_makeRecord_61 hl (by decide) rfl (fun ls hl => ?_)
      refine lv_aload hx hb dX1_makeRecord_63 (lv_at hl 0 rfl) ?_
      obtain ⟨hP, hD⟩ := ty_opPD (E1 := [(fn_1 ch idx cl mt sta prg stp las tb qu wai bin bou hel sbo), (fn_0 cl cur pts nom ohm pol tau chg lft cap thr pz tmp het cun vol bk), (fn_3 bk cin cou ein eou), (fn_4 mt res mca mre trr wfo wct bd), (fn_9 wo tim se cu pr cco chs rc lg), (rf_RW ct 0 kds 48 fkds), (rf_RW ct 0 rnu 150 frn), (fn_5 pr pcn sps kds fst scs), (rf_RW ct 0 scs 48 fscs)]) (E2 := [(fn_8 rc rlim rwid rnu rold rsiz)]) (n := 10) [0, 1, 2, 3, 4, 5, 7, 8, 9, 6] hP hD rfl rfl (by decide +kernel) ty_mv2
      refine ty_Kv hP hD hS hA (va_runVN (As := []) (rest := []) ⟨hx, hb, hml, hown, hts⟩ (r_X8_addRow l D ct (fun _ => none) [] (fun _ => True) (fun _ _ _ => True) rc rlim rwid rnu rold rsiz _ ty_V0 ty_C0 ty_y10) (cm_VN 0 hts kc_X8_addRow ki_RX8 kl_RX1_244 kv_X8_addRow kx_X8_addRow kd_X8_addRow ⟨Nat.le_of_ble_eq_true rfl, Nat.le_of_ble_eq_true rfl⟩) (ty_preE (ci := 8) hP hK hD hS hA hX rfl (ty_app (j := 0) rfl)) rfl rfl hl.1 rfl (lv_room (Nat.le_of_ble_eq_true rfl)) dX1_makeRecord_65 ⟨Nat.le_of_ble_eq_true rfl, Nat.le_of_ble_eq_true rfl⟩) (fun u H locs hw_9 hP hD hS => ?_)
      obtain ⟨ws_10, told1_11, tsiz1_12⟩ := u
      obtain ⟨hT9_13, hp_14⟩ := hw_9
      have hp_14 : (a_X8_addRow rlim rold rsiz told1_11 tsiz1_12) := hp_14
      obtain ⟨hP, hD⟩ := ty_bkPD (E := [(fn_1 ch idx cl mt sta prg stp las tb qu wai bin bou hel sbo), (fn_0 cl cur pts nom ohm pol tau chg lft cap thr pz tmp het cun vol bk), (fn_3 bk cin cou ein eou), (fn_4 mt res mca mre trr wfo wct bd), (fn_9 wo tim se cu pr cco chs rc lg), (rf_RW ct 0 kds 48 fkds), (rf_RW ct 0 rnu 150 frn), (fn_5 pr pcn sps kds fst scs), (rf_RW ct 0 scs 48 fscs), (fn_8 rc rlim rwid rnu told1_11 tsiz1_12)]) hP hD rfl
      refine lv_aload hx hb dX1_makeRecord_68 (lv_at hl 0 rfl) ?_
      refine va_getN (v := .ref rnu) (D := D) (ci := 8) (C := RX8) (T := TX8) (N := 5) hx hb hts in_X8 hown hK hP 9 rfl rfl 2 (by decide) (hts _ kl_RX1_249) (fun _ h9 => h9) rfl dX1_makeRecord_70 ?_
      refine lv_astore (lv' := [(6, .ref rnu), (5, .ref rc), (4, .int 0), (3, .int 0), (2, .ref bk), (0, .ref ch), (1, .ref wo)]) hx hb dX1_makeRecord_73 hl (by decide) rfl (fun ls hl => ?_)
      refine lv_aload hx hb dX1_makeRecord_75 (lv_at hl 1 rfl) ?_
      refine lv_aload hx hb dX1_makeRecord_77 (lv_at hl 1 rfl) ?_
      refine va_getN (v := .int tsiz1_12) (D := D) (ci := 8) (C := RX8) (T := TX8) (N := 5) hx hb hts in_X8 hown hK hP 9 rfl rfl 4 (by decide) (hts _ kl_RX1_252) (fun _ h9 => h9) rfl dX1_makeRecord_79 ?_
      refine lv_iconst (v := 1) hx hb dX1_makeRecord_82 (by decide) ?_
      refine lv_isub hx hb dX1_makeRecord_83 ?_
      obtain ⟨hP, hD⟩ := ty_ipPD (E1 := [(fn_1 ch idx cl mt sta prg stp las tb qu wai bin bou hel sbo), (fn_0 cl cur pts nom ohm pol tau chg lft cap thr pz tmp het cun vol bk), (fn_3 bk cin cou ein eou), (fn_4 mt res mca mre trr wfo wct bd), (fn_9 wo tim se cu pr cco chs rc lg), (rf_RW ct 0 kds 48 fkds), (rf_RW ct 0 rnu 150 frn), (fn_5 pr pcn sps kds fst scs), (rf_RW ct 0 scs 48 fscs)]) (E2 := [(fn_8 rc rlim rwid rnu told1_11 tsiz1_12)]) hP hD rfl ty_mv2
      refine ty_Ki hP hD hS hA (va_runVN (As := [.int (tsiz1_12 - 1)]) (rest := []) ⟨hx, hb, hml, hown, hts⟩ (r_X8_placeOf l D ct (fun _ => none) [] (fun _ => True) (fun _ _ _ => True) rc rlim rwid rnu told1_11 tsiz1_12 (tsiz1_12 - 1) _ ty_V0 ty_C0 ty_y10) (cm_VN 1 hts kc_X8_placeOf ki_RX8 kl_RX1_255 kv_X8_placeOf kx_X8_placeOf kd_X8_placeOf ⟨Nat.le_of_ble_eq_true rfl, Nat.le_of_ble_eq_true rfl⟩) (ty_preE (ci := 8) hP hK hD hS hA hX rfl (ty_app (j := 0) rfl)) rfl rfl hl.1 rfl (lv_room (Nat.le_of_ble_eq_true rfl)) dX1_makeRecord_84 ⟨Nat.le_of_ble_eq_true rfl, Nat.le_of_ble_eq_true rfl⟩) (fun r_15 u H locs hw_16 hP hD hS => ?_)
      obtain ⟨ws_17, rfl⟩ : ∃ z, z = u := ⟨_, rfl⟩
      obtain ⟨hT9_18, hp_19⟩ := hw_16
      have hp_19 : (a_X8_placeOf rlim rwid told1_11 (tsiz1_12 - 1) r_15) := hp_19
      obtain ⟨hP, hD⟩ := ty_bkPD (E := [(fn_1 ch idx cl mt sta prg stp las tb qu wai bin bou hel sbo), (fn_0 cl cur pts nom ohm pol tau chg lft cap thr pz tmp het cun vol bk), (fn_3 bk cin cou ein eou), (fn_4 mt res mca mre trr wfo wct bd), (fn_9 wo tim se cu pr cco chs rc lg), (rf_RW ct 0 kds 48 fkds), (rf_RW ct 0 rnu 150 frn), (fn_5 pr pcn sps kds fst scs), (rf_RW ct 0 scs 48 fscs), (fn_8 rc rlim rwid rnu told1_11 tsiz1_12)]) hP hD rfl
      refine lv_istore (lv' := [(7, .int r_15), (6, .ref rnu), (5, .ref rc), (4, .int 0), (3, .int 0), (2, .ref bk), (0, .ref ch), (1, .ref wo)]) hx hb dX1_makeRecord_87 hl (by decide) rfl (fun ls hl => ?_)
      refine lv_aload hx hb dX1_makeRecord_89 (lv_at hl 1 rfl) ?_
      refine lv_iload hx hb dX1_makeRecord_91 (lv_at hl 0 rfl) ?_
      refine lv_iconst (v := 0) hx hb dX1_makeRecord_93 (by decide) ?_
      refine lv_iadd hx hb dX1_makeRecord_94 ?_
      refine lv_aload_n hx hb dX1_makeRecord_95 rfl (lv_at hl 6 rfl) ?_
      refine va_get (v := .int idx) (D := D) (ci := 1) (C := RX1) (T := TX1) (N := 14) hx hb hts in_X1 hown hK hP 0 rfl rfl 0 (by decide) (hts _ kl_RX1_9) (fun _ h9 => h9) rfl dX1_makeRecord_96 ?_
      obtain ⟨hP, hD⟩ := ty_opPD (E1 := [(fn_1 ch idx cl mt sta prg stp las tb qu wai bin bou hel sbo), (fn_0 cl cur pts nom ohm pol tau chg lft cap thr pz tmp het cun vol bk), (fn_3 bk cin cou ein eou), (fn_4 mt res mca mre trr wfo wct bd), (fn_9 wo tim se cu pr cco chs rc lg), (rf_RW ct 0 kds 48 fkds), (fn_5 pr pcn sps kds fst scs), (rf_RW ct 0 scs 48 fscs), (fn_8 rc rlim rwid rnu told1_11 tsiz1_12)]) (E2 := [(rf_RW ct 0 rnu 150 frn)]) (n := 10) [0, 1, 2, 3, 4, 5, 7, 8, 9, 6] hP hD rfl rfl (by decide +kernel) ty_mv2
      refine ty_Kv hP hD hS hA (va_runSN (As := [.ref rnu, .int (r_15 + 0), .int idx]) (rest := []) ⟨hx, hb, hml, hown, hts⟩ (r_X10_put_150 l D ct (fun _ => none) [] (fun _ => True) (fun _ _ _ => True) rnu frn (r_15 + 0) idx _ ty_V0 ty_C0 ty_y10) (cm_SN 3 hts kc_X10_put ki_RX10 kl_RX1_126 ks_X10_put kd_X10_put ⟨Nat.le_of_ble_eq_true rfl, Nat.le_of_ble_eq_true rfl⟩) (ty_preS hP hK hD hS hA hX) rfl rfl hl.1 rfl (lv_room (Nat.le_of_ble_eq_true rfl)) dX1_makeRecord_99 ⟨Nat.le_of_ble_eq_true rfl, Nat.le_of_ble_eq_true rfl⟩) (fun u H locs hw_21 hP hD hS => ?_)
      obtain ⟨ws_22, b1_23⟩ := u
      obtain ⟨hT9_24, hp_25⟩ := hw_21
      have hp_25 : (a_X10_put_150 frn (r_15 + 0) idx b1_23) := hp_25
      obtain ⟨hP, hD⟩ := ty_bkPD (E := [(fn_1 ch idx cl mt sta prg stp las tb qu wai bin bou hel sbo), (fn_0 cl cur pts nom ohm pol tau chg lft cap thr pz tmp het cun vol bk), (fn_3 bk cin cou ein eou), (fn_4 mt res mca mre trr wfo wct bd), (fn_9 wo tim se cu pr cco chs rc lg), (rf_RW ct 0 kds 48 fkds), (fn_5 pr pcn sps kds fst scs), (rf_RW ct 0 scs 48 fscs), (fn_8 rc rlim rwid rnu told1_11 tsiz1_12), (rf_RW ct 0 rnu 150 b1_23)]) hP hD rfl
      refine lv_aload hx hb dX1_makeRecord_102 (lv_at hl 1 rfl) ?_
      refine lv_iload hx hb dX1_makeRecord_104 (lv_at hl 0 rfl) ?_
      refine lv_iconst (v := 1) hx hb dX1_makeRecord_106 (by decide) ?_
      refine lv_iadd hx hb dX1_makeRecord_107 ?_
      refine lv_aload_n hx hb dX1_makeRecord_108 rfl (lv_at hl 5 rfl) ?_
      refine va_getN (v := .long cin) (D := D) (ci := 3) (C := RX3) (T := TX3) (N := 4) hx hb hts in_X3 hown hK hP 2 rfl rfl 0 (by decide) (hts _ kl_RX1_114) (fun _ h9 => h9) rfl dX1_makeRecord_109 ?_
      refine lv_aload_n hx hb dX1_makeRecord_112 rfl (lv_at hl 6 rfl) ?_
      refine va_get (v := .long bin) (D := D) (ci := 1) (C := RX1) (T := TX1) (N := 14) hx hb hts in_X1 hown hK hP 0 rfl rfl 10 (by decide) (hts _ kl_RX1_62) (fun _ h9 => h9) rfl dX1_makeRecord_113 ?_
      refine lv_lsub hx hb dX1_makeRecord_116 ?_
      refine lv_l2i hx hb dX1_makeRecord_117 rfl ?_
      obtain ⟨hP, hD⟩ := ty_ipPD (E1 := [(fn_1 ch idx cl mt sta prg stp las tb qu wai bin bou hel sbo), (fn_0 cl cur pts nom ohm pol tau chg lft cap thr pz tmp het cun vol bk), (fn_3 bk cin cou ein eou), (fn_4 mt res mca mre trr wfo wct bd), (fn_9 wo tim se cu pr cco chs rc lg), (rf_RW ct 0 kds 48 fkds), (fn_5 pr pcn sps kds fst scs), (rf_RW ct 0 scs 48 fscs), (fn_8 rc rlim rwid rnu told1_11 tsiz1_12)]) (E2 := [(rf_RW ct 0 rnu 150 b1_23)]) hP hD rfl ty_mv2
      refine ty_Kv hP hD hS hA (va_runSN (As := [.ref rnu, .int (r_15 + 1), .int ((cin - bin).toInt32)]) (rest := []) ⟨hx, hb, hml, hown, hts⟩ (r_X10_put_150 l D ct (fun _ => none) [] (fun _ => True) (fun _ _ _ => True) rnu b1_23 (r_15 + 1) ((cin - bin).toInt32) _ ty_V0 ty_C0 ty_y10) (cm_SN 3 hts kc_X10_put ki_RX10 kl_RX1_126 ks_X10_put kd_X10_put ⟨Nat.le_of_ble_eq_true rfl, Nat.le_of_ble_eq_true rfl⟩) (ty_preS hP hK hD hS hA hX) rfl rfl hl.1 rfl (lv_room (Nat.le_of_ble_eq_true rfl)) dX1_makeRecord_118 ⟨Nat.le_of_ble_eq_true rfl, Nat.le_of_ble_eq_true rfl⟩) (fun u H locs hw_27 hP hD hS => ?_)
      obtain ⟨ws_28, b1_29⟩ := u
      obtain ⟨hT9_30, hp_31⟩ := hw_27
      have hp_31 : (a_X10_put_150 b1_23 (r_15 + 1) ((cin - bin).toInt32) b1_29) := hp_31
      obtain ⟨hP, hD⟩ := ty_bkPD (E := [(fn_1 ch idx cl mt sta prg stp las tb qu wai bin bou hel sbo), (fn_0 cl cur pts nom ohm pol tau chg lft cap thr pz tmp het cun vol bk), (fn_3 bk cin cou ein eou), (fn_4 mt res mca mre trr wfo wct bd), (fn_9 wo tim se cu pr cco chs rc lg), (rf_RW ct 0 kds 48 fkds), (fn_5 pr pcn sps kds fst scs), (rf_RW ct 0 scs 48 fscs), (fn_8 rc rlim rwid rnu told1_11 tsiz1_12), (rf_RW ct 0 rnu 150 b1_29)]) hP hD rfl
      refine lv_aload hx hb dX1_makeRecord_121 (lv_at hl 1 rfl) ?_
      refine lv_iload hx hb dX1_makeRecord_123 (lv_at hl 0 rfl) ?_
      refine lv_iconst (v := 2) hx hb dX1_makeRecord_125 (by decide) ?_
      refine lv_iadd hx hb dX1_makeRecord_126 ?_
      refine lv_aload_n hx hb dX1_makeRecord_127 rfl (lv_at hl 5 rfl) ?_
      refine va_getN (v := .long cou) (D := D) (ci := 3) (C := RX3) (T := TX3) (N := 4) hx hb hts in_X3 hown hK hP 2 rfl rfl 1 (by decide) (hts _ kl_RX1_119) (fun _ h9 => h9) rfl dX1_makeRecord_128 ?_
      refine lv_aload_n hx hb dX1_makeRecord_131 rfl (lv_at hl 6 rfl) ?_
      refine va_get (v := .long bou) (D := D) (ci := 1) (C := RX1) (T := TX1) (N := 14) hx hb hts in_X1 hown hK hP 0 rfl rfl 11 (by decide) (hts _ kl_RX1_66) (fun _ h9 => h9) rfl dX1_makeRecord_132 ?_
      refine lv_lsub hx hb dX1_makeRecord_135 ?_
      refine lv_l2i hx hb dX1_makeRecord_136 rfl ?_
      obtain ⟨hP, hD⟩ := ty_ipPD (E1 := [(fn_1 ch idx cl mt sta prg stp las tb qu wai bin bou hel sbo), (fn_0 cl cur pts nom ohm pol tau chg lft cap thr pz tmp het cun vol bk), (fn_3 bk cin cou ein eou), (fn_4 mt res mca mre trr wfo wct bd), (fn_9 wo tim se cu pr cco chs rc lg), (rf_RW ct 0 kds 48 fkds), (fn_5 pr pcn sps kds fst scs), (rf_RW ct 0 scs 48 fscs), (fn_8 rc rlim rwid rnu told1_11 tsiz1_12)]) (E2 := [(rf_RW ct 0 rnu 150 b1_29)]) hP hD rfl ty_mv2
      refine ty_Kv hP hD hS hA (va_runSN (As := [.ref rnu, .int (r_15 + 2), .int ((cou - bou).toInt32)]) (rest := []) ⟨hx, hb, hml, hown, hts⟩ (r_X10_put_150 l D ct (fun _ => none) [] (fun _ => True) (fun _ _ _ => True) rnu b1_29 (r_15 + 2) ((cou - bou).toInt32) _ ty_V0 ty_C0 ty_y10) (cm_SN 3 hts kc_X10_put ki_RX10 kl_RX1_126 ks_X10_put kd_X10_put ⟨Nat.le_of_ble_eq_true rfl, Nat.le_of_ble_eq_true rfl⟩) (ty_preS hP hK hD hS hA hX) rfl rfl hl.1 rfl (lv_room (Nat.le_of_ble_eq_true rfl)) dX1_makeRecord_137 ⟨Nat.le_of_ble_eq_true rfl, Nat.le_of_ble_eq_true rfl⟩) (fun u H locs hw_33 hP hD hS => ?_)
      obtain ⟨ws_34, b1_35⟩ := u
      obtain ⟨hT9_36, hp_37⟩ := hw_33
      have hp_37 : (a_X10_put_150 b1_29 (r_15 + 2) ((cou - bou).toInt32) b1_35) := hp_37
      obtain ⟨hP, hD⟩ := ty_bkPD (E := [(fn_1 ch idx cl mt sta prg stp las tb qu wai bin bou hel sbo), (fn_0 cl cur pts nom ohm pol tau chg lft cap thr pz tmp het cun vol bk), (fn_3 bk cin cou ein eou), (fn_4 mt res mca mre trr wfo wct bd), (fn_9 wo tim se cu pr cco chs rc lg), (rf_RW ct 0 kds 48 fkds), (fn_5 pr pcn sps kds fst scs), (rf_RW ct 0 scs 48 fscs), (fn_8 rc rlim rwid rnu told1_11 tsiz1_12), (rf_RW ct 0 rnu 150 b1_35)]) hP hD rfl
      refine lv_aload hx hb dX1_makeRecord_140 (lv_at hl 1 rfl) ?_
      refine lv_iload hx hb dX1_makeRecord_142 (lv_at hl 0 rfl) ?_
      refine lv_iconst (v := 3) hx hb dX1_makeRecord_144 (by decide) ?_
      refine lv_iadd hx hb dX1_makeRecord_145 ?_
      refine lv_aload_n hx hb dX1_makeRecord_146 rfl (lv_at hl 7 rfl) ?_
      refine va_getN (v := .int tim) (D := D) (ci := 9) (C := RX9) (T := TX9) (N := 8) hx hb hts in_X9 hown hK hP 4 rfl rfl 0 (by decide) (hts _ kl_RX1_258) (fun _ h9 => h9) rfl dX1_makeRecord_147 ?_
      obtain ⟨hP, hD⟩ := ty_ipPD (E1 := [(fn_1 ch idx cl mt sta prg stp las tb qu wai bin bou hel sbo), (fn_0 cl cur pts nom ohm pol tau chg lft cap thr pz tmp het cun vol bk), (fn_3 bk cin cou ein eou), (fn_4 mt res mca mre trr wfo wct bd), (fn_9 wo tim se cu pr cco chs rc lg), (rf_RW ct 0 kds 48 fkds), (fn_5 pr pcn sps kds fst scs), (rf_RW ct 0 scs 48 fscs), (fn_8 rc rlim rwid rnu told1_11 tsiz1_12)]) (E2 := [(rf_RW ct 0 rnu 150 b1_35)]) hP hD rfl ty_mv2
      refine ty_Kv hP hD hS hA (va_runSN (As := [.ref rnu, .int (r_15 + 3), .int tim]) (rest := []) ⟨hx, hb, hml, hown, hts⟩ (r_X10_put_150 l D ct (fun _ => none) [] (fun _ => True) (fun _ _ _ => True) rnu b1_35 (r_15 + 3) tim _ ty_V0 ty_C0 ty_y10) (cm_SN 3 hts kc_X10_put ki_RX10 kl_RX1_126 ks_X10_put kd_X10_put ⟨Nat.le_of_ble_eq_true rfl, Nat.le_of_ble_eq_true rfl⟩) (ty_preS hP hK hD hS hA hX) rfl rfl hl.1 rfl (lv_room (Nat.le_of_ble_eq_true rfl)) dX1_makeRecord_150 ⟨Nat.le_of_ble_eq_true rfl, Nat.le_of_ble_eq_true rfl⟩) (fun u H locs hw_39 hP hD hS => ?_)
      obtain ⟨ws_40, b1_41⟩ := u
      obtain ⟨hT9_42, hp_43⟩ := hw_39
      have hp_43 : (a_X10_put_150 b1_35 (r_15 + 3) tim b1_41) := hp_43
      obtain ⟨hP, hD⟩ := ty_bkPD (E := [(fn_1 ch idx cl mt sta prg stp las tb qu wai bin bou hel sbo), (fn_0 cl cur pts nom ohm pol tau chg lft cap thr pz tmp het cun vol bk), (fn_3 bk cin cou ein eou), (fn_4 mt res mca mre trr wfo wct bd), (fn_9 wo tim se cu pr cco chs rc lg), (rf_RW ct 0 kds 48 fkds), (fn_5 pr pcn sps kds fst scs), (rf_RW ct 0 scs 48 fscs), (fn_8 rc rlim rwid rnu told1_11 tsiz1_12), (rf_RW ct 0 rnu 150 b1_41)]) hP hD rfl
      refine lv_aload hx hb dX1_makeRecord_153 (lv_at hl 1 rfl) ?_
      refine lv_iload hx hb dX1_makeRecord_155 (lv_at hl 0 rfl) ?_
      refine lv_iconst (v := 4) hx hb dX1_makeRecord_157 (by decide) ?_
      refine lv_iadd hx hb dX1_makeRecord_158 ?_
      refine lv_iload hx hb dX1_makeRecord_159 (lv_at hl 3 rfl) ?_
      refine lv_if_eq (tgt := 168) hx hb dX1_makeRecord_161 (by decide) (fun _ => ?_) (fun hc => absurd (by decide) hc)
      refine lv_iconst (v := 0) hx hb dX1_makeRecord_168 (by decide) ?_
      obtain ⟨hP, hD⟩ := ty_ipPD (E1 := [(fn_1 ch idx cl mt sta prg stp las tb qu wai bin bou hel sbo), (fn_0 cl cur pts nom ohm pol tau chg lft cap thr pz tmp het cun vol bk), (fn_3 bk cin cou ein eou), (fn_4 mt res mca mre trr wfo wct bd), (fn_9 wo tim se cu pr cco chs rc lg), (rf_RW ct 0 kds 48 fkds), (fn_5 pr pcn sps kds fst scs), (rf_RW ct 0 scs 48 fscs), (fn_8 rc rlim rwid rnu told1_11 tsiz1_12)]) (E2 := [(rf_RW ct 0 rnu 150 b1_41)]) hP hD rfl ty_mv2
      refine ty_Kv hP hD hS hA (va_runSN (As := [.ref rnu, .int (r_15 + 4), .int 0]) (rest := []) ⟨hx, hb, hml, hown, hts⟩ (r_X10_put_150 l D ct (fun _ => none) [] (fun _ => True) (fun _ _ _ => True) rnu b1_41 (r_15 + 4) (0 : Int32) _ ty_V0 ty_C0 ty_y10) (cm_SN 3 hts kc_X10_put ki_RX10 kl_RX1_126 ks_X10_put kd_X10_put ⟨Nat.le_of_ble_eq_true rfl, Nat.le_of_ble_eq_true rfl⟩) (ty_preS hP hK hD hS hA hX) rfl rfl hl.1 rfl (lv_room (Nat.le_of_ble_eq_true rfl)) dX1_makeRecord_169 ⟨Nat.le_of_ble_eq_true rfl, Nat.le_of_ble_eq_true rfl⟩) (fun u H locs hw_45 hP hD hS => ?_)
      obtain ⟨ws_46, b1_47⟩ := u
      obtain ⟨hT9_48, hp_49⟩ := hw_45
      have hp_49 : (a_X10_put_150 b1_41 (r_15 + 4) (0 : Int32) b1_47) := hp_49
      obtain ⟨hP, hD⟩ := ty_bkPD (E := [(fn_1 ch idx cl mt sta prg stp las tb qu wai bin bou hel sbo), (fn_0 cl cur pts nom ohm pol tau chg lft cap thr pz tmp het cun vol bk), (fn_3 bk cin cou ein eou), (fn_4 mt res mca mre trr wfo wct bd), (fn_9 wo tim se cu pr cco chs rc lg), (rf_RW ct 0 kds 48 fkds), (fn_5 pr pcn sps kds fst scs), (rf_RW ct 0 scs 48 fscs), (fn_8 rc rlim rwid rnu told1_11 tsiz1_12), (rf_RW ct 0 rnu 150 b1_47)]) hP hD rfl
      refine lv_iload hx hb dX1_makeRecord_172 (lv_at hl 3 rfl) ?_
      refine lv_if_eq (tgt := 194) hx hb dX1_makeRecord_174 (by decide) (fun _ => ?_) (fun hc => absurd (by decide) hc)
      refine lv_aload_n hx hb dX1_makeRecord_194 rfl (lv_at hl 6 rfl) ?_
      obtain ⟨hP, hD⟩ := ty_opPD (E1 := [(fn_4 mt res mca mre trr wfo wct bd), (fn_9 wo tim se cu pr cco chs rc lg), (rf_RW ct 0 kds 48 fkds), (fn_5 pr pcn sps kds fst scs), (rf_RW ct 0 scs 48 fscs), (fn_8 rc rlim rwid rnu told1_11 tsiz1_12), (rf_RW ct 0 rnu 150 b1_47)]) (E2 := [(fn_1 ch idx cl mt sta prg stp las tb qu wai bin bou hel sbo), (fn_0 cl cur pts nom ohm pol tau chg lft cap thr pz tmp het cun vol bk), (fn_3 bk cin cou ein eou)]) (n := 10) [3, 4, 5, 6, 7, 8, 9, 0, 1, 2] hP hD rfl rfl (by decide +kernel) ty_mv2
      refine ty_Kv hP hD hS hA (va_runV (As := []) (rest := []) ⟨hx, hb, hml, hown, hts⟩ (r_X1_countFromHere l D ct (fun _ => none) [] (fun _ => True) (fun _ _ _ => True) ch idx cl mt sta prg stp las tb qu wai bin bou hel sbo cur pts nom ohm pol tau chg lft cap thr pz tmp het cun vol bk cin cou ein eou _ ty_V0 ty_C0 ty_y10) (cm_V 0 hts kc_X1_countFromHere ki_RX1 kl_RX1_97 kv_X1_countFromHere kx_X1_countFromHere kd_X1_countFromHere ⟨Nat.le_of_ble_eq_true rfl, Nat.le_of_ble_eq_true rfl⟩) (ty_preE (ci := 1) hP hK hD hS hA hX rfl (ty_app (j := 0) rfl)) rfl rfl hl.1 rfl (lv_room (Nat.le_of_ble_eq_true rfl)) dX1_makeRecord_195 ⟨Nat.le_of_ble_eq_true rfl, Nat.le_of_ble_eq_true rfl⟩) (fun u H locs hw_51 hP hD hS => ?_)
      obtain ⟨ws_52, rfl⟩ : ∃ z, z = u := ⟨_, rfl⟩
      have hT9_53 := hw_51
      obtain ⟨hP, hD⟩ := ty_bkPD (E := [(fn_4 mt res mca mre trr wfo wct bd), (fn_9 wo tim se cu pr cco chs rc lg), (rf_RW ct 0 kds 48 fkds), (fn_5 pr pcn sps kds fst scs), (rf_RW ct 0 scs 48 fscs), (fn_8 rc rlim rwid rnu told1_11 tsiz1_12), (rf_RW ct 0 rnu 150 b1_47), (fn_1 ch idx cl mt sta prg stp las tb qu wai cin cou (0) sbo), (fn_0 cl cur pts nom ohm pol tau chg lft cap thr pz tmp het cun vol bk), (fn_3 bk cin cou ein eou)]) hP hD rfl
      obtain ⟨hP, hD⟩ := ty_ordPD (E2 := [(fn_1 ch idx cl mt sta prg stp las tb qu wai cin cou (0) sbo), (fn_0 cl cur pts nom ohm pol tau chg lft cap thr pz tmp het cun vol bk), (fn_3 bk cin cou ein eou), (fn_4 mt res mca mre trr wfo wct bd), (fn_9 wo tim se cu pr cco chs rc lg), (fn_5 pr pcn sps kds fst scs), (rf_RW ct 0 kds 48 fkds), (rf_RW ct 0 scs 48 fscs), (fn_8 rc rlim rwid rnu told1_11 tsiz1_12), (rf_RW ct 0 rnu 150 b1_47)]) (n := 10) [7, 8, 9, 0, 1, 3, 2, 4, 5, 6] hP hD rfl rfl (by decide +kernel)
      exact W.vret hx hb hr (fun t ht hW => ⟨⟨(ws, cin, cou, (0 : Int32), mca, told1_11, tsiz1_12, b1_47), rfl, ⟨hT, ⟨⟨r_1, hp_5, (Or.inl ⟨hc_6, (Or.inl ⟨hc_7, ⟨told1_11, tsiz1_12, hp_14, ⟨r_15, hp_19, ⟨b1_23, hp_25, ⟨b1_29, hp_31, ⟨b1_35, hp_37, ⟨b1_41, hp_43, ⟨b1_47, hp_49, ⟨rfl, rfl, rfl, rfl, rfl, rfl, rfl⟩⟩⟩⟩⟩⟩⟩⟩⟩)⟩)⟩, (fun h9 => (show vp_nar .boolean (0 : Int32) = 0 from by decide))⟩⟩, by rw [ht]; exact hP, by rw [hAe]; exact hD⟩, hS.F ht⟩) hS.2.2 dX1_makeRecord_198
    · refine lv_iload_n hx hb dX1_makeRecord_46 rfl (lv_at hl 0 rfl) ?_
      refine lv_if_eq (tgt := 54) hx hb dX1_makeRecord_47 (by decide) (fun _ => ?_) (fun hc => absurd (by decide) hc)
      refine lv_iconst (v := 0) hx hb dX1_makeRecord_54 (by decide) ?_
      refine lv_istore (lv' := [(4, .int 0), (3, .int 0), (2, .ref bk), (0, .ref ch), (1, .ref wo)]) hx hb dX1_makeRecord_55 hl (by decide) rfl (fun ls hl => ?_)
      refine lv_aload_n hx hb dX1_makeRecord_57 rfl (lv_at hl 4 rfl) ?_
      refine va_getN (v := .ref rc) (D := D) (ci := 9) (C := RX9) (T := TX9) (N := 8) hx hb hts in_X9 hown hK hP 4 rfl rfl 6 (by decide) (hts _ kl_RX1_240) (fun _ h9 => h9) rfl dX1_makeRecord_58 ?_
      refine lv_astore (lv' := [(5, .ref rc), (4, .int 0), (3, .int 0), (2, .ref bk), (0, .ref ch), (1, .ref wo)]) hx hb dX1_makeRecord_61 hl (by decide) rfl (fun ls hl => ?_)
      refine lv_aload hx hb dX1_makeRecord_63 (lv_at hl 0 rfl) ?_
      obtain ⟨hP, hD⟩ := ty_opPD (E1 := [(fn_1 ch idx cl mt sta prg stp las tb qu wai bin bou hel sbo), (fn_0 cl cur pts nom ohm pol tau chg lft cap thr pz tmp het cun vol bk), (fn_3 bk cin cou ein eou), (fn_4 mt res mca mre trr wfo wct bd), (fn_9 wo tim se cu pr cco chs rc lg), (rf_RW ct 0 kds 48 fkds), (rf_RW ct 0 rnu 150 frn), (fn_5 pr pcn sps kds fst scs), (rf_RW ct 0 scs 48 fscs)]) (E2 := [(fn_8 rc rlim rwid rnu rold rsiz)]) (n := 10) [0, 1, 2, 3, 4, 5, 7, 8, 9, 6] hP hD rfl rfl (by decide +kernel) ty_mv2
      refine ty_Kv hP hD hS hA (va_runVN (As := []) (rest := []) ⟨hx, hb, hml, hown, hts⟩ (r_X8_addRow l D ct (fun _ => none) [] (fun _ => True) (fun _ _ _ => True) rc rlim rwid rnu rold rsiz _ ty_V0 ty_C0 ty_y10) (cm_VN 0 hts kc_X8_addRow ki_RX8 kl_RX1_244 kv_X8_addRow kx_X8_addRow kd_X8_addRow ⟨Nat.le_of_ble_eq_true rfl, Nat.le_of_ble_eq_true rfl⟩) (ty_preE (ci := 8) hP hK hD hS hA hX rfl (ty_app (j := 0) rfl)) rfl rfl hl.1 rfl (lv_room (Nat.le_of_ble_eq_true rfl)) dX1_makeRecord_65 ⟨Nat.le_of_ble_eq_true rfl, Nat.le_of_ble_eq_true rfl⟩) (fun u H locs hw_55 hP hD hS => ?_)
      obtain ⟨ws_56, told1_57, tsiz1_58⟩ := u
      obtain ⟨hT9_59, hp_60⟩ := hw_55
      have hp_60 : (a_X8_addRow rlim rold rsiz told1_57 tsiz1_58) := hp_60
      obtain ⟨hP, hD⟩ := ty_bkPD (E := [(fn_1 ch idx cl mt sta prg stp las tb qu wai bin bou hel sbo), (fn_0 cl cur pts nom ohm pol tau chg lft cap thr pz tmp het cun vol bk), (fn_3 bk cin cou ein eou), (fn_4 mt res mca mre trr wfo wct bd), (fn_9 wo tim se cu pr cco chs rc lg), (rf_RW ct 0 kds 48 fkds), (rf_RW ct 0 rnu 150 frn), (fn_5 pr pcn sps kds fst scs), (rf_RW ct 0 scs 48 fscs), (fn_8 rc rlim rwid rnu told1_57 tsiz1_58)]) hP hD rfl
      refine lv_aload hx hb dX1_makeRecord_68 (lv_at hl 0 rfl) ?_
      refine va_getN (v := .ref rnu) (D := D) (ci := 8) (C := RX8) (T := TX8) (N := 5) hx hb hts in_X8 hown hK hP 9 rfl rfl 2 (by decide) (hts _ kl_RX1_249) (fun _ h9 => h9) rfl dX1_makeRecord_70 ?_
      refine lv_astore (lv' := [(6, .ref rnu), (5, .ref rc), (4, .int 0), (3, .int 0), (2, .ref bk), (0, .ref ch), (1, .ref wo)]) hx hb dX1_makeRecord_73 hl (by decide) rfl (fun ls hl => ?_)
      refine lv_aload hx hb dX1_makeRecord_75 (lv_at hl 1 rfl) ?_
      refine lv_aload hx hb dX1_makeRecord_77 (lv_at hl 1 rfl) ?_
      refine va_getN (v := .int tsiz1_58) (D := D) (ci := 8) (C := RX8) (T := TX8) (N := 5) hx hb hts in_X8 hown hK hP 9 rfl rfl 4 (by decide) (hts _ kl_RX1_252) (fun _ h9 => h9) rfl dX1_makeRecord_79 ?_
      refine lv_iconst (v := 1) hx hb dX1_makeRecord_82 (by decide) ?_
      refine lv_isub hx hb dX1_makeRecord_83 ?_
      obtain ⟨hP, hD⟩ := ty_ipPD (E1 := [(fn_1 ch idx cl mt sta prg stp las tb qu wai bin bou hel sbo), (fn_0 cl cur pts nom ohm pol tau chg lft cap thr pz tmp het cun vol bk), (fn_3 bk cin cou ein eou), (fn_4 mt res mca mre trr wfo wct bd), (fn_9 wo tim se cu pr cco chs rc lg), (rf_RW ct 0 kds 48 fkds), (rf_RW ct 0 rnu 150 frn), (fn_5 pr pcn sps kds fst scs), (rf_RW ct 0 scs 48 fscs)]) (E2 := [(fn_8 rc rlim rwid rnu told1_57 tsiz1_58)]) hP hD rfl ty_mv2
      refine ty_Ki hP hD hS hA (va_runVN (As := [.int (tsiz1_58 - 1)]) (rest := []) ⟨hx, hb, hml, hown, hts⟩ (r_X8_placeOf l D ct (fun _ => none) [] (fun _ => True) (fun _ _ _ => True) rc rlim rwid rnu told1_57 tsiz1_58 (tsiz1_58 - 1) _ ty_V0 ty_C0 ty_y10) (cm_VN 1 hts kc_X8_placeOf ki_RX8 kl_RX1_255 kv_X8_placeOf kx_X8_placeOf kd_X8_placeOf ⟨Nat.le_of_ble_eq_true rfl, Nat.le_of_ble_eq_true rfl⟩) (ty_preE (ci := 8) hP hK hD hS hA hX rfl (ty_app (j := 0) rfl)) rfl rfl hl.1 rfl (lv_room (Nat.le_of_ble_eq_true rfl)) dX1_makeRecord_84 ⟨Nat.le_of_ble_eq_true rfl, Nat.le_of_ble_eq_true rfl⟩) (fun r_61 u H locs hw_62 hP hD hS => ?_)
      obtain ⟨ws_63, rfl⟩ : ∃ z, z = u := ⟨_, rfl⟩
      obtain ⟨hT9_64, hp_65⟩ := hw_62
      have hp_65 : (a_X8_placeOf rlim rwid told1_57 (tsiz1_58 - 1) r_61) := hp_65
      obtain ⟨hP, hD⟩ := ty_bkPD (E := [(fn_1 ch idx cl mt sta prg stp las tb qu wai bin bou hel sbo), (fn_0 cl cur pts nom ohm pol tau chg lft cap thr pz tmp het cun vol bk), (fn_3 bk cin cou ein eou), (fn_4 mt res mca mre trr wfo wct bd), (fn_9 wo tim se cu pr cco chs rc lg), (rf_RW ct 0 kds 48 fkds), (rf_RW ct 0 rnu 150 frn), (fn_5 pr pcn sps kds fst scs), (rf_RW ct 0 scs 48 fscs), (fn_8 rc rlim rwid rnu told1_57 tsiz1_58)]) hP hD rfl
      refine lv_istore (lv' := [(7, .int r_61), (6, .ref rnu), (5, .ref rc), (4, .int 0), (3, .int 0), (2, .ref bk), (0, .ref ch), (1, .ref wo)]) hx hb dX1_makeRecord_87 hl (by decide) rfl (fun ls hl => ?_)
      refine lv_aload hx hb dX1_makeRecord_89 (lv_at hl 1 rfl) ?_
      refine lv_iload hx hb dX1_makeRecord_91 (lv_at hl 0 rfl) ?_
      refine lv_iconst (v := 0) hx hb dX1_makeRecord_93 (by decide) ?_
      refine lv_iadd hx hb dX1_makeRecord_94 ?_
      refine lv_aload_n hx hb dX1_makeRecord_95 rfl (lv_at hl 6 rfl) ?_
      refine va_get (v := .int idx) (D := D) (ci := 1) (C := RX1) (T := TX1) (N := 14) hx hb hts in_X1 hown hK hP 0 rfl rfl 0 (by decide) (hts _ kl_RX1_9) (fun _ h9 => h9) rfl dX1_makeRecord_96 ?_
      obtain ⟨hP, hD⟩ := ty_opPD (E1 := [(fn_1 ch idx cl mt sta prg stp las tb qu wai bin bou hel sbo), (fn_0 cl cur pts nom ohm pol tau chg lft cap thr pz tmp het cun vol bk), (fn_3 bk cin cou ein eou), (fn_4 mt res mca mre trr wfo wct bd), (fn_9 wo tim se cu pr cco chs rc lg), (rf_RW ct 0 kds 48 fkds), (fn_5 pr pcn sps kds fst scs), (rf_RW ct 0 scs 48 fscs), (fn_8 rc rlim rwid rnu told1_57 tsiz1_58)]) (E2 := [(rf_RW ct 0 rnu 150 frn)]) (n := 10) [0, 1, 2, 3, 4, 5, 7, 8, 9, 6] hP hD rfl rfl (by decide +kernel) ty_mv2
      refine ty_Kv hP hD hS hA (va_runSN (As := [.ref rnu, .int (r_61 + 0), .int idx]) (rest := []) ⟨hx, hb, hml, hown, hts⟩ (r_X10_put_150 l D ct (fun _ => none) [] (fun _ => True) (fun _ _ _ => True) rnu frn (r_61 + 0) idx _ ty_V0 ty_C0 ty_y10) (cm_SN 3 hts kc_X10_put ki_RX10 kl_RX1_126 ks_X10_put kd_X10_put ⟨Nat.le_of_ble_eq_true rfl, Nat.le_of_ble_eq_true rfl⟩) (ty_preS hP hK hD hS hA hX) rfl rfl hl.1 rfl (lv_room (Nat.le_of_ble_eq_true rfl)) dX1_makeRecord_99 ⟨Nat.le_of_ble_eq_true rfl, Nat.le_of_ble_eq_true rfl⟩) (fun u H locs hw_67 hP hD hS => ?_)
      obtain ⟨ws_68, b1_69⟩ := u
      obtain ⟨hT9_70, hp_71⟩ := hw_67
      have hp_71 : (a_X10_put_150 frn (r_61 + 0) idx b1_69) := hp_71
      obtain ⟨hP, hD⟩ := ty_bkPD (E := [(fn_1 ch idx cl mt sta prg stp las tb qu wai bin bou hel sbo), (fn_0 cl cur pts nom ohm pol tau chg lft cap thr pz tmp het cun vol bk), (fn_3 bk cin cou ein eou), (fn_4 mt res mca mre trr wfo wct bd), (fn_9 wo tim se cu pr cco chs rc lg), (rf_RW ct 0 kds 48 fkds), (fn_5 pr pcn sps kds fst scs), (rf_RW ct 0 scs 48 fscs), (fn_8 rc rlim rwid rnu told1_57 tsiz1_58), (rf_RW ct 0 rnu 150 b1_69)]) hP hD rfl
      refine lv_aload hx hb dX1_makeRecord_102 (lv_at hl 1 rfl) ?_
      refine lv_iload hx hb dX1_makeRecord_104 (lv_at hl 0 rfl) ?_
      refine lv_iconst (v := 1) hx hb dX1_makeRecord_106 (by decide) ?_
      refine lv_iadd hx hb dX1_makeRecord_107 ?_
      refine lv_aload_n hx hb dX1_makeRecord_108 rfl (lv_at hl 5 rfl) ?_
      refine va_getN (v := .long cin) (D := D) (ci := 3) (C := RX3) (T := TX3) (N := 4) hx hb hts in_X3 hown hK hP 2 rfl rfl 0 (by decide) (hts _ kl_RX1_114) (fun _ h9 => h9) rfl dX1_makeRecord_109 ?_
      refine lv_aload_n hx hb dX1_makeRecord_112 rfl (lv_at hl 6 rfl) ?_
      refine va_get (v := .long bin) (D := D) (ci := 1) (C := RX1) (T := TX1) (N := 14) hx hb hts in_X1 hown hK hP 0 rfl rfl 10 (by decide) (hts _ kl_RX1_62) (fun _ h9 => h9) rfl dX1_makeRecord_113 ?_
      refine lv_lsub hx hb dX1_makeRecord_116 ?_
      refine lv_l2i hx hb dX1_makeRecord_117 rfl ?_
      obtain ⟨hP, hD⟩ := ty_ipPD (E1 := [(fn_1 ch idx cl mt sta prg stp las tb qu wai bin bou hel sbo), (fn_0 cl cur pts nom ohm pol tau chg lft cap thr pz tmp het cun vol bk), (fn_3 bk cin cou ein eou), (fn_4 mt res mca mre trr wfo wct bd), (fn_9 wo tim se cu pr cco chs rc lg), (rf_RW ct 0 kds 48 fkds), (fn_5 pr pcn sps kds fst scs), (rf_RW ct 0 scs 48 fscs), (fn_8 rc rlim rwid rnu told1_57 tsiz1_58)]) (E2 := [(rf_RW ct 0 rnu 150 b1_69)]) hP hD rfl ty_mv2
      refine ty_Kv hP hD hS hA (va_runSN (As := [.ref rnu, .int (r_61 + 1), .int ((cin - bin).toInt32)]) (rest := []) ⟨hx, hb, hml, hown, hts⟩ (r_X10_put_150 l D ct (fun _ => none) [] (fun _ => True) (fun _ _ _ => True) rnu b1_69 (r_61 + 1) ((cin - bin).toInt32) _ ty_V0 ty_C0 ty_y10) (cm_SN 3 hts kc_X10_put ki_RX10 kl_RX1_126 ks_X10_put kd_X10_put ⟨Nat.le_of_ble_eq_true rfl, Nat.le_of_ble_eq_true rfl⟩) (ty_preS hP hK hD hS hA hX) rfl rfl hl.1 rfl (lv_room (Nat.le_of_ble_eq_true rfl)) dX1_makeRecord_118 ⟨Nat.le_of_ble_eq_true rfl, Nat.le_of_ble_eq_true rfl⟩) (fun u H locs hw_73 hP hD hS => ?_)
      obtain ⟨ws_74, b1_75⟩ := u
      obtain ⟨hT9_76, hp_77⟩ := hw_73
      have hp_77 : (a_X10_put_150 b1_69 (r_61 + 1) ((cin - bin).toInt32) b1_75) := hp_77
      obtain ⟨hP, hD⟩ := ty_bkPD (E := [(fn_1 ch idx cl mt sta prg stp las tb qu wai bin bou hel sbo), (fn_0 cl cur pts nom ohm pol tau chg lft cap thr pz tmp het cun vol bk), (fn_3 bk cin cou ein eou), (fn_4 mt res mca mre trr wfo wct bd), (fn_9 wo tim se cu pr cco chs rc lg), (rf_RW ct 0 kds 48 fkds), (fn_5 pr pcn sps kds fst scs), (rf_RW ct 0 scs 48 fscs), (fn_8 rc rlim rwid rnu told1_57 tsiz1_58), (rf_RW ct 0 rnu 150 b1_75)]) hP hD rfl
      refine lv_aload hx hb dX1_makeRecord_121 (lv_at hl 1 rfl) ?_
      refine lv_iload hx hb dX1_makeRecord_123 (lv_at hl 0 rfl) ?_
      refine lv_iconst (v := 2) hx hb dX1_makeRecord_125 (by decide) ?_
      refine lv_iadd hx hb dX1_makeRecord_126 ?_
      refine lv_aload_n hx hb dX1_makeRecord_127 rfl (lv_at hl 5 rfl) ?_
      refine va_getN (v := .long cou) (D := D) (ci := 3) (C := RX3) (T := TX3) (N := 4) hx hb hts in_X3 hown hK hP 2 rfl rfl 1 (by decide) (hts _ kl_RX1_119) (fun _ h9 => h9) rfl dX1_makeRecord_128 ?_
      refine lv_aload_n hx hb dX1_makeRecord_131 rfl (lv_at hl 6 rfl) ?_
      refine va_get (v := .long bou) (D := D) (ci := 1) (C := RX1) (T := TX1) (N := 14) hx hb hts in_X1 hown hK hP 0 rfl rfl 11 (by decide) (hts _ kl_RX1_66) (fun _ h9 => h9) rfl dX1_makeRecord_132 ?_
      refine lv_lsub hx hb dX1_makeRecord_135 ?_
      refine lv_l2i hx hb dX1_makeRecord_136 rfl ?_
      obtain ⟨hP, hD⟩ := ty_ipPD (E1 := [(fn_1 ch idx cl mt sta prg stp las tb qu wai bin bou hel sbo), (fn_0 cl cur pts nom ohm pol tau chg lft cap thr pz tmp het cun vol bk), (fn_3 bk cin cou ein eou), (fn_4 mt res mca mre trr wfo wct bd), (fn_9 wo tim se cu pr cco chs rc lg), (rf_RW ct 0 kds 48 fkds), (fn_5 pr pcn sps kds fst scs), (rf_RW ct 0 scs 48 fscs), (fn_8 rc rlim rwid rnu told1_57 tsiz1_58)]) (E2 := [(rf_RW ct 0 rnu 150 b1_75)]) hP hD rfl ty_mv2
      refine ty_Kv hP hD hS hA (va_runSN (As := [.ref rnu, .int (r_61 + 2), .int ((cou - bou).toInt32)]) (rest := []) ⟨hx, hb, hml, hown, hts⟩ (r_X10_put_150 l D ct (fun _ => none) [] (fun _ => True) (fun _ _ _ => True) rnu b1_75 (r_61 + 2) ((cou - bou).toInt32) _ ty_V0 ty_C0 ty_y10) (cm_SN 3 hts kc_X10_put ki_RX10 kl_RX1_126 ks_X10_put kd_X10_put ⟨Nat.le_of_ble_eq_true rfl, Nat.le_of_ble_eq_true rfl⟩) (ty_preS hP hK hD hS hA hX) rfl rfl hl.1 rfl (lv_room (Nat.le_of_ble_eq_true rfl)) dX1_makeRecord_137 ⟨Nat.le_of_ble_eq_true rfl, Nat.le_of_ble_eq_true rfl⟩) (fun u H locs hw_79 hP hD hS => ?_)
      obtain ⟨ws_80, b1_81⟩ := u
      obtain ⟨hT9_82, hp_83⟩ := hw_79
      have hp_83 : (a_X10_put_150 b1_75 (r_61 + 2) ((cou - bou).toInt32) b1_81) := hp_83
      obtain ⟨hP, hD⟩ := ty_bkPD (E := [(fn_1 ch idx cl mt sta prg stp las tb qu wai bin bou hel sbo), (fn_0 cl cur pts nom ohm pol tau chg lft cap thr pz tmp het cun vol bk), (fn_3 bk cin cou ein eou), (fn_4 mt res mca mre trr wfo wct bd), (fn_9 wo tim se cu pr cco chs rc lg), (rf_RW ct 0 kds 48 fkds), (fn_5 pr pcn sps kds fst scs), (rf_RW ct 0 scs 48 fscs), (fn_8 rc rlim rwid rnu told1_57 tsiz1_58), (rf_RW ct 0 rnu 150 b1_81)]) hP hD rfl
      refine lv_aload hx hb dX1_makeRecord_140 (lv_at hl 1 rfl) ?_
      refine lv_iload hx hb dX1_makeRecord_142 (lv_at hl 0 rfl) ?_
      refine lv_iconst (v := 3) hx hb dX1_makeRecord_144 (by decide) ?_
      refine lv_iadd hx hb dX1_makeRecord_145 ?_
      refine lv_aload_n hx hb dX1_makeRecord_146 rfl (lv_at hl 7 rfl) ?_
      refine va_getN (v := .int tim) (D := D) (ci := 9) (C := RX9) (T := TX9) (N := 8) hx hb hts in_X9 hown hK hP 4 rfl rfl 0 (by decide) (hts _ kl_RX1_258) (fun _ h9 => h9) rfl dX1_makeRecord_147 ?_
      obtain ⟨hP, hD⟩ := ty_ipPD (E1 := [(fn_1 ch idx cl mt sta prg stp las tb qu wai bin bou hel sbo), (fn_0 cl cur pts nom ohm pol tau chg lft cap thr pz tmp het cun vol bk), (fn_3 bk cin cou ein eou), (fn_4 mt res mca mre trr wfo wct bd), (fn_9 wo tim se cu pr cco chs rc lg), (rf_RW ct 0 kds 48 fkds), (fn_5 pr pcn sps kds fst scs), (rf_RW ct 0 scs 48 fscs), (fn_8 rc rlim rwid rnu told1_57 tsiz1_58)]) (E2 := [(rf_RW ct 0 rnu 150 b1_81)]) hP hD rfl ty_mv2
      refine ty_Kv hP hD hS hA (va_runSN (As := [.ref rnu, .int (r_61 + 3), .int tim]) (rest := []) ⟨hx, hb, hml, hown, hts⟩ (r_X10_put_150 l D ct (fun _ => none) [] (fun _ => True) (fun _ _ _ => True) rnu b1_81 (r_61 + 3) tim _ ty_V0 ty_C0 ty_y10) (cm_SN 3 hts kc_X10_put ki_RX10 kl_RX1_126 ks_X10_put kd_X10_put ⟨Nat.le_of_ble_eq_true rfl, Nat.le_of_ble_eq_true rfl⟩) (ty_preS hP hK hD hS hA hX) rfl rfl hl.1 rfl (lv_room (Nat.le_of_ble_eq_true rfl)) dX1_makeRecord_150 ⟨Nat.le_of_ble_eq_true rfl, Nat.le_of_ble_eq_true rfl⟩) (fun u H locs hw_85 hP hD hS => ?_)
      obtain ⟨ws_86, b1_87⟩ := u
      obtain ⟨hT9_88, hp_89⟩ := hw_85
      have hp_89 : (a_X10_put_150 b1_81 (r_61 + 3) tim b1_87) := hp_89
      obtain ⟨hP, hD⟩ := ty_bkPD (E := [(fn_1 ch idx cl mt sta prg stp las tb qu wai bin bou hel sbo), (fn_0 cl cur pts nom ohm pol tau chg lft cap thr pz tmp het cun vol bk), (fn_3 bk cin cou ein eou), (fn_4 mt res mca mre trr wfo wct bd), (fn_9 wo tim se cu pr cco chs rc lg), (rf_RW ct 0 kds 48 fkds), (fn_5 pr pcn sps kds fst scs), (rf_RW ct 0 scs 48 fscs), (fn_8 rc rlim rwid rnu told1_57 tsiz1_58), (rf_RW ct 0 rnu 150 b1_87)]) hP hD rfl
      refine lv_aload hx hb dX1_makeRecord_153 (lv_at hl 1 rfl) ?_
      refine lv_iload hx hb dX1_makeRecord_155 (lv_at hl 0 rfl) ?_
      refine lv_iconst (v := 4) hx hb dX1_makeRecord_157 (by decide) ?_
      refine lv_iadd hx hb dX1_makeRecord_158 ?_
      refine lv_iload hx hb dX1_makeRecord_159 (lv_at hl 3 rfl) ?_
      refine lv_if_eq (tgt := 168) hx hb dX1_makeRecord_161 (by decide) (fun _ => ?_) (fun hc => absurd (by decide) hc)
      refine lv_iconst (v := 0) hx hb dX1_makeRecord_168 (by decide) ?_
      obtain ⟨hP, hD⟩ := ty_ipPD (E1 := [(fn_1 ch idx cl mt sta prg stp las tb qu wai bin bou hel sbo), (fn_0 cl cur pts nom ohm pol tau chg lft cap thr pz tmp het cun vol bk), (fn_3 bk cin cou ein eou), (fn_4 mt res mca mre trr wfo wct bd), (fn_9 wo tim se cu pr cco chs rc lg), (rf_RW ct 0 kds 48 fkds), (fn_5 pr pcn sps kds fst scs), (rf_RW ct 0 scs 48 fscs), (fn_8 rc rlim rwid rnu told1_57 tsiz1_58)]) (E2 := [(rf_RW ct 0 rnu 150 b1_87)]) hP hD rfl ty_mv2
      refine ty_Kv hP hD hS hA (va_runSN (As := [.ref rnu, .int (r_61 + 4), .int 0]) (rest := []) ⟨hx, hb, hml, hown, hts⟩ (r_X10_put_150 l D ct (fun _ => none) [] (fun _ => True) (fun _ _ _ => True) rnu b1_87 (r_61 + 4) (0 : Int32) _ ty_V0 ty_C0 ty_y10) (cm_SN 3 hts kc_X10_put ki_RX10 kl_RX1_126 ks_X10_put kd_X10_put ⟨Nat.le_of_ble_eq_true rfl, Nat.le_of_ble_eq_true rfl⟩) (ty_preS hP hK hD hS hA hX) rfl rfl hl.1 rfl (lv_room (Nat.le_of_ble_eq_true rfl)) dX1_makeRecord_169 ⟨Nat.le_of_ble_eq_true rfl, Nat.le_of_ble_eq_true rfl⟩) (fun u H locs hw_91 hP hD hS => ?_)
      obtain ⟨ws_92, b1_93⟩ := u
      obtain ⟨hT9_94, hp_95⟩ := hw_91
      have hp_95 : (a_X10_put_150 b1_87 (r_61 + 4) (0 : Int32) b1_93) := hp_95
      obtain ⟨hP, hD⟩ := ty_bkPD (E := [(fn_1 ch idx cl mt sta prg stp las tb qu wai bin bou hel sbo), (fn_0 cl cur pts nom ohm pol tau chg lft cap thr pz tmp het cun vol bk), (fn_3 bk cin cou ein eou), (fn_4 mt res mca mre trr wfo wct bd), (fn_9 wo tim se cu pr cco chs rc lg), (rf_RW ct 0 kds 48 fkds), (fn_5 pr pcn sps kds fst scs), (rf_RW ct 0 scs 48 fscs), (fn_8 rc rlim rwid rnu told1_57 tsiz1_58), (rf_RW ct 0 rnu 150 b1_93)]) hP hD rfl
      refine lv_iload hx hb dX1_makeRecord_172 (lv_at hl 3 rfl) ?_
      refine lv_if_eq (tgt := 194) hx hb dX1_makeRecord_174 (by decide) (fun _ => ?_) (fun hc => absurd (by decide) hc)
      refine lv_aload_n hx hb dX1_makeRecord_194 rfl (lv_at hl 6 rfl) ?_
      obtain ⟨hP, hD⟩ := ty_opPD (E1 := [(fn_4 mt res mca mre trr wfo wct bd), (fn_9 wo tim se cu pr cco chs rc lg), (rf_RW ct 0 kds 48 fkds), (fn_5 pr pcn sps kds fst scs), (rf_RW ct 0 scs 48 fscs), (fn_8 rc rlim rwid rnu told1_57 tsiz1_58), (rf_RW ct 0 rnu 150 b1_93)]) (E2 := [(fn_1 ch idx cl mt sta prg stp las tb qu wai bin bou hel sbo), (fn_0 cl cur pts nom ohm pol tau chg lft cap thr pz tmp het cun vol bk), (fn_3 bk cin cou ein eou)]) (n := 10) [3, 4, 5, 6, 7, 8, 9, 0, 1, 2] hP hD rfl rfl (by decide +kernel) ty_mv2
      refine ty_Kv hP hD hS hA (va_runV (As := []) (rest := []) ⟨hx, hb, hml, hown, hts⟩ (r_X1_countFromHere l D ct (fun _ => none) [] (fun _ => True) (fun _ _ _ => True) ch idx cl mt sta prg stp las tb qu wai bin bou hel sbo cur pts nom ohm pol tau chg lft cap thr pz tmp het cun vol bk cin cou ein eou _ ty_V0 ty_C0 ty_y10) (cm_V 0 hts kc_X1_countFromHere ki_RX1 kl_RX1_97 kv_X1_countFromHere kx_X1_countFromHere kd_X1_countFromHere ⟨Nat.le_of_ble_eq_true rfl, Nat.le_of_ble_eq_true rfl⟩) (ty_preE (ci := 1) hP hK hD hS hA hX rfl (ty_app (j := 0) rfl)) rfl rfl hl.1 rfl (lv_room (Nat.le_of_ble_eq_true rfl)) dX1_makeRecord_195 ⟨Nat.le_of_ble_eq_true rfl, Nat.le_of_ble_eq_true rfl⟩) (fun u H locs hw_97 hP hD hS => ?_)
      obtain ⟨ws_98, rfl⟩ : ∃ z, z = u := ⟨_, rfl⟩
      have hT9_99 := hw_97
      obtain ⟨hP, hD⟩ := ty_bkPD (E := [(fn_4 mt res mca mre trr wfo wct bd), (fn_9 wo tim se cu pr cco chs rc lg), (rf_RW ct 0 kds 48 fkds), (fn_5 pr pcn sps kds fst scs), (rf_RW ct 0 scs 48 fscs), (fn_8 rc rlim rwid rnu told1_57 tsiz1_58), (rf_RW ct 0 rnu 150 b1_93), (fn_1 ch idx cl mt sta prg stp las tb qu wai cin cou (0) sbo), (fn_0 cl cur pts nom ohm pol tau chg lft cap thr pz tmp het cun vol bk), (fn_3 bk cin cou ein eou)]) hP hD rfl
      obtain ⟨hP, hD⟩ := ty_ordPD (E2 := [(fn_1 ch idx cl mt sta prg stp las tb qu wai cin cou (0) sbo), (fn_0 cl cur pts nom ohm pol tau chg lft cap thr pz tmp het cun vol bk), (fn_3 bk cin cou ein eou), (fn_4 mt res mca mre trr wfo wct bd), (fn_9 wo tim se cu pr cco chs rc lg), (fn_5 pr pcn sps kds fst scs), (rf_RW ct 0 kds 48 fkds), (rf_RW ct 0 scs 48 fscs), (fn_8 rc rlim rwid rnu told1_57 tsiz1_58), (rf_RW ct 0 rnu 150 b1_93)]) (n := 10) [7, 8, 9, 0, 1, 3, 2, 4, 5, 6] hP hD rfl rfl (by decide +kernel)
      exact W.vret hx hb hr (fun t ht hW => ⟨⟨(ws, cin, cou, (0 : Int32), mca, told1_57, tsiz1_58, b1_93), rfl, ⟨hT, ⟨⟨r_1, hp_5, (Or.inl ⟨hc_6, (Or.inr ⟨hc_7, ⟨told1_57, tsiz1_58, hp_60, ⟨r_61, hp_65, ⟨b1_69, hp_71, ⟨b1_75, hp_77, ⟨b1_81, hp_83, ⟨b1_87, hp_89, ⟨b1_93, hp_95, ⟨rfl, rfl, rfl, rfl, rfl, rfl, rfl⟩⟩⟩⟩⟩⟩⟩⟩⟩)⟩)⟩, (fun h9 => (show vp_nar .boolean (0 : Int32) = 0 from by decide))⟩⟩, by rw [ht]; exact hP, by rw [hAe]; exact hD⟩, hS.F ht⟩) hS.2.2 dX1_makeRecord_198
  · refine lv_iconst (v := 1) hx hb dX1_makeRecord_33 (by decide) ?_
    refine lv_goto (tgt := 38) hx hb dX1_makeRecord_34 (by decide) ?_
    refine lv_istore_n (lv' := [(3, .int 1), (2, .ref bk), (0, .ref ch), (1, .ref wo)]) hx hb dX1_makeRecord_38 rfl hl (by decide) rfl (fun ls hl => ?_)
    refine lv_aload_n hx hb dX1_makeRecord_39 rfl (lv_at hl 2 rfl) ?_
    refine va_get (v := .int hel) (D := D) (ci := 1) (C := RX1) (T := TX1) (N := 14) hx hb hts in_X1 hown hK hP 0 rfl rfl 12 (by decide) (hts _ kl_RX1_69) (fun _ h9 => h9) rfl dX1_makeRecord_40 ?_
    refine lv_if_eq (tgt := 54) hx hb dX1_makeRecord_43 (by decide) (fun hc_100 => ?_) (fun hc_100 => ?_)
    · refine lv_iconst (v := 0) hx hb dX1_makeRecord_54 (by decide) ?_
      refine lv_istore (lv' := [(4, .int 0), (3, .int 1), (2, .ref bk), (0, .ref ch), (1, .ref wo)]) hx hb dX1_makeRecord_55 hl (by decide) rfl (fun ls hl => ?_)
      refine lv_aload_n hx hb dX1_makeRecord_57 rfl (lv_at hl 4 rfl) ?_
      refine va_getN (v := .ref rc) (D := D) (ci := 9) (C := RX9) (T := TX9) (N := 8) hx hb hts in_X9 hown hK hP 4 rfl rfl 6 (by decide) (hts _ kl_RX1_240) (fun _ h9 => h9) rfl dX1_makeRecord_58 ?_
      refine lv_astore (lv' := [(5, .ref rc), (4, .int 0), (3, .int 1), (2, .ref bk), (0, .ref ch), (1, .ref wo)]) hx hb dX1_makeRecord_61 hl (by decide) rfl (fun ls hl => ?_)
      refine lv_aload hx hb dX1_makeRecord_63 (lv_at hl 0 rfl) ?_
      obtain ⟨hP, hD⟩ := ty_opPD (E1 := [(fn_1 ch idx cl mt sta prg stp las tb qu wai bin bou hel sbo), (fn_0 cl cur pts nom ohm pol tau chg lft cap thr pz tmp het cun vol bk), (fn_3 bk cin cou ein eou), (fn_4 mt res mca mre trr wfo wct bd), (fn_9 wo tim se cu pr cco chs rc lg), (rf_RW ct 0 kds 48 fkds), (rf_RW ct 0 rnu 150 frn), (fn_5 pr pcn sps kds fst scs), (rf_RW ct 0 scs 48 fscs)]) (E2 := [(fn_8 rc rlim rwid rnu rold rsiz)]) (n := 10) [0, 1, 2, 3, 4, 5, 7, 8, 9, 6] hP hD rfl rfl (by decide +kernel) ty_mv2
      refine ty_Kv hP hD hS hA (va_runVN (As := []) (rest := []) ⟨hx, hb, hml, hown, hts⟩ (r_X8_addRow l D ct (fun _ => none) [] (fun _ => True) (fun _ _ _ => True) rc rlim rwid rnu rold rsiz _ ty_V0 ty_C0 ty_y10) (cm_VN 0 hts kc_X8_addRow ki_RX8 kl_RX1_244 kv_X8_addRow kx_X8_addRow kd_X8_addRow ⟨Nat.le_of_ble_eq_true rfl, Nat.le_of_ble_eq_true rfl⟩) (ty_preE (ci := 8) hP hK hD hS hA hX rfl (ty_app (j := 0) rfl)) rfl rfl hl.1 rfl (lv_room (Nat.le_of_ble_eq_true rfl)) dX1_makeRecord_65 ⟨Nat.le_of_ble_eq_true rfl, Nat.le_of_ble_eq_true rfl⟩) (fun u H locs hw_102 hP hD hS => ?_)
      obtain ⟨ws_103, told1_104, tsiz1_105⟩ := u
      obtain ⟨hT9_106, hp_107⟩ := hw_102
      have hp_107 : (a_X8_addRow rlim rold rsiz told1_104 tsiz1_105) := hp_107
      obtain ⟨hP, hD⟩ := ty_bkPD (E := [(fn_1 ch idx cl mt sta prg stp las tb qu wai bin bou hel sbo), (fn_0 cl cur pts nom ohm pol tau chg lft cap thr pz tmp het cun vol bk), (fn_3 bk cin cou ein eou), (fn_4 mt res mca mre trr wfo wct bd), (fn_9 wo tim se cu pr cco chs rc lg), (rf_RW ct 0 kds 48 fkds), (rf_RW ct 0 rnu 150 frn), (fn_5 pr pcn sps kds fst scs), (rf_RW ct 0 scs 48 fscs), (fn_8 rc rlim rwid rnu told1_104 tsiz1_105)]) hP hD rfl
      refine lv_aload hx hb dX1_makeRecord_68 (lv_at hl 0 rfl) ?_
      refine va_getN (v := .ref rnu) (D := D) (ci := 8) (C := RX8) (T := TX8) (N := 5) hx hb hts in_X8 hown hK hP 9 rfl rfl 2 (by decide) (hts _ kl_RX1_249) (fun _ h9 => h9) rfl dX1_makeRecord_70 ?_
      refine lv_astore (lv' := [(6, .ref rnu), (5, .ref rc), (4, .int 0), (3, .int 1), (2, .ref bk), (0, .ref ch), (1, .ref wo)]) hx hb dX1_makeRecord_73 hl (by decide) rfl (fun ls hl => ?_)
      refine lv_aload hx hb dX1_makeRecord_75 (lv_at hl 1 rfl) ?_
      refine lv_aload hx hb dX1_makeRecord_77 (lv_at hl 1 rfl) ?_
      refine va_getN (v := .int tsiz1_105) (D := D) (ci := 8) (C := RX8) (T := TX8) (N := 5) hx hb hts in_X8 hown hK hP 9 rfl rfl 4 (by decide) (hts _ kl_RX1_252) (fun _ h9 => h9) rfl dX1_makeRecord_79 ?_
      refine lv_iconst (v := 1) hx hb dX1_makeRecord_82 (by decide) ?_
      refine lv_isub hx hb dX1_makeRecord_83 ?_
      obtain ⟨hP, hD⟩ := ty_ipPD (E1 := [(fn_1 ch idx cl mt sta prg stp las tb qu wai bin bou hel sbo), (fn_0 cl cur pts nom ohm pol tau chg lft cap thr pz tmp het cun vol bk), (fn_3 bk cin cou ein eou), (fn_4 mt res mca mre trr wfo wct bd), (fn_9 wo tim se cu pr cco chs rc lg), (rf_RW ct 0 kds 48 fkds), (rf_RW ct 0 rnu 150 frn), (fn_5 pr pcn sps kds fst scs), (rf_RW ct 0 scs 48 fscs)]) (E2 := [(fn_8 rc rlim rwid rnu told1_104 tsiz1_105)]) hP hD rfl ty_mv2
      refine ty_Ki hP hD hS hA (va_runVN (As := [.int (tsiz1_105 - 1)]) (rest := []) ⟨hx, hb, hml, hown, hts⟩ (r_X8_placeOf l D ct (fun _ => none) [] (fun _ => True) (fun _ _ _ => True) rc rlim rwid rnu told1_104 tsiz1_105 (tsiz1_105 - 1) _ ty_V0 ty_C0 ty_y10) (cm_VN 1 hts kc_X8_placeOf ki_RX8 kl_RX1_255 kv_X8_placeOf kx_X8_placeOf kd_X8_placeOf ⟨Nat.le_of_ble_eq_true rfl, Nat.le_of_ble_eq_true rfl⟩) (ty_preE (ci := 8) hP hK hD hS hA hX rfl (ty_app (j := 0) rfl)) rfl rfl hl.1 rfl (lv_room (Nat.le_of_ble_eq_true rfl)) dX1_makeRecord_84 ⟨Nat.le_of_ble_eq_true rfl, Nat.le_of_ble_eq_true rfl⟩) (fun r_108 u H locs hw_109 hP hD hS => ?_)
      obtain ⟨ws_110, rfl⟩ : ∃ z, z = u := ⟨_, rfl⟩
      obtain ⟨hT9_111, hp_112⟩ := hw_109
      have hp_112 : (a_X8_placeOf rlim rwid told1_104 (tsiz1_105 - 1) r_108) := hp_112
      obtain ⟨hP, hD⟩ := ty_bkPD (E := [(fn_1 ch idx cl mt sta prg stp las tb qu wai bin bou hel sbo), (fn_0 cl cur pts nom ohm pol tau chg lft cap thr pz tmp het cun vol bk), (fn_3 bk cin cou ein eou), (fn_4 mt res mca mre trr wfo wct bd), (fn_9 wo tim se cu pr cco chs rc lg), (rf_RW ct 0 kds 48 fkds), (rf_RW ct 0 rnu 150 frn), (fn_5 pr pcn sps kds fst scs), (rf_RW ct 0 scs 48 fscs), (fn_8 rc rlim rwid rnu told1_104 tsiz1_105)]) hP hD rfl
      refine lv_istore (lv' := [(7, .int r_108), (6, .ref rnu), (5, .ref rc), (4, .int 0), (3, .int 1), (2, .ref bk), (0, .ref ch), (1, .ref wo)]) hx hb dX1_makeRecord_87 hl (by decide) rfl (fun ls hl => ?_)
      refine lv_aload hx hb dX1_makeRecord_89 (lv_at hl 1 rfl) ?_
      refine lv_iload hx hb dX1_makeRecord_91 (lv_at hl 0 rfl) ?_
      refine lv_iconst (v := 0) hx hb dX1_makeRecord_93 (by decide) ?_
      refine lv_iadd hx hb dX1_makeRecord_94 ?_
      refine lv_aload_n hx hb dX1_makeRecord_95 rfl (lv_at hl 6 rfl) ?_
      refine va_get (v := .int idx) (D := D) (ci := 1) (C := RX1) (T := TX1) (N := 14) hx hb hts in_X1 hown hK hP 0 rfl rfl 0 (by decide) (hts _ kl_RX1_9) (fun _ h9 => h9) rfl dX1_makeRecord_96 ?_
      obtain ⟨hP, hD⟩ := ty_opPD (E1 := [(fn_1 ch idx cl mt sta prg stp las tb qu wai bin bou hel sbo), (fn_0 cl cur pts nom ohm pol tau chg lft cap thr pz tmp het cun vol bk), (fn_3 bk cin cou ein eou), (fn_4 mt res mca mre trr wfo wct bd), (fn_9 wo tim se cu pr cco chs rc lg), (rf_RW ct 0 kds 48 fkds), (fn_5 pr pcn sps kds fst scs), (rf_RW ct 0 scs 48 fscs), (fn_8 rc rlim rwid rnu told1_104 tsiz1_105)]) (E2 := [(rf_RW ct 0 rnu 150 frn)]) (n := 10) [0, 1, 2, 3, 4, 5, 7, 8, 9, 6] hP hD rfl rfl (by decide +kernel) ty_mv2
      refine ty_Kv hP hD hS hA (va_runSN (As := [.ref rnu, .int (r_108 + 0), .int idx]) (rest := []) ⟨hx, hb, hml, hown, hts⟩ (r_X10_put_150 l D ct (fun _ => none) [] (fun _ => True) (fun _ _ _ => True) rnu frn (r_108 + 0) idx _ ty_V0 ty_C0 ty_y10) (cm_SN 3 hts kc_X10_put ki_RX10 kl_RX1_126 ks_X10_put kd_X10_put ⟨Nat.le_of_ble_eq_true rfl, Nat.le_of_ble_eq_true rfl⟩) (ty_preS hP hK hD hS hA hX) rfl rfl hl.1 rfl (lv_room (Nat.le_of_ble_eq_true rfl)) dX1_makeRecord_99 ⟨Nat.le_of_ble_eq_true rfl, Nat.le_of_ble_eq_true rfl⟩) (fun u H locs hw_114 hP hD hS => ?_)
      obtain ⟨ws_115, b1_116⟩ := u
      obtain ⟨hT9_117, hp_118⟩ := hw_114
      have hp_118 : (a_X10_put_150 frn (r_108 + 0) idx b1_116) := hp_118
      obtain ⟨hP, hD⟩ := ty_bkPD (E := [(fn_1 ch idx cl mt sta prg stp las tb qu wai bin bou hel sbo), (fn_0 cl cur pts nom ohm pol tau chg lft cap thr pz tmp het cun vol bk), (fn_3 bk cin cou ein eou), (fn_4 mt res mca mre trr wfo wct bd), (fn_9 wo tim se cu pr cco chs rc lg), (rf_RW ct 0 kds 48 fkds), (fn_5 pr pcn sps kds fst scs), (rf_RW ct 0 scs 48 fscs), (fn_8 rc rlim rwid rnu told1_104 tsiz1_105), (rf_RW ct 0 rnu 150 b1_116)]) hP hD rfl
      refine lv_aload hx hb dX1_makeRecord_102 (lv_at hl 1 rfl) ?_
      refine lv_iload hx hb dX1_makeRecord_104 (lv_at hl 0 rfl) ?_
      refine lv_iconst (v := 1) hx hb dX1_makeRecord_106 (by decide) ?_
      refine lv_iadd hx hb dX1_makeRecord_107 ?_
      refine lv_aload_n hx hb dX1_makeRecord_108 rfl (lv_at hl 5 rfl) ?_
      refine va_getN (v := .long cin) (D := D) (ci := 3) (C := RX3) (T := TX3) (N := 4) hx hb hts in_X3 hown hK hP 2 rfl rfl 0 (by decide) (hts _ kl_RX1_114) (fun _ h9 => h9) rfl dX1_makeRecord_109 ?_
      refine lv_aload_n hx hb dX1_makeRecord_112 rfl (lv_at hl 6 rfl) ?_
      refine va_get (v := .long bin) (D := D) (ci := 1) (C := RX1) (T := TX1) (N := 14) hx hb hts in_X1 hown hK hP 0 rfl rfl 10 (by decide) (hts _ kl_RX1_62) (fun _ h9 => h9) rfl dX1_makeRecord_113 ?_
      refine lv_lsub hx hb dX1_makeRecord_116 ?_
      refine lv_l2i hx hb dX1_makeRecord_117 rfl ?_
      obtain ⟨hP, hD⟩ := ty_ipPD (E1 := [(fn_1 ch idx cl mt sta prg stp las tb qu wai bin bou hel sbo), (fn_0 cl cur pts nom ohm pol tau chg lft cap thr pz tmp het cun vol bk), (fn_3 bk cin cou ein eou), (fn_4 mt res mca mre trr wfo wct bd), (fn_9 wo tim se cu pr cco chs rc lg), (rf_RW ct 0 kds 48 fkds), (fn_5 pr pcn sps kds fst scs), (rf_RW ct 0 scs 48 fscs), (fn_8 rc rlim rwid rnu told1_104 tsiz1_105)]) (E2 := [(rf_RW ct 0 rnu 150 b1_116)]) hP hD rfl ty_mv2
      refine ty_Kv hP hD hS hA (va_runSN (As := [.ref rnu, .int (r_108 + 1), .int ((cin - bin).toInt32)]) (rest := []) ⟨hx, hb, hml, hown, hts⟩ (r_X10_put_150 l D ct (fun _ => none) [] (fun _ => True) (fun _ _ _ => True) rnu b1_116 (r_108 + 1) ((cin - bin).toInt32) _ ty_V0 ty_C0 ty_y10) (cm_SN 3 hts kc_X10_put ki_RX10 kl_RX1_126 ks_X10_put kd_X10_put ⟨Nat.le_of_ble_eq_true rfl, Nat.le_of_ble_eq_true rfl⟩) (ty_preS hP hK hD hS hA hX) rfl rfl hl.1 rfl (lv_room (Nat.le_of_ble_eq_true rfl)) dX1_makeRecord_118 ⟨Nat.le_of_ble_eq_true rfl, Nat.le_of_ble_eq_true rfl⟩) (fun u H locs hw_120 hP hD hS => ?_)
      obtain ⟨ws_121, b1_122⟩ := u
      obtain ⟨hT9_123, hp_124⟩ := hw_120
      have hp_124 : (a_X10_put_150 b1_116 (r_108 + 1) ((cin - bin).toInt32) b1_122) := hp_124
      obtain ⟨hP, hD⟩ := ty_bkPD (E := [(fn_1 ch idx cl mt sta prg stp las tb qu wai bin bou hel sbo), (fn_0 cl cur pts nom ohm pol tau chg lft cap thr pz tmp het cun vol bk), (fn_3 bk cin cou ein eou), (fn_4 mt res mca mre trr wfo wct bd), (fn_9 wo tim se cu pr cco chs rc lg), (rf_RW ct 0 kds 48 fkds), (fn_5 pr pcn sps kds fst scs), (rf_RW ct 0 scs 48 fscs), (fn_8 rc rlim rwid rnu told1_104 tsiz1_105), (rf_RW ct 0 rnu 150 b1_122)]) hP hD rfl
      refine lv_aload hx hb dX1_makeRecord_121 (lv_at hl 1 rfl) ?_
      refine lv_iload hx hb dX1_makeRecord_123 (lv_at hl 0 rfl) ?_
      refine lv_iconst (v := 2) hx hb dX1_makeRecord_125 (by decide) ?_
      refine lv_iadd hx hb dX1_makeRecord_126 ?_
      refine lv_aload_n hx hb dX1_makeRecord_127 rfl (lv_at hl 5 rfl) ?_
      refine va_getN (v := .long cou) (D := D) (ci := 3) (C := RX3) (T := TX3) (N := 4) hx hb hts in_X3 hown hK hP 2 rfl rfl 1 (by decide) (hts _ kl_RX1_119) (fun _ h9 => h9) rfl dX1_makeRecord_128 ?_
      refine lv_aload_n hx hb dX1_makeRecord_131 rfl (lv_at hl 6 rfl) ?_
      refine va_get (v := .long bou) (D := D) (ci := 1) (C := RX1) (T := TX1) (N := 14) hx hb hts in_X1 hown hK hP 0 rfl rfl 11 (by decide) (hts _ kl_RX1_66) (fun _ h9 => h9) rfl dX1_makeRecord_132 ?_
      refine lv_lsub hx hb dX1_makeRecord_135 ?_
      refine lv_l2i hx hb dX1_makeRecord_136 rfl ?_
      obtain ⟨hP, hD⟩ := ty_ipPD (E1 := [(fn_1 ch idx cl mt sta prg stp las tb qu wai bin bou hel sbo), (fn_0 cl cur pts nom ohm pol tau chg lft cap thr pz tmp het cun vol bk), (fn_3 bk cin cou ein eou), (fn_4 mt res mca mre trr wfo wct bd), (fn_9 wo tim se cu pr cco chs rc lg), (rf_RW ct 0 kds 48 fkds), (fn_5 pr pcn sps kds fst scs), (rf_RW ct 0 scs 48 fscs), (fn_8 rc rlim rwid rnu told1_104 tsiz1_105)]) (E2 := [(rf_RW ct 0 rnu 150 b1_122)]) hP hD rfl ty_mv2
      refine ty_Kv hP hD hS hA (va_runSN (As := [.ref rnu, .int (r_108 + 2), .int ((cou - bou).toInt32)]) (rest := []) ⟨hx, hb, hml, hown, hts⟩ (r_X10_put_150 l D ct (fun _ => none) [] (fun _ => True) (fun _ _ _ => True) rnu b1_122 (r_108 + 2) ((cou - bou).toInt32) _ ty_V0 ty_C0 ty_y10) (cm_SN 3 hts kc_X10_put ki_RX10 kl_RX1_126 ks_X10_put kd_X10_put ⟨Nat.le_of_ble_eq_true rfl, Nat.le_of_ble_eq_true rfl⟩) (ty_preS hP hK hD hS hA hX) rfl rfl hl.1 rfl (lv_room (Nat.le_of_ble_eq_true rfl)) dX1_makeRecord_137 ⟨Nat.le_of_ble_eq_true rfl, Nat.le_of_ble_eq_true rfl⟩) (fun u H locs hw_126 hP hD hS => ?_)
      obtain ⟨ws_127, b1_128⟩ := u
      obtain ⟨hT9_129, hp_130⟩ := hw_126
      have hp_130 : (a_X10_put_150 b1_122 (r_108 + 2) ((cou - bou).toInt32) b1_128) := hp_130
      obtain ⟨hP, hD⟩ := ty_bkPD (E := [(fn_1 ch idx cl mt sta prg stp las tb qu wai bin bou hel sbo), (fn_0 cl cur pts nom ohm pol tau chg lft cap thr pz tmp het cun vol bk), (fn_3 bk cin cou ein eou), (fn_4 mt res mca mre trr wfo wct bd), (fn_9 wo tim se cu pr cco chs rc lg), (rf_RW ct 0 kds 48 fkds), (fn_5 pr pcn sps kds fst scs), (rf_RW ct 0 scs 48 fscs), (fn_8 rc rlim rwid rnu told1_104 tsiz1_105), (rf_RW ct 0 rnu 150 b1_128)]) hP hD rfl
      refine lv_aload hx hb dX1_makeRecord_140 (lv_at hl 1 rfl) ?_
      refine lv_iload hx hb dX1_makeRecord_142 (lv_at hl 0 rfl) ?_
      refine lv_iconst (v := 3) hx hb dX1_makeRecord_144 (by decide) ?_
      refine lv_iadd hx hb dX1_makeRecord_145 ?_
      refine lv_aload_n hx hb dX1_makeRecord_146 rfl (lv_at hl 7 rfl) ?_
      refine va_getN (v := .int tim) (D := D) (ci := 9) (C := RX9) (T := TX9) (N := 8) hx hb hts in_X9 hown hK hP 4 rfl rfl 0 (by decide) (hts _ kl_RX1_258) (fun _ h9 => h9) rfl dX1_makeRecord_147 ?_
      obtain ⟨hP, hD⟩ := ty_ipPD (E1 := [(fn_1 ch idx cl mt sta prg stp las tb qu wai bin bou hel sbo), (fn_0 cl cur pts nom ohm pol tau chg lft cap thr pz tmp het cun vol bk), (fn_3 bk cin cou ein eou), (fn_4 mt res mca mre trr wfo wct bd), (fn_9 wo tim se cu pr cco chs rc lg), (rf_RW ct 0 kds 48 fkds), (fn_5 pr pcn sps kds fst scs), (rf_RW ct 0 scs 48 fscs), (fn_8 rc rlim rwid rnu told1_104 tsiz1_105)]) (E2 := [(rf_RW ct 0 rnu 150 b1_128)]) hP hD rfl ty_mv2
      refine ty_Kv hP hD hS hA (va_runSN (As := [.ref rnu, .int (r_108 + 3), .int tim]) (rest := []) ⟨hx, hb, hml, hown, hts⟩ (r_X10_put_150 l D ct (fun _ => none) [] (fun _ => True) (fun _ _ _ => True) rnu b1_128 (r_108 + 3) tim _ ty_V0 ty_C0 ty_y10) (cm_SN 3 hts kc_X10_put ki_RX10 kl_RX1_126 ks_X10_put kd_X10_put ⟨Nat.le_of_ble_eq_true rfl, Nat.le_of_ble_eq_true rfl⟩) (ty_preS hP hK hD hS hA hX) rfl rfl hl.1 rfl (lv_room (Nat.le_of_ble_eq_true rfl)) dX1_makeRecord_150 ⟨Nat.le_of_ble_eq_true rfl, Nat.le_of_ble_eq_true rfl⟩) (fun u H locs hw_132 hP hD hS => ?_)
      obtain ⟨ws_133, b1_134⟩ := u
      obtain ⟨hT9_135, hp_136⟩ := hw_132
      have hp_136 : (a_X10_put_150 b1_128 (r_108 + 3) tim b1_134) := hp_136
      obtain ⟨hP, hD⟩ := ty_bkPD (E := [(fn_1 ch idx cl mt sta prg stp las tb qu wai bin bou hel sbo), (fn_0 cl cur pts nom ohm pol tau chg lft cap thr pz tmp het cun vol bk), (fn_3 bk cin cou ein eou), (fn_4 mt res mca mre trr wfo wct bd), (fn_9 wo tim se cu pr cco chs rc lg), (rf_RW ct 0 kds 48 fkds), (fn_5 pr pcn sps kds fst scs), (rf_RW ct 0 scs 48 fscs), (fn_8 rc rlim rwid rnu told1_104 tsiz1_105), (rf_RW ct 0 rnu 150 b1_134)]) hP hD rfl
      refine lv_aload hx hb dX1_makeRecord_153 (lv_at hl 1 rfl) ?_
      refine lv_iload hx hb dX1_makeRecord_155 (lv_at hl 0 rfl) ?_
      refine lv_iconst (v := 4) hx hb dX1_makeRecord_157 (by decide) ?_
      refine lv_iadd hx hb dX1_makeRecord_158 ?_
      refine lv_iload hx hb dX1_makeRecord_159 (lv_at hl 3 rfl) ?_
      refine lv_if_eq (tgt := 168) hx hb dX1_makeRecord_161 (by decide) (fun _ => ?_) (fun hc => absurd (by decide) hc)
      refine lv_iconst (v := 0) hx hb dX1_makeRecord_168 (by decide) ?_
      obtain ⟨hP, hD⟩ := ty_ipPD (E1 := [(fn_1 ch idx cl mt sta prg stp las tb qu wai bin bou hel sbo), (fn_0 cl cur pts nom ohm pol tau chg lft cap thr pz tmp het cun vol bk), (fn_3 bk cin cou ein eou), (fn_4 mt res mca mre trr wfo wct bd), (fn_9 wo tim se cu pr cco chs rc lg), (rf_RW ct 0 kds 48 fkds), (fn_5 pr pcn sps kds fst scs), (rf_RW ct 0 scs 48 fscs), (fn_8 rc rlim rwid rnu told1_104 tsiz1_105)]) (E2 := [(rf_RW ct 0 rnu 150 b1_134)]) hP hD rfl ty_mv2
      refine ty_Kv hP hD hS hA (va_runSN (As := [.ref rnu, .int (r_108 + 4), .int 0]) (rest := []) ⟨hx, hb, hml, hown, hts⟩ (r_X10_put_150 l D ct (fun _ => none) [] (fun _ => True) (fun _ _ _ => True) rnu b1_134 (r_108 + 4) (0 : Int32) _ ty_V0 ty_C0 ty_y10) (cm_SN 3 hts kc_X10_put ki_RX10 kl_RX1_126 ks_X10_put kd_X10_put ⟨Nat.le_of_ble_eq_true rfl, Nat.le_of_ble_eq_true rfl⟩) (ty_preS hP hK hD hS hA hX) rfl rfl hl.1 rfl (lv_room (Nat.le_of_ble_eq_true rfl)) dX1_makeRecord_169 ⟨Nat.le_of_ble_eq_true rfl, Nat.le_of_ble_eq_true rfl⟩) (fun u H locs hw_138 hP hD hS => ?_)
      obtain ⟨ws_139, b1_140⟩ := u
      obtain ⟨hT9_141, hp_142⟩ := hw_138
      have hp_142 : (a_X10_put_150 b1_134 (r_108 + 4) (0 : Int32) b1_140) := hp_142
      obtain ⟨hP, hD⟩ := ty_bkPD (E := [(fn_1 ch idx cl mt sta prg stp las tb qu wai bin bou hel sbo), (fn_0 cl cur pts nom ohm pol tau chg lft cap thr pz tmp het cun vol bk), (fn_3 bk cin cou ein eou), (fn_4 mt res mca mre trr wfo wct bd), (fn_9 wo tim se cu pr cco chs rc lg), (rf_RW ct 0 kds 48 fkds), (fn_5 pr pcn sps kds fst scs), (rf_RW ct 0 scs 48 fscs), (fn_8 rc rlim rwid rnu told1_104 tsiz1_105), (rf_RW ct 0 rnu 150 b1_140)]) hP hD rfl
      refine lv_iload hx hb dX1_makeRecord_172 (lv_at hl 3 rfl) ?_
      refine lv_if_eq (tgt := 194) hx hb dX1_makeRecord_174 (by decide) (fun _ => ?_) (fun hc => absurd (by decide) hc)
      refine lv_aload_n hx hb dX1_makeRecord_194 rfl (lv_at hl 6 rfl) ?_
      obtain ⟨hP, hD⟩ := ty_opPD (E1 := [(fn_4 mt res mca mre trr wfo wct bd), (fn_9 wo tim se cu pr cco chs rc lg), (rf_RW ct 0 kds 48 fkds), (fn_5 pr pcn sps kds fst scs), (rf_RW ct 0 scs 48 fscs), (fn_8 rc rlim rwid rnu told1_104 tsiz1_105), (rf_RW ct 0 rnu 150 b1_140)]) (E2 := [(fn_1 ch idx cl mt sta prg stp las tb qu wai bin bou hel sbo), (fn_0 cl cur pts nom ohm pol tau chg lft cap thr pz tmp het cun vol bk), (fn_3 bk cin cou ein eou)]) (n := 10) [3, 4, 5, 6, 7, 8, 9, 0, 1, 2] hP hD rfl rfl (by decide +kernel) ty_mv2
      refine ty_Kv hP hD hS hA (va_runV (As := []) (rest := []) ⟨hx, hb, hml, hown, hts⟩ (r_X1_countFromHere l D ct (fun _ => none) [] (fun _ => True) (fun _ _ _ => True) ch idx cl mt sta prg stp las tb qu wai bin bou hel sbo cur pts nom ohm pol tau chg lft cap thr pz tmp het cun vol bk cin cou ein eou _ ty_V0 ty_C0 ty_y10) (cm_V 0 hts kc_X1_countFromHere ki_RX1 kl_RX1_97 kv_X1_countFromHere kx_X1_countFromHere kd_X1_countFromHere ⟨Nat.le_of_ble_eq_true rfl, Nat.le_of_ble_eq_true rfl⟩) (ty_preE (ci := 1) hP hK hD hS hA hX rfl (ty_app (j := 0) rfl)) rfl rfl hl.1 rfl (lv_room (Nat.le_of_ble_eq_true rfl)) dX1_makeRecord_195 ⟨Nat.le_of_ble_eq_true rfl, Nat.le_of_ble_eq_true rfl⟩) (fun u H locs hw_144 hP hD hS => ?_)
      obtain ⟨ws_145, rfl⟩ : ∃ z, z = u := ⟨_, rfl⟩
      have hT9_146 := hw_144
      obtain ⟨hP, hD⟩ := ty_bkPD (E := [(fn_4 mt res mca mre trr wfo wct bd), (fn_9 wo tim se cu pr cco chs rc lg), (rf_RW ct 0 kds 48 fkds), (fn_5 pr pcn sps kds fst scs), (rf_RW ct 0 scs 48 fscs), (fn_8 rc rlim rwid rnu told1_104 tsiz1_105), (rf_RW ct 0 rnu 150 b1_140), (fn_1 ch idx cl mt sta prg stp las tb qu wai cin cou (0) sbo), (fn_0 cl cur pts nom ohm pol tau chg lft cap thr pz tmp het cun vol bk), (fn_3 bk cin cou ein eou)]) hP hD rfl
      obtain ⟨hP, hD⟩ := ty_ordPD (E2 := [(fn_1 ch idx cl mt sta prg stp las tb qu wai cin cou (0) sbo), (fn_0 cl cur pts nom ohm pol tau chg lft cap thr pz tmp het cun vol bk), (fn_3 bk cin cou ein eou), (fn_4 mt res mca mre trr wfo wct bd), (fn_9 wo tim se cu pr cco chs rc lg), (fn_5 pr pcn sps kds fst scs), (rf_RW ct 0 kds 48 fkds), (rf_RW ct 0 scs 48 fscs), (fn_8 rc rlim rwid rnu told1_104 tsiz1_105), (rf_RW ct 0 rnu 150 b1_140)]) (n := 10) [7, 8, 9, 0, 1, 3, 2, 4, 5, 6] hP hD rfl rfl (by decide +kernel)
      exact W.vret hx hb hr (fun t ht hW => ⟨⟨(ws, cin, cou, (0 : Int32), mca, told1_104, tsiz1_105, b1_140), rfl, ⟨hT, ⟨⟨r_1, hp_5, (Or.inr ⟨hc_6, (Or.inl ⟨hc_100, ⟨told1_104, tsiz1_105, hp_107, ⟨r_108, hp_112, ⟨b1_116, hp_118, ⟨b1_122, hp_124, ⟨b1_128, hp_130, ⟨b1_134, hp_136, ⟨b1_140, hp_142, ⟨rfl, rfl, rfl, rfl, rfl, rfl, rfl⟩⟩⟩⟩⟩⟩⟩⟩⟩)⟩)⟩, (fun h9 => (show vp_nar .boolean (0 : Int32) = 0 from by decide))⟩⟩, by rw [ht]; exact hP, by rw [hAe]; exact hD⟩, hS.F ht⟩) hS.2.2 dX1_makeRecord_198
    · refine lv_iload_n hx hb dX1_makeRecord_46 rfl (lv_at hl 0 rfl) ?_
      refine lv_if_eq (tgt := 54) hx hb dX1_makeRecord_47 (by decide) (fun hc => absurd hc (by decide)) (fun _ => ?_)
      refine lv_iconst (v := 1) hx hb dX1_makeRecord_50 (by decide) ?_
      refine lv_goto (tgt := 55) hx hb dX1_makeRecord_51 (by decide) ?_
      refine lv_istore (lv' := [(4, .int 1), (3, .int 1), (2, .ref bk), (0, .ref ch), (1, .ref wo)]) hx hb dX1_makeRecord_55 hl (by decide) rfl (fun ls hl => ?_)
      refine lv_aload_n hx hb dX1_makeRecord_57 rfl (lv_at hl 4 rfl) ?_
      refine va_getN (v := .ref rc) (D := D) (ci := 9) (C := RX9) (T := TX9) (N := 8) hx hb hts in_X9 hown hK hP 4 rfl rfl 6 (by decide) (hts _ kl_RX1_240) (fun _ h9 => h9) rfl dX1_makeRecord_58 ?_
      refine lv_astore (lv' := [(5, .ref rc), (4, .int 1), (3, .int 1), (2, .ref bk), (0, .ref ch), (1, .ref wo)]) hx hb dX1_makeRecord_61 hl (by decide) rfl (fun ls hl => ?_)
      refine lv_aload hx hb dX1_makeRecord_63 (lv_at hl 0 rfl) ?_
      obtain ⟨hP, hD⟩ := ty_opPD (E1 := [(fn_1 ch idx cl mt sta prg stp las tb qu wai bin bou hel sbo), (fn_0 cl cur pts nom ohm pol tau chg lft cap thr pz tmp het cun vol bk), (fn_3 bk cin cou ein eou), (fn_4 mt res mca mre trr wfo wct bd), (fn_9 wo tim se cu pr cco chs rc lg), (rf_RW ct 0 kds 48 fkds), (rf_RW ct 0 rnu 150 frn), (fn_5 pr pcn sps kds fst scs), (rf_RW ct 0 scs 48 fscs)]) (E2 := [(fn_8 rc rlim rwid rnu rold rsiz)]) (n := 10) [0, 1, 2, 3, 4, 5, 7, 8, 9, 6] hP hD rfl rfl (by decide +kernel) ty_mv2
      refine ty_Kv hP hD hS hA (va_runVN (As := []) (rest := []) ⟨hx, hb, hml, hown, hts⟩ (r_X8_addRow l D ct (fun _ => none) [] (fun _ => True) (fun _ _ _ => True) rc rlim rwid rnu rold rsiz _ ty_V0 ty_C0 ty_y10) (cm_VN 0 hts kc_X8_addRow ki_RX8 kl_RX1_244 kv_X8_addRow kx_X8_addRow kd_X8_addRow ⟨Nat.le_of_ble_eq_true rfl, Nat.le_of_ble_eq_true rfl⟩) (ty_preE (ci := 8) hP hK hD hS hA hX rfl (ty_app (j := 0) rfl)) rfl rfl hl.1 rfl (lv_room (Nat.le_of_ble_eq_true rfl)) dX1_makeRecord_65 ⟨Nat.le_of_ble_eq_true rfl, Nat.le_of_ble_eq_true rfl⟩) (fun u H locs hw_148 hP hD hS => ?_)
      obtain ⟨ws_149, told1_150, tsiz1_151⟩ := u
      obtain ⟨hT9_152, hp_153⟩ := hw_148
      have hp_153 : (a_X8_addRow rlim rold rsiz told1_150 tsiz1_151) := hp_153
      obtain ⟨hP, hD⟩ := ty_bkPD (E := [(fn_1 ch idx cl mt sta prg stp las tb qu wai bin bou hel sbo), (fn_0 cl cur pts nom ohm pol tau chg lft cap thr pz tmp het cun vol bk), (fn_3 bk cin cou ein eou), (fn_4 mt res mca mre trr wfo wct bd), (fn_9 wo tim se cu pr cco chs rc lg), (rf_RW ct 0 kds 48 fkds), (rf_RW ct 0 rnu 150 frn), (fn_5 pr pcn sps kds fst scs), (rf_RW ct 0 scs 48 fscs), (fn_8 rc rlim rwid rnu told1_150 tsiz1_151)]) hP hD rfl
      refine lv_aload hx hb dX1_makeRecord_68 (lv_at hl 0 rfl) ?_
      refine va_getN (v := .ref rnu) (D := D) (ci := 8) (C := RX8) (T := TX8) (N := 5) hx hb hts in_X8 hown hK hP 9 rfl rfl 2 (by decide) (hts _ kl_RX1_249) (fun _ h9 => h9) rfl dX1_makeRecord_70 ?_
      refine lv_astore (lv' := [(6, .ref rnu), (5, .ref rc), (4, .int 1), (3, .int 1), (2, .ref bk), (0, .ref ch), (1, .ref wo)]) hx hb dX1_makeRecord_73 hl (by decide) rfl (fun ls hl => ?_)
      refine lv_aload hx hb dX1_makeRecord_75 (lv_at hl 1 rfl) ?_
      refine lv_aload hx hb dX1_makeRecord_77 (lv_at hl 1 rfl) ?_
      refine va_getN (v := .int tsiz1_151) (D := D) (ci := 8) (C := RX8) (T := TX8) (N := 5) hx hb hts in_X8 hown hK hP 9 rfl rfl 4 (by decide) (hts _ kl_RX1_252) (fun _ h9 => h9) rfl dX1_makeRecord_79 ?_
      refine lv_iconst (v := 1) hx hb dX1_makeRecord_82 (by decide) ?_
      refine lv_isub hx hb dX1_makeRecord_83 ?_
      obtain ⟨hP, hD⟩ := ty_ipPD (E1 := [(fn_1 ch idx cl mt sta prg stp las tb qu wai bin bou hel sbo), (fn_0 cl cur pts nom ohm pol tau chg lft cap thr pz tmp het cun vol bk), (fn_3 bk cin cou ein eou), (fn_4 mt res mca mre trr wfo wct bd), (fn_9 wo tim se cu pr cco chs rc lg), (rf_RW ct 0 kds 48 fkds), (rf_RW ct 0 rnu 150 frn), (fn_5 pr pcn sps kds fst scs), (rf_RW ct 0 scs 48 fscs)]) (E2 := [(fn_8 rc rlim rwid rnu told1_150 tsiz1_151)]) hP hD rfl ty_mv2
      refine ty_Ki hP hD hS hA (va_runVN (As := [.int (tsiz1_151 - 1)]) (rest := []) ⟨hx, hb, hml, hown, hts⟩ (r_X8_placeOf l D ct (fun _ => none) [] (fun _ => True) (fun _ _ _ => True) rc rlim rwid rnu told1_150 tsiz1_151 (tsiz1_151 - 1) _ ty_V0 ty_C0 ty_y10) (cm_VN 1 hts kc_X8_placeOf ki_RX8 kl_RX1_255 kv_X8_placeOf kx_X8_placeOf kd_X8_placeOf ⟨Nat.le_of_ble_eq_true rfl, Nat.le_of_ble_eq_true rfl⟩) (ty_preE (ci := 8) hP hK hD hS hA hX rfl (ty_app (j := 0) rfl)) rfl rfl hl.1 rfl (lv_room (Nat.le_of_ble_eq_true rfl)) dX1_makeRecord_84 ⟨Nat.le_of_ble_eq_true rfl, Nat.le_of_ble_eq_true rfl⟩) (fun r_154 u H locs hw_155 hP hD hS => ?_)
      obtain ⟨ws_156, rfl⟩ : ∃ z, z = u := ⟨_, rfl⟩
      obtain ⟨hT9_157, hp_158⟩ := hw_155
      have hp_158 : (a_X8_placeOf rlim rwid told1_150 (tsiz1_151 - 1) r_154) := hp_158
      obtain ⟨hP, hD⟩ := ty_bkPD (E := [(fn_1 ch idx cl mt sta prg stp las tb qu wai bin bou hel sbo), (fn_0 cl cur pts nom ohm pol tau chg lft cap thr pz tmp het cun vol bk), (fn_3 bk cin cou ein eou), (fn_4 mt res mca mre trr wfo wct bd), (fn_9 wo tim se cu pr cco chs rc lg), (rf_RW ct 0 kds 48 fkds), (rf_RW ct 0 rnu 150 frn), (fn_5 pr pcn sps kds fst scs), (rf_RW ct 0 scs 48 fscs), (fn_8 rc rlim rwid rnu told1_150 tsiz1_151)]) hP hD rfl
      refine lv_istore (lv' := [(7, .int r_154), (6, .ref rnu), (5, .ref rc), (4, .int 1), (3, .int 1), (2, .ref bk), (0, .ref ch), (1, .ref wo)]) hx hb dX1_makeRecord_87 hl (by decide) rfl (fun ls hl => ?_)
      refine lv_aload hx hb dX1_makeRecord_89 (lv_at hl 1 rfl) ?_
      refine lv_iload hx hb dX1_makeRecord_91 (lv_at hl 0 rfl) ?_
      refine lv_iconst (v := 0) hx hb dX1_makeRecord_93 (by decide) ?_
      refine lv_iadd hx hb dX1_makeRecord_94 ?_
      refine lv_aload_n hx hb dX1_makeRecord_95 rfl (lv_at hl 6 rfl) ?_
      refine va_get (v := .int idx) (D := D) (ci := 1) (C := RX1) (T := TX1) (N := 14) hx hb hts in_X1 hown hK hP 0 rfl rfl 0 (by decide) (hts _ kl_RX1_9) (fun _ h9 => h9) rfl dX1_makeRecord_96 ?_
      obtain ⟨hP, hD⟩ := ty_opPD (E1 := [(fn_1 ch idx cl mt sta prg stp las tb qu wai bin bou hel sbo), (fn_0 cl cur pts nom ohm pol tau chg lft cap thr pz tmp het cun vol bk), (fn_3 bk cin cou ein eou), (fn_4 mt res mca mre trr wfo wct bd), (fn_9 wo tim se cu pr cco chs rc lg), (rf_RW ct 0 kds 48 fkds), (fn_5 pr pcn sps kds fst scs), (rf_RW ct 0 scs 48 fscs), (fn_8 rc rlim rwid rnu told1_150 tsiz1_151)]) (E2 := [(rf_RW ct 0 rnu 150 frn)]) (n := 10) [0, 1, 2, 3, 4, 5, 7, 8, 9, 6] hP hD rfl rfl (by decide +kernel) ty_mv2
      refine ty_Kv hP hD hS hA (va_runSN (As := [.ref rnu, .int (r_154 + 0), .int idx]) (rest := []) ⟨hx, hb, hml, hown, hts⟩ (r_X10_put_150 l D ct (fun _ => none) [] (fun _ => True) (fun _ _ _ => True) rnu frn (r_154 + 0) idx _ ty_V0 ty_C0 ty_y10) (cm_SN 3 hts kc_X10_put ki_RX10 kl_RX1_126 ks_X10_put kd_X10_put ⟨Nat.le_of_ble_eq_true rfl, Nat.le_of_ble_eq_true rfl⟩) (ty_preS hP hK hD hS hA hX) rfl rfl hl.1 rfl (lv_room (Nat.le_of_ble_eq_true rfl)) dX1_makeRecord_99 ⟨Nat.le_of_ble_eq_true rfl, Nat.le_of_ble_eq_true rfl⟩) (fun u H locs hw_160 hP hD hS => ?_)
      obtain ⟨ws_161, b1_162⟩ := u
      obtain ⟨hT9_163, hp_164⟩ := hw_160
      have hp_164 : (a_X10_put_150 frn (r_154 + 0) idx b1_162) := hp_164
      obtain ⟨hP, hD⟩ := ty_bkPD (E := [(fn_1 ch idx cl mt sta prg stp las tb qu wai bin bou hel sbo), (fn_0 cl cur pts nom ohm pol tau chg lft cap thr pz tmp het cun vol bk), (fn_3 bk cin cou ein eou), (fn_4 mt res mca mre trr wfo wct bd), (fn_9 wo tim se cu pr cco chs rc lg), (rf_RW ct 0 kds 48 fkds), (fn_5 pr pcn sps kds fst scs), (rf_RW ct 0 scs 48 fscs), (fn_8 rc rlim rwid rnu told1_150 tsiz1_151), (rf_RW ct 0 rnu 150 b1_162)]) hP hD rfl
      refine lv_aload hx hb dX1_makeRecord_102 (lv_at hl 1 rfl) ?_
      refine lv_iload hx hb dX1_makeRecord_104 (lv_at hl 0 rfl) ?_
      refine lv_iconst (v := 1) hx hb dX1_makeRecord_106 (by decide) ?_
      refine lv_iadd hx hb dX1_makeRecord_107 ?_
      refine lv_aload_n hx hb dX1_makeRecord_108 rfl (lv_at hl 5 rfl) ?_
      refine va_getN (v := .long cin) (D := D) (ci := 3) (C := RX3) (T := TX3) (N := 4) hx hb hts in_X3 hown hK hP 2 rfl rfl 0 (by decide) (hts _ kl_RX1_114) (fun _ h9 => h9) rfl dX1_makeRecord_109 ?_
      refine lv_aload_n hx hb dX1_makeRecord_112 rfl (lv_at hl 6 rfl) ?_
      refine va_get (v := .long bin) (D := D) (ci := 1) (C := RX1) (T := TX1) (N := 14) hx hb hts in_X1 hown hK hP 0 rfl rfl 10 (by decide) (hts _ kl_RX1_62) (fun _ h9 => h9) rfl dX1_makeRecord_113 ?_
      refine lv_lsub hx hb dX1_makeRecord_116 ?_
      refine lv_l2i hx hb dX1_makeRecord_117 rfl ?_
      obtain ⟨hP, hD⟩ := ty_ipPD (E1 := [(fn_1 ch idx cl mt sta prg stp las tb qu wai bin bou hel sbo), (fn_0 cl cur pts nom ohm pol tau chg lft cap thr pz tmp het cun vol bk), (fn_3 bk cin cou ein eou), (fn_4 mt res mca mre trr wfo wct bd), (fn_9 wo tim se cu pr cco chs rc lg), (rf_RW ct 0 kds 48 fkds), (fn_5 pr pcn sps kds fst scs), (rf_RW ct 0 scs 48 fscs), (fn_8 rc rlim rwid rnu told1_150 tsiz1_151)]) (E2 := [(rf_RW ct 0 rnu 150 b1_162)]) hP hD rfl ty_mv2
      refine ty_Kv hP hD hS hA (va_runSN (As := [.ref rnu, .int (r_154 + 1), .int ((cin - bin).toInt32)]) (rest := []) ⟨hx, hb, hml, hown, hts⟩ (r_X10_put_150 l D ct (fun _ => none) [] (fun _ => True) (fun _ _ _ => True) rnu b1_162 (r_154 + 1) ((cin - bin).toInt32) _ ty_V0 ty_C0 ty_y10) (cm_SN 3 hts kc_X10_put ki_RX10 kl_RX1_126 ks_X10_put kd_X10_put ⟨Nat.le_of_ble_eq_true rfl, Nat.le_of_ble_eq_true rfl⟩) (ty_preS hP hK hD hS hA hX) rfl rfl hl.1 rfl (lv_room (Nat.le_of_ble_eq_true rfl)) dX1_makeRecord_118 ⟨Nat.le_of_ble_eq_true rfl, Nat.le_of_ble_eq_true rfl⟩) (fun u H locs hw_166 hP hD hS => ?_)
      obtain ⟨ws_167, b1_168⟩ := u
      obtain ⟨hT9_169, hp_170⟩ := hw_166
      have hp_170 : (a_X10_put_150 b1_162 (r_154 + 1) ((cin - bin).toInt32) b1_168) := hp_170
      obtain ⟨hP, hD⟩ := ty_bkPD (E := [(fn_1 ch idx cl mt sta prg stp las tb qu wai bin bou hel sbo), (fn_0 cl cur pts nom ohm pol tau chg lft cap thr pz tmp het cun vol bk), (fn_3 bk cin cou ein eou), (fn_4 mt res mca mre trr wfo wct bd), (fn_9 wo tim se cu pr cco chs rc lg), (rf_RW ct 0 kds 48 fkds), (fn_5 pr pcn sps kds fst scs), (rf_RW ct 0 scs 48 fscs), (fn_8 rc rlim rwid rnu told1_150 tsiz1_151), (rf_RW ct 0 rnu 150 b1_168)]) hP hD rfl
      refine lv_aload hx hb dX1_makeRecord_121 (lv_at hl 1 rfl) ?_
      refine lv_iload hx hb dX1_makeRecord_123 (lv_at hl 0 rfl) ?_
      refine lv_iconst (v := 2) hx hb dX1_makeRecord_125 (by decide) ?_
      refine lv_iadd hx hb dX1_makeRecord_126 ?_
      refine lv_aload_n hx hb dX1_makeRecord_127 rfl (lv_at hl 5 rfl) ?_
      refine va_getN (v := .long cou) (D := D) (ci := 3) (C := RX3) (T := TX3) (N := 4) hx hb hts in_X3 hown hK hP 2 rfl rfl 1 (by decide) (hts _ kl_RX1_119) (fun _ h9 => h9) rfl dX1_makeRecord_128 ?_
      refine lv_aload_n hx hb dX1_makeRecord_131 rfl (lv_at hl 6 rfl) ?_
      refine va_get (v := .long bou) (D := D) (ci := 1) (C := RX1) (T := TX1) (N := 14) hx hb hts in_X1 hown hK hP 0 rfl rfl 11 (by decide) (hts _ kl_RX1_66) (fun _ h9 => h9) rfl dX1_makeRecord_132 ?_
      refine lv_lsub hx hb dX1_makeRecord_135 ?_
      refine lv_l2i hx hb dX1_makeRecord_136 rfl ?_
      obtain ⟨hP, hD⟩ := ty_ipPD (E1 := [(fn_1 ch idx cl mt sta prg stp las tb qu wai bin bou hel sbo), (fn_0 cl cur pts nom ohm pol tau chg lft cap thr pz tmp het cun vol bk), (fn_3 bk cin cou ein eou), (fn_4 mt res mca mre trr wfo wct bd), (fn_9 wo tim se cu pr cco chs rc lg), (rf_RW ct 0 kds 48 fkds), (fn_5 pr pcn sps kds fst scs), (rf_RW ct 0 scs 48 fscs), (fn_8 rc rlim rwid rnu told1_150 tsiz1_151)]) (E2 := [(rf_RW ct 0 rnu 150 b1_168)]) hP hD rfl ty_mv2
      refine ty_Kv hP hD hS hA (va_runSN (As := [.ref rnu, .int (r_154 + 2), .int ((cou - bou).toInt32)]) (rest := []) ⟨hx, hb, hml, hown, hts⟩ (r_X10_put_150 l D ct (fun _ => none) [] (fun _ => True) (fun _ _ _ => True) rnu b1_168 (r_154 + 2) ((cou - bou).toInt32) _ ty_V0 ty_C0 ty_y10) (cm_SN 3 hts kc_X10_put ki_RX10 kl_RX1_126 ks_X10_put kd_X10_put ⟨Nat.le_of_ble_eq_true rfl, Nat.le_of_ble_eq_true rfl⟩) (ty_preS hP hK hD hS hA hX) rfl rfl hl.1 rfl (lv_room (Nat.le_of_ble_eq_true rfl)) dX1_makeRecord_137 ⟨Nat.le_of_ble_eq_true rfl, Nat.le_of_ble_eq_true rfl⟩) (fun u H locs hw_172 hP hD hS => ?_)
      obtain ⟨ws_173, b1_174⟩ := u
      obtain ⟨hT9_175, hp_176⟩ := hw_172
      have hp_176 : (a_X10_put_150 b1_168 (r_154 + 2) ((cou - bou).toInt32) b1_174) := hp_176
      obtain ⟨hP, hD⟩ := ty_bkPD (E := [(fn_1 ch idx cl mt sta prg stp las tb qu wai bin bou hel sbo), (fn_0 cl cur pts nom ohm pol tau chg lft cap thr pz tmp het cun vol bk), (fn_3 bk cin cou ein eou), (fn_4 mt res mca mre trr wfo wct bd), (fn_9 wo tim se cu pr cco chs rc lg), (rf_RW ct 0 kds 48 fkds), (fn_5 pr pcn sps kds fst scs), (rf_RW ct 0 scs 48 fscs), (fn_8 rc rlim rwid rnu told1_150 tsiz1_151), (rf_RW ct 0 rnu 150 b1_174)]) hP hD rfl
      refine lv_aload hx hb dX1_makeRecord_140 (lv_at hl 1 rfl) ?_
      refine lv_iload hx hb dX1_makeRecord_142 (lv_at hl 0 rfl) ?_
      refine lv_iconst (v := 3) hx hb dX1_makeRecord_144 (by decide) ?_
      refine lv_iadd hx hb dX1_makeRecord_145 ?_
      refine lv_aload_n hx hb dX1_makeRecord_146 rfl (lv_at hl 7 rfl) ?_
      refine va_getN (v := .int tim) (D := D) (ci := 9) (C := RX9) (T := TX9) (N := 8) hx hb hts in_X9 hown hK hP 4 rfl rfl 0 (by decide) (hts _ kl_RX1_258) (fun _ h9 => h9) rfl dX1_makeRecord_147 ?_
      obtain ⟨hP, hD⟩ := ty_ipPD (E1 := [(fn_1 ch idx cl mt sta prg stp las tb qu wai bin bou hel sbo), (fn_0 cl cur pts nom ohm pol tau chg lft cap thr pz tmp het cun vol bk), (fn_3 bk cin cou ein eou), (fn_4 mt res mca mre trr wfo wct bd), (fn_9 wo tim se cu pr cco chs rc lg), (rf_RW ct 0 kds 48 fkds), (fn_5 pr pcn sps kds fst scs), (rf_RW ct 0 scs 48 fscs), (fn_8 rc rlim rwid rnu told1_150 tsiz1_151)]) (E2 := [(rf_RW ct 0 rnu 150 b1_174)]) hP hD rfl ty_mv2
      refine ty_Kv hP hD hS hA (va_runSN (As := [.ref rnu, .int (r_154 + 3), .int tim]) (rest := []) ⟨hx, hb, hml, hown, hts⟩ (r_X10_put_150 l D ct (fun _ => none) [] (fun _ => True) (fun _ _ _ => True) rnu b1_174 (r_154 + 3) tim _ ty_V0 ty_C0 ty_y10) (cm_SN 3 hts kc_X10_put ki_RX10 kl_RX1_126 ks_X10_put kd_X10_put ⟨Nat.le_of_ble_eq_true rfl, Nat.le_of_ble_eq_true rfl⟩) (ty_preS hP hK hD hS hA hX) rfl rfl hl.1 rfl (lv_room (Nat.le_of_ble_eq_true rfl)) dX1_makeRecord_150 ⟨Nat.le_of_ble_eq_true rfl, Nat.le_of_ble_eq_true rfl⟩) (fun u H locs hw_178 hP hD hS => ?_)
      obtain ⟨ws_179, b1_180⟩ := u
      obtain ⟨hT9_181, hp_182⟩ := hw_178
      have hp_182 : (a_X10_put_150 b1_174 (r_154 + 3) tim b1_180) := hp_182
      obtain ⟨hP, hD⟩ := ty_bkPD (E := [(fn_1 ch idx cl mt sta prg stp las tb qu wai bin bou hel sbo), (fn_0 cl cur pts nom ohm pol tau chg lft cap thr pz tmp het cun vol bk), (fn_3 bk cin cou ein eou), (fn_4 mt res mca mre trr wfo wct bd), (fn_9 wo tim se cu pr cco chs rc lg), (rf_RW ct 0 kds 48 fkds), (fn_5 pr pcn sps kds fst scs), (rf_RW ct 0 scs 48 fscs), (fn_8 rc rlim rwid rnu told1_150 tsiz1_151), (rf_RW ct 0 rnu 150 b1_180)]) hP hD rfl
      refine lv_aload hx hb dX1_makeRecord_153 (lv_at hl 1 rfl) ?_
      refine lv_iload hx hb dX1_makeRecord_155 (lv_at hl 0 rfl) ?_
      refine lv_iconst (v := 4) hx hb dX1_makeRecord_157 (by decide) ?_
      refine lv_iadd hx hb dX1_makeRecord_158 ?_
      refine lv_iload hx hb dX1_makeRecord_159 (lv_at hl 3 rfl) ?_
      refine lv_if_eq (tgt := 168) hx hb dX1_makeRecord_161 (by decide) (fun hc => absurd hc (by decide)) (fun _ => ?_)
      refine lv_iconst (v := 1) hx hb dX1_makeRecord_164 (by decide) ?_
      refine lv_goto (tgt := 169) hx hb dX1_makeRecord_165 (by decide) ?_
      obtain ⟨hP, hD⟩ := ty_ipPD (E1 := [(fn_1 ch idx cl mt sta prg stp las tb qu wai bin bou hel sbo), (fn_0 cl cur pts nom ohm pol tau chg lft cap thr pz tmp het cun vol bk), (fn_3 bk cin cou ein eou), (fn_4 mt res mca mre trr wfo wct bd), (fn_9 wo tim se cu pr cco chs rc lg), (rf_RW ct 0 kds 48 fkds), (fn_5 pr pcn sps kds fst scs), (rf_RW ct 0 scs 48 fscs), (fn_8 rc rlim rwid rnu told1_150 tsiz1_151)]) (E2 := [(rf_RW ct 0 rnu 150 b1_180)]) hP hD rfl ty_mv2
      refine ty_Kv hP hD hS hA (va_runSN (As := [.ref rnu, .int (r_154 + 4), .int 1]) (rest := []) ⟨hx, hb, hml, hown, hts⟩ (r_X10_put_150 l D ct (fun _ => none) [] (fun _ => True) (fun _ _ _ => True) rnu b1_180 (r_154 + 4) (1 : Int32) _ ty_V0 ty_C0 ty_y10) (cm_SN 3 hts kc_X10_put ki_RX10 kl_RX1_126 ks_X10_put kd_X10_put ⟨Nat.le_of_ble_eq_true rfl, Nat.le_of_ble_eq_true rfl⟩) (ty_preS hP hK hD hS hA hX) rfl rfl hl.1 rfl (lv_room (Nat.le_of_ble_eq_true rfl)) dX1_makeRecord_169 ⟨Nat.le_of_ble_eq_true rfl, Nat.le_of_ble_eq_true rfl⟩) (fun u H locs hw_184 hP hD hS => ?_)
      obtain ⟨ws_185, b1_186⟩ := u
      obtain ⟨hT9_187, hp_188⟩ := hw_184
      have hp_188 : (a_X10_put_150 b1_180 (r_154 + 4) (1 : Int32) b1_186) := hp_188
      obtain ⟨hP, hD⟩ := ty_bkPD (E := [(fn_1 ch idx cl mt sta prg stp las tb qu wai bin bou hel sbo), (fn_0 cl cur pts nom ohm pol tau chg lft cap thr pz tmp het cun vol bk), (fn_3 bk cin cou ein eou), (fn_4 mt res mca mre trr wfo wct bd), (fn_9 wo tim se cu pr cco chs rc lg), (rf_RW ct 0 kds 48 fkds), (fn_5 pr pcn sps kds fst scs), (rf_RW ct 0 scs 48 fscs), (fn_8 rc rlim rwid rnu told1_150 tsiz1_151), (rf_RW ct 0 rnu 150 b1_186)]) hP hD rfl
      refine lv_iload hx hb dX1_makeRecord_172 (lv_at hl 3 rfl) ?_
      refine lv_if_eq (tgt := 194) hx hb dX1_makeRecord_174 (by decide) (fun hc => absurd hc (by decide)) (fun _ => ?_)
      refine lv_aload_n hx hb dX1_makeRecord_177 rfl (lv_at hl 6 rfl) ?_
      refine va_get (v := .ref mt) (D := D) (ci := 1) (C := RX1) (T := TX1) (N := 14) hx hb hts in_X1 hown hK hP 0 rfl rfl 2 (by decide) (hts _ kl_RX1_25) (fun _ h9 => h9) rfl dX1_makeRecord_178 ?_
      refine lv_aload_n hx hb dX1_makeRecord_181 rfl (lv_at hl 5 rfl) ?_
      refine va_getN (v := .long cou) (D := D) (ci := 3) (C := RX3) (T := TX3) (N := 4) hx hb hts in_X3 hown hK hP 2 rfl rfl 1 (by decide) (hts _ kl_RX1_119) (fun _ h9 => h9) rfl dX1_makeRecord_182 ?_
      refine lv_aload_n hx hb dX1_makeRecord_185 rfl (lv_at hl 6 rfl) ?_
      refine va_get (v := .long sbo) (D := D) (ci := 1) (C := RX1) (T := TX1) (N := 14) hx hb hts in_X1 hown hK hP 0 rfl rfl 13 (by decide) (hts _ kl_RX1_73) (fun _ h9 => h9) rfl dX1_makeRecord_186 ?_
      refine lv_lsub hx hb dX1_makeRecord_189 ?_
      refine lv_l2i hx hb dX1_makeRecord_190 rfl ?_
      refine va_putN (v := .int ((cou - sbo).toInt32)) (ty := .int) (D := D) (ci := 4) (C := RX4) (T := TX4) (N := 7) hx hb hts in_X4 tyX4 tyX4_ok nmX4 hown hK hP hD hS 3 rfl rfl 1 (by decide) (hts _ kl_RX1_261) (fun _ h9 => h9) rfl (by decide +kernel) rfl rfl (Nat.le_of_ble_eq_true rfl) dX1_makeRecord_191 (fun H locs hP hD hS => ?_)
      have hP : va_P D vwCl ([(fn_1 ch idx cl mt sta prg stp las tb qu wai bin bou hel sbo), (fn_0 cl cur pts nom ohm pol tau chg lft cap thr pz tmp het cun vol bk), (fn_3 bk cin cou ein eou), (fn_4 mt res ((cou - sbo).toInt32) mre trr wfo wct bd), (fn_9 wo tim se cu pr cco chs rc lg), (rf_RW ct 0 kds 48 fkds), (fn_5 pr pcn sps kds fst scs), (rf_RW ct 0 scs 48 fscs), (fn_8 rc rlim rwid rnu told1_150 tsiz1_151), (rf_RW ct 0 rnu 150 b1_186)] ++ ws) H := hP
      have hD : va_D A ([(fn_1 ch idx cl mt sta prg stp las tb qu wai bin bou hel sbo), (fn_0 cl cur pts nom ohm pol tau chg lft cap thr pz tmp het cun vol bk), (fn_3 bk cin cou ein eou), (fn_4 mt res ((cou - sbo).toInt32) mre trr wfo wct bd), (fn_9 wo tim se cu pr cco chs rc lg), (rf_RW ct 0 kds 48 fkds), (fn_5 pr pcn sps kds fst scs), (rf_RW ct 0 scs 48 fscs), (fn_8 rc rlim rwid rnu told1_150 tsiz1_151), (rf_RW ct 0 rnu 150 b1_186)] ++ ws) := hD
      refine lv_aload_n hx hb dX1_makeRecord_194 rfl (lv_at hl 6 rfl) ?_
      obtain ⟨hP, hD⟩ := ty_opPD (E1 := [(fn_4 mt res ((cou - sbo).toInt32) mre trr wfo wct bd), (fn_9 wo tim se cu pr cco chs rc lg), (rf_RW ct 0 kds 48 fkds), (fn_5 pr pcn sps kds fst scs), (rf_RW ct 0 scs 48 fscs), (fn_8 rc rlim rwid rnu told1_150 tsiz1_151), (rf_RW ct 0 rnu 150 b1_186)]) (E2 := [(fn_1 ch idx cl mt sta prg stp las tb qu wai bin bou hel sbo), (fn_0 cl cur pts nom ohm pol tau chg lft cap thr pz tmp het cun vol bk), (fn_3 bk cin cou ein eou)]) (n := 10) [3, 4, 5, 6, 7, 8, 9, 0, 1, 2] hP hD rfl rfl (by decide +kernel) ty_mv2
      refine ty_Kv hP hD hS hA (va_runV (As := []) (rest := []) ⟨hx, hb, hml, hown, hts⟩ (r_X1_countFromHere l D ct (fun _ => none) [] (fun _ => True) (fun _ _ _ => True) ch idx cl mt sta prg stp las tb qu wai bin bou hel sbo cur pts nom ohm pol tau chg lft cap thr pz tmp het cun vol bk cin cou ein eou _ ty_V0 ty_C0 ty_y10) (cm_V 0 hts kc_X1_countFromHere ki_RX1 kl_RX1_97 kv_X1_countFromHere kx_X1_countFromHere kd_X1_countFromHere ⟨Nat.le_of_ble_eq_true rfl, Nat.le_of_ble_eq_true rfl⟩) (ty_preE (ci := 1) hP hK hD hS hA hX rfl (ty_app (j := 0) rfl)) rfl rfl hl.1 rfl (lv_room (Nat.le_of_ble_eq_true rfl)) dX1_makeRecord_195 ⟨Nat.le_of_ble_eq_true rfl, Nat.le_of_ble_eq_true rfl⟩) (fun u H locs hw_190 hP hD hS => ?_)
      obtain ⟨ws_191, rfl⟩ : ∃ z, z = u := ⟨_, rfl⟩
      have hT9_192 := hw_190
      obtain ⟨hP, hD⟩ := ty_bkPD (E := [(fn_4 mt res ((cou - sbo).toInt32) mre trr wfo wct bd), (fn_9 wo tim se cu pr cco chs rc lg), (rf_RW ct 0 kds 48 fkds), (fn_5 pr pcn sps kds fst scs), (rf_RW ct 0 scs 48 fscs), (fn_8 rc rlim rwid rnu told1_150 tsiz1_151), (rf_RW ct 0 rnu 150 b1_186), (fn_1 ch idx cl mt sta prg stp las tb qu wai cin cou (0) sbo), (fn_0 cl cur pts nom ohm pol tau chg lft cap thr pz tmp het cun vol bk), (fn_3 bk cin cou ein eou)]) hP hD rfl
      obtain ⟨hP, hD⟩ := ty_ordPD (E2 := [(fn_1 ch idx cl mt sta prg stp las tb qu wai cin cou (0) sbo), (fn_0 cl cur pts nom ohm pol tau chg lft cap thr pz tmp het cun vol bk), (fn_3 bk cin cou ein eou), (fn_4 mt res ((cou - sbo).toInt32) mre trr wfo wct bd), (fn_9 wo tim se cu pr cco chs rc lg), (fn_5 pr pcn sps kds fst scs), (rf_RW ct 0 kds 48 fkds), (rf_RW ct 0 scs 48 fscs), (fn_8 rc rlim rwid rnu told1_150 tsiz1_151), (rf_RW ct 0 rnu 150 b1_186)]) (n := 10) [7, 8, 9, 0, 1, 3, 2, 4, 5, 6] hP hD rfl rfl (by decide +kernel)
      exact W.vret hx hb hr (fun t ht hW => ⟨⟨(ws, cin, cou, (0 : Int32), ((cou - sbo).toInt32), told1_150, tsiz1_151, b1_186), rfl, ⟨hT, ⟨⟨r_1, hp_5, (Or.inr ⟨hc_6, (Or.inr ⟨hc_100, ⟨told1_150, tsiz1_151, hp_153, ⟨r_154, hp_158, ⟨b1_162, hp_164, ⟨b1_168, hp_170, ⟨b1_174, hp_176, ⟨b1_180, hp_182, ⟨b1_186, hp_188, ⟨rfl, rfl, rfl, rfl, rfl, rfl, rfl⟩⟩⟩⟩⟩⟩⟩⟩⟩)⟩)⟩, (fun h9 => (show vp_nar .boolean (0 : Int32) = 0 from by decide))⟩⟩, by rw [ht]; exact hP, by rw [hAe]; exact hD⟩, hS.F ht⟩) hS.2.2 dX1_makeRecord_198
def a_X1_measureEnd (idx : Int32) (prg : Int32) (stp : Int32) (bin : Int64) (bou : Int64) (hel : Int32) (sbo : Int64) (vol : Int32) (cin : Int64) (cou : Int64) (res : Int32) (mca : Int32) (tim : Int32) (fkds : Nat → Int32) (fscs : Nat → Int32) (rlim : Int32) (rwid : Int32) (rold : Int32) (rsiz : Int32) (frn : Nat → Int32) (bin1 : Int64) (bou1 : Int64) (hel1 : Int32) (res1 : Int32) (mca1 : Int32) (rold1 : Int32) (rsiz1 : Int32) (frn1 : Nat → Int32) : Prop := (∃ (r_1 : Int32), (a_X5_kindOf fkds prg stp r_1) ∧ ((r_1 = (1 : Int32) ∧ (bin1 = bin ∧ bou1 = bou ∧ hel1 = 1 ∧ res1 = res ∧ mca1 = mca ∧ rold1 = rold ∧ rsiz1 = rsiz ∧ frn1 = frn)) ∨ (¬ r_1 = (1 : Int32) ∧ ((r_1 = (2 : Int32) ∧ (∃ (bin1_11 : Int64) (bou1_12 : Int64) (hel1_13 : Int32) (mca1_14 : Int32) (rold1_15 : Int32) (rsiz1_16 : Int32) (frn1_17 : Nat → Int32), (a_X1_makeRecord idx prg stp bin bou hel sbo vol cin cou mca tim fscs rlim rwid rold rsiz frn bin1_11 bou1_12 hel1_13 mca1_14 rold1_15 rsiz1_16 frn1_17) ∧ (bin1 = bin1_11 ∧ bou1 = bou1_12 ∧ hel1 = hel1_13 ∧ res1 = res ∧ mca1 = mca1_14 ∧ rold1 = rold1_15 ∧ rsiz1 = rsiz1_16 ∧ frn1 = frn1_17))) ∨ (¬ r_1 = (2 : Int32) ∧ ((r_1 = (3 : Int32) ∧ (bin1 = bin ∧ bou1 = bou ∧ hel1 = hel ∧ res1 = vol ∧ mca1 = mca ∧ rold1 = rold ∧ rsiz1 = rsiz ∧ frn1 = frn)) ∨ (¬ r_1 = (3 : Int32) ∧ (bin1 = bin ∧ bou1 = bou ∧ hel1 = hel ∧ res1 = res ∧ mca1 = mca ∧ rold1 = rold ∧ rsiz1 = rsiz ∧ frn1 = frn))))))))
set_option maxRecDepth 100000 in
set_option maxHeartbeats 4000000 in
theorem r_X1_measureEnd (l : Launch) (D : va_G) (ct : Nat → ClassId) (S : ty_S) (ws : va_W) (ph : va_W → Prop) (xx : Nat → Nat → Nat → Prop) (ch : Nat) (idx : Int32) (cl : Nat) (mt : Nat) (sta : Int32) (prg : Int32) (stp : Int32) (las : Int32) (tb : Nat) (qu : Nat) (wai : Int32) (bin : Int64) (bou : Int64) (hel : Int32) (sbo : Int64) (cur : Nat) (pts : Int32) (nom : Int32) (ohm : Int32) (pol : Int32) (tau : Int32) (chg : Int32) (lft : Int32) (cap : Int32) (thr : Int32) (pz : Int32) (tmp : Int32) (het : Int32) (cun : Int32) (vol : Int32) (bk : Nat) (cin : Int64) (cou : Int64) (ein : Int64) (eou : Int64) (res : Int32) (mca : Int32) (mre : Int32) (trr : Int32) (wfo : Int32) (wct : Int32) (bd : Nat) (wo : Nat) (tim : Int32) (se : Nat) (cu : Nat) (pr : Nat) (cco : Int32) (chs : Nat) (rc : Nat) (lg : Nat) (pcn : Int32) (sps : Nat) (kds : Nat) (fst : Nat) (scs : Nat) (fkds : Nat → Int32) (fscs : Nat → Int32) (rlim : Int32) (rwid : Int32) (rnu : Nat) (rold : Int32) (rsiz : Int32) (frn : Nat → Int32) (sz : Nat) (hT : ty_V ct S ph ws) (hph : ty_C ph xx) (hy1 : ty_y1 xx) : Met l yX1_measureEnd (ws_ yX1_measureEnd cX1_measureEnd 2 none) ({ frames := 3, cells := 0, slots := 0, locals := 70 } : Room) (va_Pc [.ref ch, .ref wo] (cmP D ct sz ([(fn_1 ch idx cl mt sta prg stp las tb qu wai bin bou hel sbo), (fn_0 cl cur pts nom ohm pol tau chg lft cap thr pz tmp het cun vol bk), (fn_3 bk cin cou ein eou), (fn_4 mt res mca mre trr wfo wct bd), (fn_9 wo tim se cu pr cco chs rc lg), (fn_5 pr pcn sps kds fst scs), (rf_RW ct 0 kds 48 fkds), (rf_RW ct 0 scs 48 fscs), (fn_8 rc rlim rwid rnu rold rsiz), (rf_RW ct 0 rnu 150 frn)] ++ ws))) (va_Qv (fun (u : va_W × Int64 × Int64 × Int32 × Int32 × Int32 × Int32 × Int32 × (Nat → Int32)) => match u with | (u9, bin1, bou1, hel1, res1, mca1, rold1, rsiz1, frn1) => ty_V ct S ph u9 ∧ (a_X1_measureEnd idx prg stp bin bou hel sbo vol cin cou res mca tim fkds fscs rlim rwid rold rsiz frn bin1 bou1 hel1 res1 mca1 rold1 rsiz1 frn1) ∧ (a_nb hel → a_nb hel1)) (cmB D ([(fn_1 ch idx cl mt sta prg stp las tb qu wai bin bou hel sbo), (fn_0 cl cur pts nom ohm pol tau chg lft cap thr pz tmp het cun vol bk), (fn_3 bk cin cou ein eou), (fn_4 mt res mca mre trr wfo wct bd), (fn_9 wo tim se cu pr cco chs rc lg), (fn_5 pr pcn sps kds fst scs), (rf_RW ct 0 kds 48 fkds), (rf_RW ct 0 scs 48 fscs), (fn_8 rc rlim rwid rnu rold rsiz), (rf_RW ct 0 rnu 150 frn)] ++ ws) sz (fun (u : va_W × Int64 × Int64 × Int32 × Int32 × Int32 × Int32 × Int32 × (Nat → Int32)) => match u with | (u9, bin1, bou1, hel1, res1, mca1, rold1, rsiz1, frn1) => ([(fn_1 ch idx cl mt sta prg stp las tb qu wai bin1 bou1 hel1 sbo), (fn_0 cl cur pts nom ohm pol tau chg lft cap thr pz tmp het cun vol bk), (fn_3 bk cin cou ein eou), (fn_4 mt res1 mca1 mre trr wfo wct bd), (fn_9 wo tim se cu pr cco chs rc lg), (fn_5 pr pcn sps kds fst scs), (rf_RW ct 0 kds 48 fkds), (rf_RW ct 0 scs 48 fscs), (fn_8 rc rlim rwid rnu rold1 rsiz1), (rf_RW ct 0 rnu 150 frn1)] ++ u9))) (va_A ([(fn_1 ch idx cl mt sta prg stp las tb qu wai bin bou hel sbo), (fn_0 cl cur pts nom ohm pol tau chg lft cap thr pz tmp het cun vol bk), (fn_3 bk cin cou ein eou), (fn_4 mt res mca mre trr wfo wct bd), (fn_9 wo tim se cu pr cco chs rc lg), (fn_5 pr pcn sps kds fst scs), (rf_RW ct 0 kds 48 fkds), (rf_RW ct 0 scs 48 fscs), (fn_8 rc rlim rwid rnu rold rsiz), (rf_RW ct 0 rnu 150 frn)] ++ ws) sz)) 0 0 (va_A ([(fn_1 ch idx cl mt sta prg stp las tb qu wai bin bou hel sbo), (fn_0 cl cur pts nom ohm pol tau chg lft cap thr pz tmp het cun vol bk), (fn_3 bk cin cou ein eou), (fn_4 mt res mca mre trr wfo wct bd), (fn_9 wo tim se cu pr cco chs rc lg), (fn_5 pr pcn sps kds fst scs), (rf_RW ct 0 kds 48 fkds), (rf_RW ct 0 scs 48 fscs), (fn_8 rc rlim rwid rnu rold rsiz), (rf_RW ct 0 rnu 150 frn)] ++ ws) sz) := by
  refine Met.ofW (cc := cX1_measureEnd) (maxL := 2) (ret := none) (by decide) rfl ?_
  intro p e s m args below meth c s₁ B hml hv
  obtain ⟨rfl, hsz, hP, hK, hD0, hX⟩ := hv
  have hx := B.exec
  have hb := B.bytes
  have hr := B.returns
  have hts := ws_all (atoms_spec (ws := ws_ yX1_measureEnd cX1_measureEnd 2 none) B.pre)
  have hown : s.vm.findClass RX1 = some m.cls := findClass_of_methodNamed B.named
  have hlocks := B.notSynchronized
  subst hsz
  have hD := hD0.self (sz := s.heap.size)
  generalize hAe : va_A ([(fn_1 ch idx cl mt sta prg stp las tb qu wai bin bou hel sbo), (fn_0 cl cur pts nom ohm pol tau chg lft cap thr pz tmp het cun vol bk), (fn_3 bk cin cou ein eou), (fn_4 mt res mca mre trr wfo wct bd), (fn_9 wo tim se cu pr cco chs rc lg), (fn_5 pr pcn sps kds fst scs), (rf_RW ct 0 kds 48 fkds), (rf_RW ct 0 scs 48 fscs), (fn_8 rc rlim rwid rnu rold rsiz), (rf_RW ct 0 rnu 150 frn)] ++ ws) s.heap.size = A at hD hX ⊢
  have hA : ∀ q : Nat, s.heap.size ≤ q → A q := fun q h => by rw [← hAe]; exact Or.inr h
  have hS : va_S A s.heap s.heap [] := va_S.rf
  have hl := lv_entry ([.ref ch, .ref wo]) (n := 2) (Nat.le_of_ble_eq_true rfl)
  rw [lg_entry_eq]
  generalize (lg_sl ([.ref ch, .ref wo]) ++ List.replicate (2 - (lg_sl ([.ref ch, .ref wo])).length) Slot.unset).toArray = ls at hl ⊢
  have hl : lv_has ls 2 [(0, .ref ch), (1, .ref wo)] := hl
  refine lv_aload_n hx hb dX1_measureEnd_0 rfl (lv_at hl 1 rfl) ?_
  refine va_getN (v := .ref pr) (D := D) (ci := 9) (C := RX9) (T := TX9) (N := 8) hx hb hts in_X9 hown hK hP 4 rfl rfl 3 (by decide) (hts _ kl_RX1_175) (fun _ h9 => h9) rfl dX1_measureEnd_1 ?_
  refine lv_aload_n hx hb dX1_measureEnd_4 rfl (lv_at hl 0 rfl) ?_
  refine va_get (v := .int prg) (D := D) (ci := 1) (C := RX1) (T := TX1) (N := 14) hx hb hts in_X1 hown hK hP 0 rfl rfl 4 (by decide) (hts _ kl_RX1_46) (fun _ h9 => h9) rfl dX1_measureEnd_5 ?_
  refine lv_aload_n hx hb dX1_measureEnd_8 rfl (lv_at hl 0 rfl) ?_
  refine va_get (v := .int stp) (D := D) (ci := 1) (C := RX1) (T := TX1) (N := 14) hx hb hts in_X1 hown hK hP 0 rfl rfl 5 (by decide) (hts _ kl_RX1_49) (fun _ h9 => h9) rfl dX1_measureEnd_9 ?_
  obtain ⟨hP, hD⟩ := ty_opPD (E1 := [(fn_1 ch idx cl mt sta prg stp las tb qu wai bin bou hel sbo), (fn_0 cl cur pts nom ohm pol tau chg lft cap thr pz tmp het cun vol bk), (fn_3 bk cin cou ein eou), (fn_4 mt res mca mre trr wfo wct bd), (fn_9 wo tim se cu pr cco chs rc lg), (rf_RW ct 0 scs 48 fscs), (fn_8 rc rlim rwid rnu rold rsiz), (rf_RW ct 0 rnu 150 frn)]) (E2 := [(fn_5 pr pcn sps kds fst scs), (rf_RW ct 0 kds 48 fkds)]) (n := 10) [0, 1, 2, 3, 4, 7, 8, 9, 5, 6] hP hD rfl rfl (by decide +kernel) ty_mv2
  refine ty_Ki hP hD hS hA (va_runVN (As := [.int prg, .int stp]) (rest := []) ⟨hx, hb, hml, hown, hts⟩ (r_X5_kindOf l D ct (fun _ => none) [] (fun _ => True) (fun _ _ _ => True) pr pcn sps kds fst scs fkds prg stp _ ty_V0 ty_C0 ty_y10) (cm_VN 2 hts kc_X5_kindOf ki_RX5 kl_RX1_201 kv_X5_kindOf kx_X5_kindOf kd_X5_kindOf ⟨Nat.le_of_ble_eq_true rfl, Nat.le_of_ble_eq_true rfl⟩) (ty_preE (ci := 5) hP hK hD hS hA hX rfl (ty_app (j := 0) rfl)) rfl rfl hl.1 rfl (lv_room (Nat.le_of_ble_eq_true rfl)) dX1_measureEnd_12 ⟨Nat.le_of_ble_eq_true rfl, Nat.le_of_ble_eq_true rfl⟩) (fun r_1 u H locs hw_2 hP hD hS => ?_)
  obtain ⟨ws_3, rfl⟩ : ∃ z, z = u := ⟨_, rfl⟩
  obtain ⟨hT9_4, hp_5⟩ := hw_2
  have hp_5 : (a_X5_kindOf fkds prg stp r_1) := hp_5
  obtain ⟨hP, hD⟩ := ty_bkPD (E := [(fn_1 ch idx cl mt sta prg stp las tb qu wai bin bou hel sbo), (fn_0 cl cur pts nom ohm pol tau chg lft cap thr pz tmp het cun vol bk), (fn_3 bk cin cou ein eou), (fn_4 mt res mca mre trr wfo wct bd), (fn_9 wo tim se cu pr cco chs rc lg), (rf_RW ct 0 scs 48 fscs), (fn_8 rc rlim rwid rnu rold rsiz), (rf_RW ct 0 rnu 150 frn), (fn_5 pr pcn sps kds fst scs), (rf_RW ct 0 kds 48 fkds)]) hP hD rfl
  by_cases hk_6 : r_1 = 1
  · refine cm_cst hk_6 (lv_tableIn (off := 25) (tgt := 40) hx hb dX1_measureEnd_15 (by decide) (by decide) (by decide) (by decide) ?_)
    refine lv_aload_n hx hb dX1_measureEnd_40 rfl (lv_at hl 0 rfl) ?_
    refine lv_iconst (v := 1) hx hb dX1_measureEnd_41 (by decide) ?_
    refine va_put (v := .int 1) (ty := .boolean) (D := D) (ci := 1) (C := RX1) (T := TX1) (N := 14) hx hb hts in_X1 tyX1 tyX1_ok nmX1 hown hK hP hD hS 0 rfl rfl 12 (by decide) (hts _ kl_RX1_69) (fun _ h9 => h9) rfl (by decide +kernel) (by decide) rfl (Nat.le_of_ble_eq_true rfl) dX1_measureEnd_42 (fun H locs hP hD hS => ?_)
    have hP : va_P D vwCl ([(fn_1 ch idx cl mt sta prg stp las tb qu wai bin bou (1) sbo), (fn_0 cl cur pts nom ohm pol tau chg lft cap thr pz tmp het cun vol bk), (fn_3 bk cin cou ein eou), (fn_4 mt res mca mre trr wfo wct bd), (fn_9 wo tim se cu pr cco chs rc lg), (rf_RW ct 0 scs 48 fscs), (fn_8 rc rlim rwid rnu rold rsiz), (rf_RW ct 0 rnu 150 frn), (fn_5 pr pcn sps kds fst scs), (rf_RW ct 0 kds 48 fkds)] ++ ws) H := hP
    have hD : va_D A ([(fn_1 ch idx cl mt sta prg stp las tb qu wai bin bou (1) sbo), (fn_0 cl cur pts nom ohm pol tau chg lft cap thr pz tmp het cun vol bk), (fn_3 bk cin cou ein eou), (fn_4 mt res mca mre trr wfo wct bd), (fn_9 wo tim se cu pr cco chs rc lg), (rf_RW ct 0 scs 48 fscs), (fn_8 rc rlim rwid rnu rold rsiz), (rf_RW ct 0 rnu 150 frn), (fn_5 pr pcn sps kds fst scs), (rf_RW ct 0 kds 48 fkds)] ++ ws) := hD
    refine lv_goto (tgt := 73) hx hb dX1_measureEnd_45 (by decide) ?_
    obtain ⟨hP, hD⟩ := ty_ordPD (E2 := [(fn_1 ch idx cl mt sta prg stp las tb qu wai bin bou (1) sbo), (fn_0 cl cur pts nom ohm pol tau chg lft cap thr pz tmp het cun vol bk), (fn_3 bk cin cou ein eou), (fn_4 mt res mca mre trr wfo wct bd), (fn_9 wo tim se cu pr cco chs rc lg), (fn_5 pr pcn sps kds fst scs), (rf_RW ct 0 kds 48 fkds), (rf_RW ct 0 scs 48 fscs), (fn_8 rc rlim rwid rnu rold rsiz), (rf_RW ct 0 rnu 150 frn)]) (n := 10) [0, 1, 2, 3, 4, 8, 9, 5, 6, 7] hP hD rfl rfl (by decide +kernel)
    exact W.vret hx hb hr (fun t ht hW => ⟨⟨(ws, bin, bou, (1 : Int32), res, mca, rold, rsiz, frn), rfl, ⟨hT, ⟨⟨r_1, hp_5, (Or.inl ⟨hk_6, ⟨rfl, rfl, rfl, rfl, rfl, rfl, rfl, rfl⟩⟩)⟩, (fun h9 => (show vp_nar .boolean (1 : Int32) = 1 from by decide))⟩⟩, by rw [ht]; exact hP, by rw [hAe]; exact hD⟩, hS.F ht⟩) hS.2.2 dX1_measureEnd_73
  by_cases hk_7 : r_1 = 2
  · refine cm_cst hk_7 (lv_tableIn (off := 33) (tgt := 48) hx hb dX1_measureEnd_15 (by decide) (by decide) (by decide) (by decide) ?_)
    refine lv_aload_n hx hb dX1_measureEnd_48 rfl (lv_at hl 0 rfl) ?_
    refine lv_aload_n hx hb dX1_measureEnd_49 rfl (lv_at hl 1 rfl) ?_
    obtain ⟨hP, hD⟩ := ty_opPD (E1 := []) (E2 := [(fn_1 ch idx cl mt sta prg stp las tb qu wai bin bou hel sbo), (fn_0 cl cur pts nom ohm pol tau chg lft cap thr pz tmp het cun vol bk), (fn_3 bk cin cou ein eou), (fn_4 mt res mca mre trr wfo wct bd), (fn_9 wo tim se cu pr cco chs rc lg), (fn_5 pr pcn sps kds fst scs), (rf_RW ct 0 kds 48 fkds), (rf_RW ct 0 scs 48 fscs), (fn_8 rc rlim rwid rnu rold rsiz), (rf_RW ct 0 rnu 150 frn)]) (n := 10) [0, 1, 2, 3, 4, 8, 9, 5, 6, 7] hP hD rfl rfl (by decide +kernel) ty_mv2
    refine ty_Kv hP hD hS hA (va_runV (As := [.ref wo]) (rest := []) ⟨hx, hb, hml, hown, hts⟩ (r_X1_makeRecord l D ct (fun _ => none) [] (fun _ => True) (fun _ _ _ => True) ch idx cl mt sta prg stp las tb qu wai bin bou hel sbo cur pts nom ohm pol tau chg lft cap thr pz tmp het cun vol bk cin cou ein eou res mca mre trr wfo wct bd wo tim se cu pr cco chs rc lg pcn sps kds fst scs fkds fscs rlim rwid rnu rold rsiz frn _ ty_V0 ty_C0 ty_y10) (cm_V 1 hts kc_X1_makeRecord ki_RX1 kl_RX1_234 kv_X1_makeRecord kx_X1_makeRecord kd_X1_makeRecord ⟨Nat.le_of_ble_eq_true rfl, Nat.le_of_ble_eq_true rfl⟩) (ty_preE (ci := 1) hP hK hD hS hA hX rfl (ty_app (j := 0) rfl)) rfl rfl hl.1 rfl (lv_room (Nat.le_of_ble_eq_true rfl)) dX1_measureEnd_50 ⟨Nat.le_of_ble_eq_true rfl, Nat.le_of_ble_eq_true rfl⟩) (fun u H locs hw_9 hP hD hS => ?_)
    obtain ⟨ws_10, bin1_11, bou1_12, hel1_13, mca1_14, rold1_15, rsiz1_16, frn1_17⟩ := u
    obtain ⟨hT9_18, hp_19⟩ := hw_9
    have hp_19 : (a_X1_makeRecord idx prg stp bin bou hel sbo vol cin cou mca tim fscs rlim rwid rold rsiz frn bin1_11 bou1_12 hel1_13 mca1_14 rold1_15 rsiz1_16 frn1_17) ∧ (a_nb hel → a_nb hel1_13) := hp_19
    obtain ⟨hP, hD⟩ := ty_bkPD (E := [(fn_1 ch idx cl mt sta prg stp las tb qu wai bin1_11 bou1_12 hel1_13 sbo), (fn_0 cl cur pts nom ohm pol tau chg lft cap thr pz tmp het cun vol bk), (fn_3 bk cin cou ein eou), (fn_4 mt res mca1_14 mre trr wfo wct bd), (fn_9 wo tim se cu pr cco chs rc lg), (fn_5 pr pcn sps kds fst scs), (rf_RW ct 0 kds 48 fkds), (rf_RW ct 0 scs 48 fscs), (fn_8 rc rlim rwid rnu rold1_15 rsiz1_16), (rf_RW ct 0 rnu 150 frn1_17)]) hP hD rfl
    obtain ⟨hp_20, hn_21⟩ := hp_19
    refine lv_goto (tgt := 73) hx hb dX1_measureEnd_53 (by decide) ?_
    exact W.vret hx hb hr (fun t ht hW => ⟨⟨(ws, bin1_11, bou1_12, hel1_13, res, mca1_14, rold1_15, rsiz1_16, frn1_17), rfl, ⟨hT, ⟨⟨r_1, hp_5, (Or.inr ⟨hk_6, (Or.inl ⟨hk_7, ⟨bin1_11, bou1_12, hel1_13, mca1_14, rold1_15, rsiz1_16, frn1_17, hp_20, ⟨rfl, rfl, rfl, rfl, rfl, rfl, rfl, rfl⟩⟩⟩)⟩)⟩, (fun h9 => (hn_21 h9))⟩⟩, by rw [ht]; exact hP, by rw [hAe]; exact hD⟩, hS.F ht⟩) hS.2.2 dX1_measureEnd_73
  by_cases hk_22 : r_1 = 3
  · refine cm_cst hk_22 (lv_tableIn (off := 41) (tgt := 56) hx hb dX1_measureEnd_15 (by decide) (by decide) (by decide) (by decide) ?_)
    refine lv_aload_n hx hb dX1_measureEnd_56 rfl (lv_at hl 0 rfl) ?_
    refine va_get (v := .ref mt) (D := D) (ci := 1) (C := RX1) (T := TX1) (N := 14) hx hb hts in_X1 hown hK hP 0 rfl rfl 2 (by decide) (hts _ kl_RX1_25) (fun _ h9 => h9) rfl dX1_measureEnd_57 ?_
    refine lv_aload_n hx hb dX1_measureEnd_60 rfl (lv_at hl 0 rfl) ?_
    refine va_get (v := .ref cl) (D := D) (ci := 1) (C := RX1) (T := TX1) (N := 14) hx hb hts in_X1 hown hK hP 0 rfl rfl 1 (by decide) (hts _ kl_RX1_18) (fun _ h9 => h9) rfl dX1_measureEnd_61 ?_
    refine va_getN (v := .int vol) (D := D) (ci := 0) (C := RX0) (T := TX0) (N := 16) hx hb hts in_X0 hown hK hP 1 rfl rfl 14 (by decide) (hts _ kl_RX1_79) (fun _ h9 => h9) rfl dX1_measureEnd_64 ?_
    refine va_putN (v := .int vol) (ty := .int) (D := D) (ci := 4) (C := RX4) (T := TX4) (N := 7) hx hb hts in_X4 tyX4 tyX4_ok nmX4 hown hK hP hD hS 3 rfl rfl 0 (by decide) (hts _ kl_RX1_237) (fun _ h9 => h9) rfl (by decide +kernel) rfl rfl (Nat.le_of_ble_eq_true rfl) dX1_measureEnd_67 (fun H locs hP hD hS => ?_)
    have hP : va_P D vwCl ([(fn_1 ch idx cl mt sta prg stp las tb qu wai bin bou hel sbo), (fn_0 cl cur pts nom ohm pol tau chg lft cap thr pz tmp het cun vol bk), (fn_3 bk cin cou ein eou), (fn_4 mt vol mca mre trr wfo wct bd), (fn_9 wo tim se cu pr cco chs rc lg), (rf_RW ct 0 scs 48 fscs), (fn_8 rc rlim rwid rnu rold rsiz), (rf_RW ct 0 rnu 150 frn), (fn_5 pr pcn sps kds fst scs), (rf_RW ct 0 kds 48 fkds)] ++ ws) H := hP
    have hD : va_D A ([(fn_1 ch idx cl mt sta prg stp las tb qu wai bin bou hel sbo), (fn_0 cl cur pts nom ohm pol tau chg lft cap thr pz tmp het cun vol bk), (fn_3 bk cin cou ein eou), (fn_4 mt vol mca mre trr wfo wct bd), (fn_9 wo tim se cu pr cco chs rc lg), (rf_RW ct 0 scs 48 fscs), (fn_8 rc rlim rwid rnu rold rsiz), (rf_RW ct 0 rnu 150 frn), (fn_5 pr pcn sps kds fst scs), (rf_RW ct 0 kds 48 fkds)] ++ ws) := hD
    refine lv_goto (tgt := 73) hx hb dX1_measureEnd_70 (by decide) ?_
    obtain ⟨hP, hD⟩ := ty_ordPD (E2 := [(fn_1 ch idx cl mt sta prg stp las tb qu wai bin bou hel sbo), (fn_0 cl cur pts nom ohm pol tau chg lft cap thr pz tmp het cun vol bk), (fn_3 bk cin cou ein eou), (fn_4 mt vol mca mre trr wfo wct bd), (fn_9 wo tim se cu pr cco chs rc lg), (fn_5 pr pcn sps kds fst scs), (rf_RW ct 0 kds 48 fkds), (rf_RW ct 0 scs 48 fscs), (fn_8 rc rlim rwid rnu rold rsiz), (rf_RW ct 0 rnu 150 frn)]) (n := 10) [0, 1, 2, 3, 4, 8, 9, 5, 6, 7] hP hD rfl rfl (by decide +kernel)
    exact W.vret hx hb hr (fun t ht hW => ⟨⟨(ws, bin, bou, hel, vol, mca, rold, rsiz, frn), rfl, ⟨hT, ⟨⟨r_1, hp_5, (Or.inr ⟨hk_6, (Or.inr ⟨hk_7, (Or.inl ⟨hk_22, ⟨rfl, rfl, rfl, rfl, rfl, rfl, rfl, rfl⟩⟩)⟩)⟩)⟩, (fun h9 => h9)⟩⟩, by rw [ht]; exact hP, by rw [hAe]; exact hD⟩, hS.F ht⟩) hS.2.2 dX1_measureEnd_73
  refine lv_tableOut (tgt := 73) hx hb dX1_measureEnd_15 (ty_sw1_3 hk_6 hk_7 hk_22) (by decide) ?_
  obtain ⟨hP, hD⟩ := ty_ordPD (E2 := [(fn_1 ch idx cl mt sta prg stp las tb qu wai bin bou hel sbo), (fn_0 cl cur pts nom ohm pol tau chg lft cap thr pz tmp het cun vol bk), (fn_3 bk cin cou ein eou), (fn_4 mt res mca mre trr wfo wct bd), (fn_9 wo tim se cu pr cco chs rc lg), (fn_5 pr pcn sps kds fst scs), (rf_RW ct 0 kds 48 fkds), (rf_RW ct 0 scs 48 fscs), (fn_8 rc rlim rwid rnu rold rsiz), (rf_RW ct 0 rnu 150 frn)]) (n := 10) [0, 1, 2, 3, 4, 8, 9, 5, 6, 7] hP hD rfl rfl (by decide +kernel)
  exact W.vret hx hb hr (fun t ht hW => ⟨⟨(ws, bin, bou, hel, res, mca, rold, rsiz, frn), rfl, ⟨hT, ⟨⟨r_1, hp_5, (Or.inr ⟨hk_6, (Or.inr ⟨hk_7, (Or.inr ⟨hk_22, ⟨rfl, rfl, rfl, rfl, rfl, rfl, rfl, rfl⟩⟩)⟩)⟩)⟩, (fun h9 => h9)⟩⟩, by rw [ht]; exact hP, by rw [hAe]; exact hD⟩, hS.F ht⟩) hS.2.2 dX1_measureEnd_73
/-- a row whose first numbers are 0 -/
def a_z (n : Nat) (b c : Nat → Int32) : Prop := ∀ j : Nat, c j = if j < n then 0 else b j
theorem a_z0 {b : Nat → Int32} : a_z (0 : Int32).toInt.toNat b b := fun j => (if_neg (Nat.not_lt_zero j)).symm
theorem a_z1 {b c : Nat → Int32} {y : Int32} (hy : 0 ≤ y.toInt ∧ y.toInt < 1000) (h : a_z y.toInt.toNat b c) : a_z (y + Int32.ofInt 1).toInt.toNat b (upd c y.toNatClampNeg 0) := by
  have e : (y + Int32.ofInt 1).toInt = y.toInt + 1 := rf_p1 (by omega)
  intro j
  show (if j = y.toInt.toNat then 0 else c j) = _
  rw [h j, e]
  by_cases q : j = y.toInt.toNat
  · rw [if_pos q, if_pos (by omega)]
  · rw [if_neg q]
    by_cases z : j < y.toInt.toNat
    · rw [if_pos z, if_pos (by omega)]
    · rw [if_neg z, if_neg (by omega)]
def a_X10_clearRow_12 (b : Nat → Int32) (b1 : Nat → Int32) : Prop := a_z 12 b b1
set_option maxRecDepth 100000 in
set_option maxHeartbeats 4000000 in
theorem r_X10_clearRow_12 (l : Launch) (D : va_G) (ct : Nat → ClassId) (S : ty_S) (ws : va_W) (ph : va_W → Prop) (xx : Nat → Nat → Nat → Prop) (p1 : Nat) (b : Nat → Int32) (sz : Nat) (hT : ty_V ct S ph ws) (hph : ty_C ph xx) (hy1 : ty_y1 xx) : Met l yX10_clearRow (ws_ yX10_clearRow cX10_clearRow 2 none) ({ frames := 0, cells := 0, slots := 0, locals := 0 } : Room) (va_Pc [.ref p1] (cmP D ct sz ([(rf_RW ct 0 p1 12 b)] ++ ws))) (va_Qv (fun (u : va_W × (Nat → Int32)) => match u with | (u9, b1) => ty_V ct S ph u9 ∧ (a_X10_clearRow_12 b b1)) (cmB D ([(rf_RW ct 0 p1 12 b)] ++ ws) sz (fun (u : va_W × (Nat → Int32)) => match u with | (u9, b1) => ([(rf_RW ct 0 p1 12 b1)] ++ u9))) (va_A ([(rf_RW ct 0 p1 12 b)] ++ ws) sz)) 0 0 (va_A ([(rf_RW ct 0 p1 12 b)] ++ ws) sz) := by
  refine Met.ofW (cc := cX10_clearRow) (maxL := 2) (ret := none) (by decide) rfl ?_
  intro p e s m args below meth c s₁ B hml hv
  obtain ⟨rfl, hsz, hP, hK, hD0, hX⟩ := hv
  have hx := B.exec
  have hb := B.bytes
  have hr := B.returns
  have hts := ws_all (atoms_spec (ws := ws_ yX10_clearRow cX10_clearRow 2 none) B.pre)
  have hown : s.vm.findClass RX10 = some m.cls := findClass_of_methodNamed B.named
  have hlocks := B.notSynchronized
  subst hsz
  have hD := hD0.self (sz := s.heap.size)
  generalize hAe : va_A ([(rf_RW ct 0 p1 12 b)] ++ ws) s.heap.size = A at hD hX ⊢
  have hA : ∀ q : Nat, s.heap.size ≤ q → A q := fun q h => by rw [← hAe]; exact Or.inr h
  have hS : va_S A s.heap s.heap [] := va_S.rf
  have hl := lv_entry ([.ref p1]) (n := 2) (Nat.le_of_ble_eq_true rfl)
  rw [lg_entry_eq]
  generalize (lg_sl ([.ref p1]) ++ List.replicate (2 - (lg_sl ([.ref p1])).length) Slot.unset).toArray = ls at hl ⊢
  have hl : lv_has ls 2 [(0, .ref p1)] := hl
  refine lv_iconst (v := 0) hx hb dX10_clearRow_0 (by decide) ?_
  refine lv_istore_n (lv' := [(1, .int 0), (0, .ref p1)]) hx hb dX10_clearRow_1 rfl hl (by decide) rfl (fun ls hl => ?_)
  refine ty_loop (I := fun μ H locs ls => ∃ (ws : va_W) (y_1 : Int32) (g_2 : Nat → Int32), μ = (2147483648 - y_1.toInt).toNat ∧ ty_V ct S ph ws ∧ va_P D vwCl ([(rf_RW ct 0 p1 12 g_2)] ++ ws) H ∧ va_D A ([(rf_RW ct 0 p1 12 g_2)] ++ ws) ∧ va_S A s.heap H locs ∧ lv_has ls 2 [(0, .ref p1), (1, .int y_1)] ∧ (0 ≤ y_1.toInt ∧ y_1.toInt ≤ 12) ∧ a_z y_1.toInt.toNat b g_2) ⟨_, ws, (0 : Int32), b, rfl, hT, hP, hD, hS, (lv_sub hl [1, 0] rfl), ⟨by decide, by decide⟩, a_z0⟩ (fun μ H locs ls hI ih_2 => ?_)
  obtain ⟨ws, y_1, g_2, rfl, hT, hP, hD, hS, hl, hex_2⟩ := hI
  refine lv_iload_n hx hb dX10_clearRow_2 rfl (lv_at hl 1 rfl) ?_
  refine lv_aload_n hx hb dX10_clearRow_3 rfl (lv_at hl 0 rfl) ?_
  refine va_alen hx hb hK hP 0 0 rfl rfl (v := 12) (show Int32.ofNat 12 = (12 : Int32) from by decide) dX10_clearRow_4 ?_
  refine lv_icmp_ge (tgt := 18) hx hb dX10_clearRow_5 (by decide) (fun hc_3 => ?_) (fun hc_3 => ?_)
  · exact W.vret hx hb hr (fun t ht hW => ⟨⟨(ws, g_2), rfl, ⟨hT, (by have h := hex_2.2; have := hex_2.1; have q := hc_3; rw [Int32.le_iff_toInt_le, show (12 : Int32).toInt = 12 from by decide] at q; rw [show Int32.toInt _ = (12 : Int) from by omega] at h; exact h)⟩, by rw [ht]; exact hP, by rw [hAe]; exact hD⟩, hS.F ht⟩) hS.2.2 dX10_clearRow_18
  · refine lv_aload_n hx hb dX10_clearRow_8 rfl (lv_at hl 0 rfl) ?_
    refine lv_iload_n hx hb dX10_clearRow_9 rfl (lv_at hl 1 rfl) ?_
    refine lv_iconst (v := 0) hx hb dX10_clearRow_10 (by decide) ?_
    refine va_iast hx hb hK hP hD hS 0 0 rfl rfl (rf_vin (by have := hex_2.1; have := (by have q := hc_3; rw [Int32.le_iff_toInt_le, show (12 : Int32).toInt = 12 from by decide] at q; exact q); omega)) dX10_clearRow_11 (fun H locs hP hD hS => ?_)
    have hP : va_P D vwCl ([(rf_RW ct 0 p1 12 (upd g_2 y_1.toNatClampNeg 0))] ++ ws) H := hP
    have hD : va_D A ([(rf_RW ct 0 p1 12 (upd g_2 y_1.toNatClampNeg 0))] ++ ws) := hD
    refine lv_iinc (v := (y_1 + Int32.ofInt 1)) (lv' := [(1, .int (y_1 + Int32.ofInt 1)), (0, .ref p1)]) hx hb dX10_clearRow_12 hl (k := 1) rfl rfl (by decide) rfl (fun ls hl => ?_)
    refine lv_goto (tgt := 2) hx hb dX10_clearRow_15 (by decide) ?_
    exact ih_2 _ _ _ _ (ty_inc (cm_lt hc_3)) ⟨ws, (y_1 + Int32.ofInt 1), (upd g_2 y_1.toNatClampNeg 0), rfl, hT, hP, hD, hS, (lv_sub hl [1, 0] rfl), (by have := hex_2.1; have := (by have q := hc_3; rw [Int32.le_iff_toInt_le, show (12 : Int32).toInt = 12 from by decide] at q; exact q); have := rf_oi (n := y_1) (by omega); omega), a_z1 (by have := hex_2.1; have := (by have q := hc_3; rw [Int32.le_iff_toInt_le, show (12 : Int32).toInt = 12 from by decide] at q; exact q); omega) hex_2.2⟩
