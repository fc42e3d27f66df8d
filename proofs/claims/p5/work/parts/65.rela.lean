def fn_0 (a : Nat) (f0 : Nat) (f1 : Int32) (f2 : Int32) (f3 : Int32) (f4 : Int32) (f5 : Int32) (f6 : Int32) (f7 : Int32) (f8 : Int32) (f9 : Int32) (f10 : Int32) (f11 : Int32) (f12 : Int32) (f13 : Int32) (f14 : Int32) (f15 : Nat) : Nat × va_E := (a, .inr (0, [.ref f0, .int f1, .int f2, .int f3, .int f4, .int f5, .int f6, .int f7, .int f8, .int f9, .int f10, .int f11, .int f12, .int f13, .int f14, .ref f15]))
def fn_1 (a : Nat) (f0 : Int32) (f1 : Nat) (f2 : Nat) (f3 : Int32) (f4 : Int32) (f5 : Int32) (f6 : Int32) (f7 : Nat) (f8 : Nat) (f9 : Int32) (f10 : Int64) (f11 : Int64) (f12 : Int32) (f13 : Int64) : Nat × va_E := (a, .inr (1, [.int f0, .ref f1, .ref f2, .int f3, .int f4, .int f5, .int f6, .ref f7, .ref f8, .int f9, .long f10, .long f11, .int f12, .long f13]))
def fn_2 (a : Nat) (f0 : Int32) (f1 : Nat) (f2 : Nat) (f3 : Nat) : Nat × va_E := (a, .inr (2, [.int f0, .ref f1, .ref f2, .ref f3]))
def fn_3 (a : Nat) (f0 : Int64) (f1 : Int64) (f2 : Int64) (f3 : Int64) : Nat × va_E := (a, .inr (3, [.long f0, .long f1, .long f2, .long f3]))
def fn_4 (a : Nat) (f0 : Int32) (f1 : Int32) (f2 : Int32) (f3 : Int32) (f4 : Int32) (f5 : Int32) (f6 : Nat) : Nat × va_E := (a, .inr (4, [.int f0, .int f1, .int f2, .int f3, .int f4, .int f5, .ref f6]))
def fn_5 (a : Nat) (f0 : Int32) (f1 : Nat) (f2 : Nat) (f3 : Nat) (f4 : Nat) : Nat × va_E := (a, .inr (5, [.int f0, .ref f1, .ref f2, .ref f3, .ref f4]))
def fn_7 (a : Nat) (f0 : Int32) (f1 : Int32) (f2 : Int32) (f3 : Int32) (f4 : Int32) (f5 : Int32) (f6 : Int32) (f7 : Int32) (f8 : Int32) (f9 : Int32) (f10 : Int32) (f11 : Int32) : Nat × va_E := (a, .inr (7, [.int f0, .int f1, .int f2, .int f3, .int f4, .int f5, .int f6, .int f7, .int f8, .int f9, .int f10, .int f11]))
def fn_8 (a : Nat) (f0 : Int32) (f1 : Int32) (f2 : Nat) (f3 : Int32) (f4 : Int32) : Nat × va_E := (a, .inr (8, [.int f0, .int f1, .ref f2, .int f3, .int f4]))
def fn_9 (a : Nat) (f0 : Int32) (f1 : Nat) (f2 : Nat) (f3 : Nat) (f4 : Int32) (f5 : Nat) (f6 : Nat) (f7 : Nat) : Nat × va_E := (a, .inr (9, [.int f0, .ref f1, .ref f2, .ref f3, .int f4, .ref f5, .ref f6, .ref f7]))
def a_X10_quotient (p1 : Int64) (p2 : Int64) (r : Int64) : Prop := ((¬ (lg_cmp p2 0) = (0 : Int32) ∧ (r = (p1 / p2))) ∨ ((lg_cmp p2 0) = (0 : Int32) ∧ (r = 0)))
set_option maxRecDepth 100000 in
set_option maxHeartbeats 4000000 in
theorem r_X10_quotient (l : Launch) (D : va_G) (ct : Nat → ClassId) (S : ty_S) (ws : va_W) (ph : va_W → Prop) (xx : Nat → Nat → Nat → Prop) (p1 : Int64) (p2 : Int64) (sz : Nat) (hT : ty_V ct S ph ws) (hph : ty_C ph xx) (hy1 : ty_y1 xx) : Met l yX10_quotient (ws_ yX10_quotient cX10_quotient 4 (some .long)) ({ frames := 0, cells := 0, slots := 0, locals := 0 } : Room) (va_Pc [.long p1, .long p2] (cmP D ct sz ([] ++ ws))) (va_Ql (fun (r : Int64) (u9 : va_W) => ty_V ct S ph u9 ∧ (a_X10_quotient p1 p2 r)) (cmB D ([] ++ ws) sz (fun (u9 : va_W) => ([] ++ u9))) (va_A ([] ++ ws) sz)) 0 0 (va_A ([] ++ ws) sz) := by
  refine Met.ofW (cc := cX10_quotient) (maxL := 4) (ret := (some .long)) (by decide) rfl ?_
  intro p e s m args below meth c s₁ B hml hv
  obtain ⟨rfl, hsz, hP, hK, hD0, hX⟩ := hv
  have hx := B.exec
  have hb := B.bytes
  have hr := B.returns
  have hts := ws_all (atoms_spec (ws := ws_ yX10_quotient cX10_quotient 4 (some .long)) B.pre)
  have hown : s.vm.findClass RX10 = some m.cls := findClass_of_methodNamed B.named
  have hlocks := B.notSynchronized
  subst hsz
  have hD := hD0.self (sz := s.heap.size)
  generalize hAe : va_A ([] ++ ws) s.heap.size = A at hD hX ⊢
  have hA : ∀ q : Nat, s.heap.size ≤ q → A q := fun q h => by rw [← hAe]; exact Or.inr h
  have hS : va_S A s.heap s.heap [] := va_S.rf
  have hl := lv_entry ([.long p1, .long p2]) (n := 4) (Nat.le_of_ble_eq_true rfl)
  rw [lg_entry_eq]
  generalize (lg_sl ([.long p1, .long p2]) ++ List.replicate (4 - (lg_sl ([.long p1, .long p2])).length) Slot.unset).toArray = ls at hl ⊢
  have hl : lv_has ls 4 [(0, .long p1), (2, .long p2)] := hl
  refine lv_lload_n hx hb dX10_quotient_0 rfl (lv_at hl 1 rfl) ?_
  refine lv_lconst (v := 0) hx hb dX10_quotient_1 (by decide) ?_
  refine W.lcmp hx hb dX10_quotient_2 ?_
  refine lv_if_ne (tgt := 10) hx hb dX10_quotient_3 (by decide) (fun hc_1 => ?_) (fun hc_1 => ?_)
  · refine lv_lload_n hx hb dX10_quotient_10 rfl (lv_at hl 0 rfl) ?_
    refine lv_lload_n hx hb dX10_quotient_11 rfl (lv_at hl 1 rfl) ?_
    refine lv_ldiv hx hb dX10_quotient_12 (fun h9 => hc_1 (by rw [h9]; exact cm_lceq 0)) ?_
    exact W.lret (v := (p1 / p2)) hx hb hr (fun t ht hW => ⟨⟨(p1 / p2), ws, rfl, ⟨hT, (Or.inl ⟨hc_1, rfl⟩)⟩, by rw [ht]; exact hP, by rw [hAe]; exact hD⟩, hS.F ht⟩) hS.2.2 dX10_quotient_13
  · refine lv_lconst (v := 0) hx hb dX10_quotient_6 (by decide) ?_
    refine lv_goto (tgt := 13) hx hb dX10_quotient_7 (by decide) ?_
    exact W.lret (v := 0) hx hb hr (fun t ht hW => ⟨⟨0, ws, rfl, ⟨hT, (Or.inr ⟨hc_1, rfl⟩)⟩, by rw [ht]; exact hP, by rw [hAe]; exact hD⟩, hS.F ht⟩) hS.2.2 dX10_quotient_13
def a_X10_remainder (p1 : Int64) (p2 : Int64) (r : Int64) : Prop := ((¬ (lg_cmp p2 0) = (0 : Int32) ∧ (r = (p1 - ((p1 / p2) * p2)))) ∨ ((lg_cmp p2 0) = (0 : Int32) ∧ (r = 0)))
set_option maxRecDepth 100000 in
set_option maxHeartbeats 4000000 in
theorem r_X10_remainder (l : Launch) (D : va_G) (ct : Nat → ClassId) (S : ty_S) (ws : va_W) (ph : va_W → Prop) (xx : Nat → Nat → Nat → Prop) (p1 : Int64) (p2 : Int64) (sz : Nat) (hT : ty_V ct S ph ws) (hph : ty_C ph xx) (hy1 : ty_y1 xx) : Met l yX10_remainder (ws_ yX10_remainder cX10_remainder 4 (some .long)) ({ frames := 0, cells := 0, slots := 0, locals := 0 } : Room) (va_Pc [.long p1, .long p2] (cmP D ct sz ([] ++ ws))) (va_Ql (fun (r : Int64) (u9 : va_W) => ty_V ct S ph u9 ∧ (a_X10_remainder p1 p2 r)) (cmB D ([] ++ ws) sz (fun (u9 : va_W) => ([] ++ u9))) (va_A ([] ++ ws) sz)) 0 0 (va_A ([] ++ ws) sz) := by
  refine Met.ofW (cc := cX10_remainder) (maxL := 4) (ret := (some .long)) (by decide) rfl ?_
  intro p e s m args below meth c s₁ B hml hv
  obtain ⟨rfl, hsz, hP, hK, hD0, hX⟩ := hv
  have hx := B.exec
  have hb := B.bytes
  have hr := B.returns
  have hts := ws_all (atoms_spec (ws := ws_ yX10_remainder cX10_remainder 4 (some .long)) B.pre)
  have hown : s.vm.findClass RX10 = some m.cls := findClass_of_methodNamed B.named
  have hlocks := B.notSynchronized
  subst hsz
  have hD := hD0.self (sz := s.heap.size)
  generalize hAe : va_A ([] ++ ws) s.heap.size = A at hD hX ⊢
  have hA : ∀ q : Nat, s.heap.size ≤ q → A q := fun q h => by rw [← hAe]; exact Or.inr h
  have hS : va_S A s.heap s.heap [] := va_S.rf
  have hl := lv_entry ([.long p1, .long p2]) (n := 4) (Nat.le_of_ble_eq_true rfl)
  rw [lg_entry_eq]
  generalize (lg_sl ([.long p1, .long p2]) ++ List.replicate (4 - (lg_sl ([.long p1, .long p2])).length) Slot.unset).toArray = ls at hl ⊢
  have hl : lv_has ls 4 [(0, .long p1), (2, .long p2)] := hl
  refine lv_lload_n hx hb dX10_remainder_0 rfl (lv_at hl 1 rfl) ?_
  refine lv_lconst (v := 0) hx hb dX10_remainder_1 (by decide) ?_
  refine W.lcmp hx hb dX10_remainder_2 ?_
  refine lv_if_ne (tgt := 10) hx hb dX10_remainder_3 (by decide) (fun hc_1 => ?_) (fun hc_1 => ?_)
  · refine lv_lload_n hx hb dX10_remainder_10 rfl (lv_at hl 0 rfl) ?_
    refine lv_lload_n hx hb dX10_remainder_11 rfl (lv_at hl 1 rfl) ?_
    refine lv_lrem hx hb dX10_remainder_12 (fun h9 => hc_1 (by rw [h9]; exact cm_lceq 0)) ?_
    exact W.lret (v := (p1 - ((p1 / p2) * p2))) hx hb hr (fun t ht hW => ⟨⟨(p1 - ((p1 / p2) * p2)), ws, rfl, ⟨hT, (Or.inl ⟨hc_1, rfl⟩)⟩, by rw [ht]; exact hP, by rw [hAe]; exact hD⟩, hS.F ht⟩) hS.2.2 dX10_remainder_13
  · refine lv_lconst (v := 0) hx hb dX10_remainder_6 (by decide) ?_
    refine lv_goto (tgt := 13) hx hb dX10_remainder_7 (by decide) ?_
    exact W.lret (v := 0) hx hb hr (fun t ht hW => ⟨⟨0, ws, rfl, ⟨hT, (Or.inr ⟨hc_1, rfl⟩)⟩, by rw [ht]; exact hP, by rw [hAe]; exact hD⟩, hS.F ht⟩) hS.2.2 dX10_remainder_13
def a_nb (x : Int32) : Prop := vp_nar .boolean x = x
theorem a_zn {r : Int32} (h : r = 0 ∨ r = 1) : narrow .boolean (.int r) = .int r := by
  rcases h with q | q
  · rw [q]; first | rfl | decide
  · rw [q]; first | rfl | decide
theorem a_vin2 {y k : Int32} {n : Nat} (hk : k.toInt = n) (h1 : ¬ y < 0) (h2 : ¬ k ≤ y) : vp_in y n := by
  rw [Int32.lt_iff_toInt_lt, show (0 : Int32).toInt = 0 from by decide] at h1
  rw [Int32.le_iff_toInt_le] at h2
  exact rf_vin (by omega)
theorem a_vin {y k : Int32} {n : Nat} (hk : k.toInt = n) (h1 : ¬ y < 0) (h2 : y < k) : vp_in y n := by
  rw [Int32.lt_iff_toInt_lt, show (0 : Int32).toInt = 0 from by decide] at h1
  rw [Int32.lt_iff_toInt_lt] at h2
  exact rf_vin (by omega)
def a_X10_at_4 (b : Nat → Int32) (p2 : Int32) (r : Int32) : Prop := ((p2 < (0 : Int32) ∧ (r = 0)) ∨ (¬ p2 < (0 : Int32) ∧ ((p2 < (4 : Int32) ∧ (r = (b p2.toNatClampNeg))) ∨ (¬ p2 < (4 : Int32) ∧ (r = 0)))))
set_option maxRecDepth 100000 in
set_option maxHeartbeats 4000000 in
theorem r_X10_at_4 (l : Launch) (D : va_G) (ct : Nat → ClassId) (S : ty_S) (ws : va_W) (ph : va_W → Prop) (xx : Nat → Nat → Nat → Prop) (p1 : Nat) (b : Nat → Int32) (p2 : Int32) (sz : Nat) (hT : ty_V ct S ph ws) (hph : ty_C ph xx) (hy1 : ty_y1 xx) : Met l yX10_at (ws_ yX10_at cX10_at 2 (some .int)) ({ frames := 0, cells := 0, slots := 0, locals := 0 } : Room) (va_Pc [.ref p1, .int p2] (cmP D ct sz ([(rf_RW ct 0 p1 4 b)] ++ ws))) (va_Qi (fun (r : Int32) (u9 : va_W) => ty_V ct S ph u9 ∧ (a_X10_at_4 b p2 r)) (cmB D ([(rf_RW ct 0 p1 4 b)] ++ ws) sz (fun (u9 : va_W) => ([(rf_RW ct 0 p1 4 b)] ++ u9))) (va_A ([(rf_RW ct 0 p1 4 b)] ++ ws) sz)) 0 0 (va_A ([(rf_RW ct 0 p1 4 b)] ++ ws) sz) := by
  refine Met.ofW (cc := cX10_at) (maxL := 2) (ret := (some .int)) (by decide) rfl ?_
  intro p e s m args below meth c s₁ B hml hv
  obtain ⟨rfl, hsz, hP, hK, hD0, hX⟩ := hv
  have hx := B.exec
  have hb := B.bytes
  have hr := B.returns
  have hts := ws_all (atoms_spec (ws := ws_ yX10_at cX10_at 2 (some .int)) B.pre)
  have hown : s.vm.findClass RX10 = some m.cls := findClass_of_methodNamed B.named
  have hlocks := B.notSynchronized
  subst hsz
  have hD := hD0.self (sz := s.heap.size)
  generalize hAe : va_A ([(rf_RW ct 0 p1 4 b)] ++ ws) s.heap.size = A at hD hX ⊢
  have hA : ∀ q : Nat, s.heap.size ≤ q → A q := fun q h => by rw [← hAe]; exact Or.inr h
  have hS : va_S A s.heap s.heap [] := va_S.rf
  have hl := lv_entry ([.ref p1, .int p2]) (n := 2) (Nat.le_of_ble_eq_true rfl)
  rw [lg_entry_eq]
  generalize (lg_sl ([.ref p1, .int p2]) ++ List.replicate (2 - (lg_sl ([.ref p1, .int p2])).length) Slot.unset).toArray = ls at hl ⊢
  have hl : lv_has ls 2 [(0, .ref p1), (1, .int p2)] := hl
  refine lv_iload_n hx hb dX10_at_0 rfl (lv_at hl 1 rfl) ?_
  refine lv_if_lt (tgt := 10) hx hb dX10_at_1 (by decide) (fun hc_1 => ?_) (fun hc_1 => ?_)
  · refine lv_iconst (v := 0) hx hb dX10_at_10 (by decide) ?_
    refine lv_goto (tgt := 17) hx hb dX10_at_11 (by decide) ?_
    exact W.iret (v := 0) hx hb hr (fun t ht hW => ⟨⟨0, ws, rfl, ⟨hT, (Or.inl ⟨hc_1, rfl⟩)⟩, by rw [ht]; exact hP, by rw [hAe]; exact hD⟩, hS.F ht⟩) hS.2.2 dX10_at_17
  · refine lv_iload_n hx hb dX10_at_4 rfl (lv_at hl 1 rfl) ?_
    refine lv_aload_n hx hb dX10_at_5 rfl (lv_at hl 0 rfl) ?_
    refine va_alen hx hb hK hP 0 0 rfl rfl (v := 4) (show Int32.ofNat 4 = (4 : Int32) from by decide) dX10_at_6 ?_
    refine lv_icmp_lt (tgt := 14) hx hb dX10_at_7 (by decide) (fun hc_2 => ?_) (fun hc_2 => ?_)
    · refine lv_aload_n hx hb dX10_at_14 rfl (lv_at hl 0 rfl) ?_
      refine lv_iload_n hx hb dX10_at_15 rfl (lv_at hl 1 rfl) ?_
      refine va_iald hx hb hK hP 0 0 rfl rfl (a_vin (k := 4) (by decide) hc_1 hc_2) dX10_at_16 ?_
      exact W.iret (v := (b p2.toNatClampNeg)) hx hb hr (fun t ht hW => ⟨⟨(b p2.toNatClampNeg), ws, rfl, ⟨hT, (Or.inr ⟨hc_1, (Or.inl ⟨hc_2, rfl⟩)⟩)⟩, by rw [ht]; exact hP, by rw [hAe]; exact hD⟩, hS.F ht⟩) hS.2.2 dX10_at_17
    · refine lv_iconst (v := 0) hx hb dX10_at_10 (by decide) ?_
      refine lv_goto (tgt := 17) hx hb dX10_at_11 (by decide) ?_
      exact W.iret (v := 0) hx hb hr (fun t ht hW => ⟨⟨0, ws, rfl, ⟨hT, (Or.inr ⟨hc_1, (Or.inr ⟨hc_2, rfl⟩)⟩)⟩, by rw [ht]; exact hP, by rw [hAe]; exact hD⟩, hS.F ht⟩) hS.2.2 dX10_at_17
def a_X10_at_10 (b : Nat → Int32) (p2 : Int32) (r : Int32) : Prop := ((p2 < (0 : Int32) ∧ (r = 0)) ∨ (¬ p2 < (0 : Int32) ∧ ((p2 < (10 : Int32) ∧ (r = (b p2.toNatClampNeg))) ∨ (¬ p2 < (10 : Int32) ∧ (r = 0)))))
set_option maxRecDepth 100000 in
set_option maxHeartbeats 4000000 in
theorem r_X10_at_10 (l : Launch) (D : va_G) (ct : Nat → ClassId) (S : ty_S) (ws : va_W) (ph : va_W → Prop) (xx : Nat → Nat → Nat → Prop) (p1 : Nat) (b : Nat → Int32) (p2 : Int32) (sz : Nat) (hT : ty_V ct S ph ws) (hph : ty_C ph xx) (hy1 : ty_y1 xx) : Met l yX10_at (ws_ yX10_at cX10_at 2 (some .int)) ({ frames := 0, cells := 0, slots := 0, locals := 0 } : Room) (va_Pc [.ref p1, .int p2] (cmP D ct sz ([(rf_RW ct 0 p1 10 b)] ++ ws))) (va_Qi (fun (r : Int32) (u9 : va_W) => ty_V ct S ph u9 ∧ (a_X10_at_10 b p2 r)) (cmB D ([(rf_RW ct 0 p1 10 b)] ++ ws) sz (fun (u9 : va_W) => ([(rf_RW ct 0 p1 10 b)] ++ u9))) (va_A ([(rf_RW ct 0 p1 10 b)] ++ ws) sz)) 0 0 (va_A ([(rf_RW ct 0 p1 10 b)] ++ ws) sz) := by
  refine Met.ofW (cc := cX10_at) (maxL := 2) (ret := (some .int)) (by decide) rfl ?_
  intro p e s m args below meth c s₁ B hml hv
  obtain ⟨rfl, hsz, hP, hK, hD0, hX⟩ := hv
  have hx := B.exec
  have hb := B.bytes
  have hr := B.returns
  have hts := ws_all (atoms_spec (ws := ws_ yX10_at cX10_at 2 (some .int)) B.pre)
  have hown : s.vm.findClass RX10 = some m.cls := findClass_of_methodNamed B.named
  have hlocks := B.notSynchronized
  subst hsz
  have hD := hD0.self (sz := s.heap.size)
  generalize hAe : va_A ([(rf_RW ct 0 p1 10 b)] ++ ws) s.heap.size = A at hD hX ⊢
  have hA : ∀ q : Nat, s.heap.size ≤ q → A q := fun q h => by rw [← hAe]; exact Or.inr h
  have hS : va_S A s.heap s.heap [] := va_S.rf
  have hl := lv_entry ([.ref p1, .int p2]) (n := 2) (Nat.le_of_ble_eq_true rfl)
  rw [lg_entry_eq]
  generalize (lg_sl ([.ref p1, .int p2]) ++ List.replicate (2 - (lg_sl ([.ref p1, .int p2])).length) Slot.unset).toArray = ls at hl ⊢
  have hl : lv_has ls 2 [(0, .ref p1), (1, .int p2)] := hl
  refine lv_iload_n hx hb dX10_at_0 rfl (lv_at hl 1 rfl) ?_
  refine lv_if_lt (tgt := 10) hx hb dX10_at_1 (by decide) (fun hc_1 => ?_) (fun hc_1 => ?_)
  · refine lv_iconst (v := 0) hx hb dX10_at_10 (by decide) ?_
    refine lv_goto (tgt := 17) hx hb dX10_at_11 (by decide) ?_
    exact W.iret (v := 0) hx hb hr (fun t ht hW => ⟨⟨0, ws, rfl, ⟨hT, (Or.inl ⟨hc_1, rfl⟩)⟩, by rw [ht]; exact hP, by rw [hAe]; exact hD⟩, hS.F ht⟩) hS.2.2 dX10_at_17
  · refine lv_iload_n hx hb dX10_at_4 rfl (lv_at hl 1 rfl) ?_
    refine lv_aload_n hx hb dX10_at_5 rfl (lv_at hl 0 rfl) ?_
    refine va_alen hx hb hK hP 0 0 rfl rfl (v := 10) (show Int32.ofNat 10 = (10 : Int32) from by decide) dX10_at_6 ?_
    refine lv_icmp_lt (tgt := 14) hx hb dX10_at_7 (by decide) (fun hc_2 => ?_) (fun hc_2 => ?_)
    · refine lv_aload_n hx hb dX10_at_14 rfl (lv_at hl 0 rfl) ?_
      refine lv_iload_n hx hb dX10_at_15 rfl (lv_at hl 1 rfl) ?_
      refine va_iald hx hb hK hP 0 0 rfl rfl (a_vin (k := 10) (by decide) hc_1 hc_2) dX10_at_16 ?_
      exact W.iret (v := (b p2.toNatClampNeg)) hx hb hr (fun t ht hW => ⟨⟨(b p2.toNatClampNeg), ws, rfl, ⟨hT, (Or.inr ⟨hc_1, (Or.inl ⟨hc_2, rfl⟩)⟩)⟩, by rw [ht]; exact hP, by rw [hAe]; exact hD⟩, hS.F ht⟩) hS.2.2 dX10_at_17
    · refine lv_iconst (v := 0) hx hb dX10_at_10 (by decide) ?_
      refine lv_goto (tgt := 17) hx hb dX10_at_11 (by decide) ?_
      exact W.iret (v := 0) hx hb hr (fun t ht hW => ⟨⟨0, ws, rfl, ⟨hT, (Or.inr ⟨hc_1, (Or.inr ⟨hc_2, rfl⟩)⟩)⟩, by rw [ht]; exact hP, by rw [hAe]; exact hD⟩, hS.F ht⟩) hS.2.2 dX10_at_17
def a_X10_at_11 (b : Nat → Int32) (p2 : Int32) (r : Int32) : Prop := ((p2 < (0 : Int32) ∧ (r = 0)) ∨ (¬ p2 < (0 : Int32) ∧ ((p2 < (11 : Int32) ∧ (r = (b p2.toNatClampNeg))) ∨ (¬ p2 < (11 : Int32) ∧ (r = 0)))))
set_option maxRecDepth 100000 in
set_option maxHeartbeats 4000000 in
theorem r_X10_at_11 (l : Launch) (D : va_G) (ct : Nat → ClassId) (S : ty_S) (ws : va_W) (ph : va_W → Prop) (xx : Nat → Nat → Nat → Prop) (p1 : Nat) (b : Nat → Int32) (p2 : Int32) (sz : Nat) (hT : ty_V ct S ph ws) (hph : ty_C ph xx) (hy1 : ty_y1 xx) : Met l yX10_at (ws_ yX10_at cX10_at 2 (some .int)) ({ frames := 0, cells := 0, slots := 0, locals := 0 } : Room) (va_Pc [.ref p1, .int p2] (cmP D ct sz ([(rf_RW ct 0 p1 11 b)] ++ ws))) (va_Qi (fun (r : Int32) (u9 : va_W) => ty_V ct S ph u9 ∧ (a_X10_at_11 b p2 r)) (cmB D ([(rf_RW ct 0 p1 11 b)] ++ ws) sz (fun (u9 : va_W) => ([(rf_RW ct 0 p1 11 b)] ++ u9))) (va_A ([(rf_RW ct 0 p1 11 b)] ++ ws) sz)) 0 0 (va_A ([(rf_RW ct 0 p1 11 b)] ++ ws) sz) := by
  refine Met.ofW (cc := cX10_at) (maxL := 2) (ret := (some .int)) (by decide) rfl ?_
  intro p e s m args below meth c s₁ B hml hv
  obtain ⟨rfl, hsz, hP, hK, hD0, hX⟩ := hv
  have hx := B.exec
  have hb := B.bytes
  have hr := B.returns
  have hts := ws_all (atoms_spec (ws := ws_ yX10_at cX10_at 2 (some .int)) B.pre)
  have hown : s.vm.findClass RX10 = some m.cls := findClass_of_methodNamed B.named
  have hlocks := B.notSynchronized
  subst hsz
  have hD := hD0.self (sz := s.heap.size)
  generalize hAe : va_A ([(rf_RW ct 0 p1 11 b)] ++ ws) s.heap.size = A at hD hX ⊢
  have hA : ∀ q : Nat, s.heap.size ≤ q → A q := fun q h => by rw [← hAe]; exact Or.inr h
  have hS : va_S A s.heap s.heap [] := va_S.rf
  have hl := lv_entry ([.ref p1, .int p2]) (n := 2) (Nat.le_of_ble_eq_true rfl)
  rw [lg_entry_eq]
  generalize (lg_sl ([.ref p1, .int p2]) ++ List.replicate (2 - (lg_sl ([.ref p1, .int p2])).length) Slot.unset).toArray = ls at hl ⊢
  have hl : lv_has ls 2 [(0, .ref p1), (1, .int p2)] := hl
  refine lv_iload_n hx hb dX10_at_0 rfl (lv_at hl 1 rfl) ?_
  refine lv_if_lt (tgt := 10) hx hb dX10_at_1 (by decide) (fun hc_1 => ?_) (fun hc_1 => ?_)
  · refine lv_iconst (v := 0) hx hb dX10_at_10 (by decide) ?_
    refine lv_goto (tgt := 17) hx hb dX10_at_11 (by decide) ?_
    exact W.iret (v := 0) hx hb hr (fun t ht hW => ⟨⟨0, ws, rfl, ⟨hT, (Or.inl ⟨hc_1, rfl⟩)⟩, by rw [ht]; exact hP, by rw [hAe]; exact hD⟩, hS.F ht⟩) hS.2.2 dX10_at_17
  · refine lv_iload_n hx hb dX10_at_4 rfl (lv_at hl 1 rfl) ?_
    refine lv_aload_n hx hb dX10_at_5 rfl (lv_at hl 0 rfl) ?_
    refine va_alen hx hb hK hP 0 0 rfl rfl (v := 11) (show Int32.ofNat 11 = (11 : Int32) from by decide) dX10_at_6 ?_
    refine lv_icmp_lt (tgt := 14) hx hb dX10_at_7 (by decide) (fun hc_2 => ?_) (fun hc_2 => ?_)
    · refine lv_aload_n hx hb dX10_at_14 rfl (lv_at hl 0 rfl) ?_
      refine lv_iload_n hx hb dX10_at_15 rfl (lv_at hl 1 rfl) ?_
      refine va_iald hx hb hK hP 0 0 rfl rfl (a_vin (k := 11) (by decide) hc_1 hc_2) dX10_at_16 ?_
      exact W.iret (v := (b p2.toNatClampNeg)) hx hb hr (fun t ht hW => ⟨⟨(b p2.toNatClampNeg), ws, rfl, ⟨hT, (Or.inr ⟨hc_1, (Or.inl ⟨hc_2, rfl⟩)⟩)⟩, by rw [ht]; exact hP, by rw [hAe]; exact hD⟩, hS.F ht⟩) hS.2.2 dX10_at_17
    · refine lv_iconst (v := 0) hx hb dX10_at_10 (by decide) ?_
      refine lv_goto (tgt := 17) hx hb dX10_at_11 (by decide) ?_
      exact W.iret (v := 0) hx hb hr (fun t ht hW => ⟨⟨0, ws, rfl, ⟨hT, (Or.inr ⟨hc_1, (Or.inr ⟨hc_2, rfl⟩)⟩)⟩, by rw [ht]; exact hP, by rw [hAe]; exact hD⟩, hS.F ht⟩) hS.2.2 dX10_at_17
def a_X10_at_12 (b : Nat → Int32) (p2 : Int32) (r : Int32) : Prop := ((p2 < (0 : Int32) ∧ (r = 0)) ∨ (¬ p2 < (0 : Int32) ∧ ((p2 < (12 : Int32) ∧ (r = (b p2.toNatClampNeg))) ∨ (¬ p2 < (12 : Int32) ∧ (r = 0)))))
set_option maxRecDepth 100000 in
set_option maxHeartbeats 4000000 in
theorem r_X10_at_12 (l : Launch) (D : va_G) (ct : Nat → ClassId) (S : ty_S) (ws : va_W) (ph : va_W → Prop) (xx : Nat → Nat → Nat → Prop) (p1 : Nat) (b : Nat → Int32) (p2 : Int32) (sz : Nat) (hT : ty_V ct S ph ws) (hph : ty_C ph xx) (hy1 : ty_y1 xx) : Met l yX10_at (ws_ yX10_at cX10_at 2 (some .int)) ({ frames := 0, cells := 0, slots := 0, locals := 0 } : Room) (va_Pc [.ref p1, .int p2] (cmP D ct sz ([(rf_RW ct 0 p1 12 b)] ++ ws))) (va_Qi (fun (r : Int32) (u9 : va_W) => ty_V ct S ph u9 ∧ (a_X10_at_12 b p2 r)) (cmB D ([(rf_RW ct 0 p1 12 b)] ++ ws) sz (fun (u9 : va_W) => ([(rf_RW ct 0 p1 12 b)] ++ u9))) (va_A ([(rf_RW ct 0 p1 12 b)] ++ ws) sz)) 0 0 (va_A ([(rf_RW ct 0 p1 12 b)] ++ ws) sz) := by
  refine Met.ofW (cc := cX10_at) (maxL := 2) (ret := (some .int)) (by decide) rfl ?_
  intro p e s m args below meth c s₁ B hml hv
  obtain ⟨rfl, hsz, hP, hK, hD0, hX⟩ := hv
  have hx := B.exec
  have hb := B.bytes
  have hr := B.returns
  have hts := ws_all (atoms_spec (ws := ws_ yX10_at cX10_at 2 (some .int)) B.pre)
  have hown : s.vm.findClass RX10 = some m.cls := findClass_of_methodNamed B.named
  have hlocks := B.notSynchronized
  subst hsz
  have hD := hD0.self (sz := s.heap.size)
  generalize hAe : va_A ([(rf_RW ct 0 p1 12 b)] ++ ws) s.heap.size = A at hD hX ⊢
  have hA : ∀ q : Nat, s.heap.size ≤ q → A q := fun q h => by rw [← hAe]; exact Or.inr h
  have hS : va_S A s.heap s.heap [] := va_S.rf
  have hl := lv_entry ([.ref p1, .int p2]) (n := 2) (Nat.le_of_ble_eq_true rfl)
  rw [lg_entry_eq]
  generalize (lg_sl ([.ref p1, .int p2]) ++ List.replicate (2 - (lg_sl ([.ref p1, .int p2])).length) Slot.unset).toArray = ls at hl ⊢
  have hl : lv_has ls 2 [(0, .ref p1), (1, .int p2)] := hl
  refine lv_iload_n hx hb dX10_at_0 rfl (lv_at hl 1 rfl) ?_
  refine lv_if_lt (tgt := 10) hx hb dX10_at_1 (by decide) (fun hc_1 => ?_) (fun hc_1 => ?_)
  · refine lv_iconst (v := 0) hx hb dX10_at_10 (by decide) ?_
    refine lv_goto (tgt := 17) hx hb dX10_at_11 (by decide) ?_
    exact W.iret (v := 0) hx hb hr (fun t ht hW => ⟨⟨0, ws, rfl, ⟨hT, (Or.inl ⟨hc_1, rfl⟩)⟩, by rw [ht]; exact hP, by rw [hAe]; exact hD⟩, hS.F ht⟩) hS.2.2 dX10_at_17
  · refine lv_iload_n hx hb dX10_at_4 rfl (lv_at hl 1 rfl) ?_
    refine lv_aload_n hx hb dX10_at_5 rfl (lv_at hl 0 rfl) ?_
    refine va_alen hx hb hK hP 0 0 rfl rfl (v := 12) (show Int32.ofNat 12 = (12 : Int32) from by decide) dX10_at_6 ?_
    refine lv_icmp_lt (tgt := 14) hx hb dX10_at_7 (by decide) (fun hc_2 => ?_) (fun hc_2 => ?_)
    · refine lv_aload_n hx hb dX10_at_14 rfl (lv_at hl 0 rfl) ?_
      refine lv_iload_n hx hb dX10_at_15 rfl (lv_at hl 1 rfl) ?_
      refine va_iald hx hb hK hP 0 0 rfl rfl (a_vin (k := 12) (by decide) hc_1 hc_2) dX10_at_16 ?_
      exact W.iret (v := (b p2.toNatClampNeg)) hx hb hr (fun t ht hW => ⟨⟨(b p2.toNatClampNeg), ws, rfl, ⟨hT, (Or.inr ⟨hc_1, (Or.inl ⟨hc_2, rfl⟩)⟩)⟩, by rw [ht]; exact hP, by rw [hAe]; exact hD⟩, hS.F ht⟩) hS.2.2 dX10_at_17
    · refine lv_iconst (v := 0) hx hb dX10_at_10 (by decide) ?_
      refine lv_goto (tgt := 17) hx hb dX10_at_11 (by decide) ?_
      exact W.iret (v := 0) hx hb hr (fun t ht hW => ⟨⟨0, ws, rfl, ⟨hT, (Or.inr ⟨hc_1, (Or.inr ⟨hc_2, rfl⟩)⟩)⟩, by rw [ht]; exact hP, by rw [hAe]; exact hD⟩, hS.F ht⟩) hS.2.2 dX10_at_17
def a_X10_at_44 (b : Nat → Int32) (p2 : Int32) (r : Int32) : Prop := ((p2 < (0 : Int32) ∧ (r = 0)) ∨ (¬ p2 < (0 : Int32) ∧ ((p2 < (44 : Int32) ∧ (r = (b p2.toNatClampNeg))) ∨ (¬ p2 < (44 : Int32) ∧ (r = 0)))))
set_option maxRecDepth 100000 in
set_option maxHeartbeats 4000000 in
theorem r_X10_at_44 (l : Launch) (D : va_G) (ct : Nat → ClassId) (S : ty_S) (ws : va_W) (ph : va_W → Prop) (xx : Nat → Nat → Nat → Prop) (p1 : Nat) (b : Nat → Int32) (p2 : Int32) (sz : Nat) (hT : ty_V ct S ph ws) (hph : ty_C ph xx) (hy1 : ty_y1 xx) : Met l yX10_at (ws_ yX10_at cX10_at 2 (some .int)) ({ frames := 0, cells := 0, slots := 0, locals := 0 } : Room) (va_Pc [.ref p1, .int p2] (cmP D ct sz ([(rf_RW ct 0 p1 44 b)] ++ ws))) (va_Qi (fun (r : Int32) (u9 : va_W) => ty_V ct S ph u9 ∧ (a_X10_at_44 b p2 r)) (cmB D ([(rf_RW ct 0 p1 44 b)] ++ ws) sz (fun (u9 : va_W) => ([(rf_RW ct 0 p1 44 b)] ++ u9))) (va_A ([(rf_RW ct 0 p1 44 b)] ++ ws) sz)) 0 0 (va_A ([(rf_RW ct 0 p1 44 b)] ++ ws) sz) := by
  refine Met.ofW (cc := cX10_at) (maxL := 2) (ret := (some .int)) (by decide) rfl ?_
  intro p e s m args below meth c s₁ B hml hv
  obtain ⟨rfl, hsz, hP, hK, hD0, hX⟩ := hv
  have hx := B.exec
  have hb := B.bytes
  have hr := B.returns
  have hts := ws_all (atoms_spec (ws := ws_ yX10_at cX10_at 2 (some .int)) B.pre)
  have hown : s.vm.findClass RX10 = some m.cls := findClass_of_methodNamed B.named
  have hlocks := B.notSynchronized
  subst hsz
  have hD := hD0.self (sz := s.heap.size)
  generalize hAe : va_A ([(rf_RW ct 0 p1 44 b)] ++ ws) s.heap.size = A at hD hX ⊢
  have hA : ∀ q : Nat, s.heap.size ≤ q → A q := fun q h => by rw [← hAe]; exact Or.inr h
  have hS : va_S A s.heap s.heap [] := va_S.rf
  have hl := lv_entry ([.ref p1, .int p2]) (n := 2) (Nat.le_of_ble_eq_true rfl)
  rw [lg_entry_eq]
  generalize (lg_sl ([.ref p1, .int p2]) ++ List.replicate (2 - (lg_sl ([.ref p1, .int p2])).length) Slot.unset).toArray = ls at hl ⊢
  have hl : lv_has ls 2 [(0, .ref p1), (1, .int p2)] := hl
  refine lv_iload_n hx hb dX10_at_0 rfl (lv_at hl 1 rfl) ?_
  refine lv_if_lt (tgt := 10) hx hb dX10_at_1 (by decide) (fun hc_1 => ?_) (fun hc_1 => ?_)
  · refine lv_iconst (v := 0) hx hb dX10_at_10 (by decide) ?_
    refine lv_goto (tgt := 17) hx hb dX10_at_11 (by decide) ?_
    exact W.iret (v := 0) hx hb hr (fun t ht hW => ⟨⟨0, ws, rfl, ⟨hT, (Or.inl ⟨hc_1, rfl⟩)⟩, by rw [ht]; exact hP, by rw [hAe]; exact hD⟩, hS.F ht⟩) hS.2.2 dX10_at_17
  · refine lv_iload_n hx hb dX10_at_4 rfl (lv_at hl 1 rfl) ?_
    refine lv_aload_n hx hb dX10_at_5 rfl (lv_at hl 0 rfl) ?_
    refine va_alen hx hb hK hP 0 0 rfl rfl (v := 44) (show Int32.ofNat 44 = (44 : Int32) from by decide) dX10_at_6 ?_
    refine lv_icmp_lt (tgt := 14) hx hb dX10_at_7 (by decide) (fun hc_2 => ?_) (fun hc_2 => ?_)
    · refine lv_aload_n hx hb dX10_at_14 rfl (lv_at hl 0 rfl) ?_
      refine lv_iload_n hx hb dX10_at_15 rfl (lv_at hl 1 rfl) ?_
      refine va_iald hx hb hK hP 0 0 rfl rfl (a_vin (k := 44) (by decide) hc_1 hc_2) dX10_at_16 ?_
      exact W.iret (v := (b p2.toNatClampNeg)) hx hb hr (fun t ht hW => ⟨⟨(b p2.toNatClampNeg), ws, rfl, ⟨hT, (Or.inr ⟨hc_1, (Or.inl ⟨hc_2, rfl⟩)⟩)⟩, by rw [ht]; exact hP, by rw [hAe]; exact hD⟩, hS.F ht⟩) hS.2.2 dX10_at_17
    · refine lv_iconst (v := 0) hx hb dX10_at_10 (by decide) ?_
      refine lv_goto (tgt := 17) hx hb dX10_at_11 (by decide) ?_
      exact W.iret (v := 0) hx hb hr (fun t ht hW => ⟨⟨0, ws, rfl, ⟨hT, (Or.inr ⟨hc_1, (Or.inr ⟨hc_2, rfl⟩)⟩)⟩, by rw [ht]; exact hP, by rw [hAe]; exact hD⟩, hS.F ht⟩) hS.2.2 dX10_at_17
def a_X10_at_48 (b : Nat → Int32) (p2 : Int32) (r : Int32) : Prop := ((p2 < (0 : Int32) ∧ (r = 0)) ∨ (¬ p2 < (0 : Int32) ∧ ((p2 < (48 : Int32) ∧ (r = (b p2.toNatClampNeg))) ∨ (¬ p2 < (48 : Int32) ∧ (r = 0)))))
set_option maxRecDepth 100000 in
set_option maxHeartbeats 4000000 in
theorem r_X10_at_48 (l : Launch) (D : va_G) (ct : Nat → ClassId) (S : ty_S) (ws : va_W) (ph : va_W → Prop) (xx : Nat → Nat → Nat → Prop) (p1 : Nat) (b : Nat → Int32) (p2 : Int32) (sz : Nat) (hT : ty_V ct S ph ws) (hph : ty_C ph xx) (hy1 : ty_y1 xx) : Met l yX10_at (ws_ yX10_at cX10_at 2 (some .int)) ({ frames := 0, cells := 0, slots := 0, locals := 0 } : Room) (va_Pc [.ref p1, .int p2] (cmP D ct sz ([(rf_RW ct 0 p1 48 b)] ++ ws))) (va_Qi (fun (r : Int32) (u9 : va_W) => ty_V ct S ph u9 ∧ (a_X10_at_48 b p2 r)) (cmB D ([(rf_RW ct 0 p1 48 b)] ++ ws) sz (fun (u9 : va_W) => ([(rf_RW ct 0 p1 48 b)] ++ u9))) (va_A ([(rf_RW ct 0 p1 48 b)] ++ ws) sz)) 0 0 (va_A ([(rf_RW ct 0 p1 48 b)] ++ ws) sz) := by
  refine Met.ofW (cc := cX10_at) (maxL := 2) (ret := (some .int)) (by decide) rfl ?_
  intro p e s m args below meth c s₁ B hml hv
  obtain ⟨rfl, hsz, hP, hK, hD0, hX⟩ := hv
  have hx := B.exec
  have hb := B.bytes
  have hr := B.returns
  have hts := ws_all (atoms_spec (ws := ws_ yX10_at cX10_at 2 (some .int)) B.pre)
  have hown : s.vm.findClass RX10 = some m.cls := findClass_of_methodNamed B.named
  have hlocks := B.notSynchronized
  subst hsz
  have hD := hD0.self (sz := s.heap.size)
  generalize hAe : va_A ([(rf_RW ct 0 p1 48 b)] ++ ws) s.heap.size = A at hD hX ⊢
  have hA : ∀ q : Nat, s.heap.size ≤ q → A q := fun q h => by rw [← hAe]; exact Or.inr h
  have hS : va_S A s.heap s.heap [] := va_S.rf
  have hl := lv_entry ([.ref p1, .int p2]) (n := 2) (Nat.le_of_ble_eq_true rfl)
  rw [lg_entry_eq]
  generalize (lg_sl ([.ref p1, .int p2]) ++ List.replicate (2 - (lg_sl ([.ref p1, .int p2])).length) Slot.unset).toArray = ls at hl ⊢
  have hl : lv_has ls 2 [(0, .ref p1), (1, .int p2)] := hl
  refine lv_iload_n hx hb dX10_at_0 rfl (lv_at hl 1 rfl) ?_
  refine lv_if_lt (tgt := 10) hx hb dX10_at_1 (by decide) (fun hc_1 => ?_) (fun hc_1 => ?_)
  · refine lv_iconst (v := 0) hx hb dX10_at_10 (by decide) ?_
    refine lv_goto (tgt := 17) hx hb dX10_at_11 (by decide) ?_
    exact W.iret (v := 0) hx hb hr (fun t ht hW => ⟨⟨0, ws, rfl, ⟨hT, (Or.inl ⟨hc_1, rfl⟩)⟩, by rw [ht]; exact hP, by rw [hAe]; exact hD⟩, hS.F ht⟩) hS.2.2 dX10_at_17
  · refine lv_iload_n hx hb dX10_at_4 rfl (lv_at hl 1 rfl) ?_
    refine lv_aload_n hx hb dX10_at_5 rfl (lv_at hl 0 rfl) ?_
    refine va_alen hx hb hK hP 0 0 rfl rfl (v := 48) (show Int32.ofNat 48 = (48 : Int32) from by decide) dX10_at_6 ?_
    refine lv_icmp_lt (tgt := 14) hx hb dX10_at_7 (by decide) (fun hc_2 => ?_) (fun hc_2 => ?_)
    · refine lv_aload_n hx hb dX10_at_14 rfl (lv_at hl 0 rfl) ?_
      refine lv_iload_n hx hb dX10_at_15 rfl (lv_at hl 1 rfl) ?_
      refine va_iald hx hb hK hP 0 0 rfl rfl (a_vin (k := 48) (by decide) hc_1 hc_2) dX10_at_16 ?_
      exact W.iret (v := (b p2.toNatClampNeg)) hx hb hr (fun t ht hW => ⟨⟨(b p2.toNatClampNeg), ws, rfl, ⟨hT, (Or.inr ⟨hc_1, (Or.inl ⟨hc_2, rfl⟩)⟩)⟩, by rw [ht]; exact hP, by rw [hAe]; exact hD⟩, hS.F ht⟩) hS.2.2 dX10_at_17
    · refine lv_iconst (v := 0) hx hb dX10_at_10 (by decide) ?_
      refine lv_goto (tgt := 17) hx hb dX10_at_11 (by decide) ?_
      exact W.iret (v := 0) hx hb hr (fun t ht hW => ⟨⟨0, ws, rfl, ⟨hT, (Or.inr ⟨hc_1, (Or.inr ⟨hc_2, rfl⟩)⟩)⟩, by rw [ht]; exact hP, by rw [hAe]; exact hD⟩, hS.F ht⟩) hS.2.2 dX10_at_17
def a_X10_at_150 (b : Nat → Int32) (p2 : Int32) (r : Int32) : Prop := ((p2 < (0 : Int32) ∧ (r = 0)) ∨ (¬ p2 < (0 : Int32) ∧ ((p2 < (150 : Int32) ∧ (r = (b p2.toNatClampNeg))) ∨ (¬ p2 < (150 : Int32) ∧ (r = 0)))))
set_option maxRecDepth 100000 in
set_option maxHeartbeats 4000000 in
theorem r_X10_at_150 (l : Launch) (D : va_G) (ct : Nat → ClassId) (S : ty_S) (ws : va_W) (ph : va_W → Prop) (xx : Nat → Nat → Nat → Prop) (p1 : Nat) (b : Nat → Int32) (p2 : Int32) (sz : Nat) (hT : ty_V ct S ph ws) (hph : ty_C ph xx) (hy1 : ty_y1 xx) : Met l yX10_at (ws_ yX10_at cX10_at 2 (some .int)) ({ frames := 0, cells := 0, slots := 0, locals := 0 } : Room) (va_Pc [.ref p1, .int p2] (cmP D ct sz ([(rf_RW ct 0 p1 150 b)] ++ ws))) (va_Qi (fun (r : Int32) (u9 : va_W) => ty_V ct S ph u9 ∧ (a_X10_at_150 b p2 r)) (cmB D ([(rf_RW ct 0 p1 150 b)] ++ ws) sz (fun (u9 : va_W) => ([(rf_RW ct 0 p1 150 b)] ++ u9))) (va_A ([(rf_RW ct 0 p1 150 b)] ++ ws) sz)) 0 0 (va_A ([(rf_RW ct 0 p1 150 b)] ++ ws) sz) := by
  refine Met.ofW (cc := cX10_at) (maxL := 2) (ret := (some .int)) (by decide) rfl ?_
  intro p e s m args below meth c s₁ B hml hv
  obtain ⟨rfl, hsz, hP, hK, hD0, hX⟩ := hv
  have hx := B.exec
  have hb := B.bytes
  have hr := B.returns
  have hts := ws_all (atoms_spec (ws := ws_ yX10_at cX10_at 2 (some .int)) B.pre)
  have hown : s.vm.findClass RX10 = some m.cls := findClass_of_methodNamed B.named
  have hlocks := B.notSynchronized
  subst hsz
  have hD := hD0.self (sz := s.heap.size)
  generalize hAe : va_A ([(rf_RW ct 0 p1 150 b)] ++ ws) s.heap.size = A at hD hX ⊢
  have hA : ∀ q : Nat, s.heap.size ≤ q → A q := fun q h => by rw [← hAe]; exact Or.inr h
  have hS : va_S A s.heap s.heap [] := va_S.rf
  have hl := lv_entry ([.ref p1, .int p2]) (n := 2) (Nat.le_of_ble_eq_true rfl)
  rw [lg_entry_eq]
  generalize (lg_sl ([.ref p1, .int p2]) ++ List.replicate (2 - (lg_sl ([.ref p1, .int p2])).length) Slot.unset).toArray = ls at hl ⊢
  have hl : lv_has ls 2 [(0, .ref p1), (1, .int p2)] := hl
  refine lv_iload_n hx hb dX10_at_0 rfl (lv_at hl 1 rfl) ?_
  refine lv_if_lt (tgt := 10) hx hb dX10_at_1 (by decide) (fun hc_1 => ?_) (fun hc_1 => ?_)
  · refine lv_iconst (v := 0) hx hb dX10_at_10 (by decide) ?_
    refine lv_goto (tgt := 17) hx hb dX10_at_11 (by decide) ?_
    exact W.iret (v := 0) hx hb hr (fun t ht hW => ⟨⟨0, ws, rfl, ⟨hT, (Or.inl ⟨hc_1, rfl⟩)⟩, by rw [ht]; exact hP, by rw [hAe]; exact hD⟩, hS.F ht⟩) hS.2.2 dX10_at_17
  · refine lv_iload_n hx hb dX10_at_4 rfl (lv_at hl 1 rfl) ?_
    refine lv_aload_n hx hb dX10_at_5 rfl (lv_at hl 0 rfl) ?_
    refine va_alen hx hb hK hP 0 0 rfl rfl (v := 150) (show Int32.ofNat 150 = (150 : Int32) from by decide) dX10_at_6 ?_
    refine lv_icmp_lt (tgt := 14) hx hb dX10_at_7 (by decide) (fun hc_2 => ?_) (fun hc_2 => ?_)
    · refine lv_aload_n hx hb dX10_at_14 rfl (lv_at hl 0 rfl) ?_
      refine lv_iload_n hx hb dX10_at_15 rfl (lv_at hl 1 rfl) ?_
      refine va_iald hx hb hK hP 0 0 rfl rfl (a_vin (k := 150) (by decide) hc_1 hc_2) dX10_at_16 ?_
      exact W.iret (v := (b p2.toNatClampNeg)) hx hb hr (fun t ht hW => ⟨⟨(b p2.toNatClampNeg), ws, rfl, ⟨hT, (Or.inr ⟨hc_1, (Or.inl ⟨hc_2, rfl⟩)⟩)⟩, by rw [ht]; exact hP, by rw [hAe]; exact hD⟩, hS.F ht⟩) hS.2.2 dX10_at_17
    · refine lv_iconst (v := 0) hx hb dX10_at_10 (by decide) ?_
      refine lv_goto (tgt := 17) hx hb dX10_at_11 (by decide) ?_
      exact W.iret (v := 0) hx hb hr (fun t ht hW => ⟨⟨0, ws, rfl, ⟨hT, (Or.inr ⟨hc_1, (Or.inr ⟨hc_2, rfl⟩)⟩)⟩, by rw [ht]; exact hP, by rw [hAe]; exact hD⟩, hS.F ht⟩) hS.2.2 dX10_at_17
def a_X10_at_240 (b : Nat → Int32) (p2 : Int32) (r : Int32) : Prop := ((p2 < (0 : Int32) ∧ (r = 0)) ∨ (¬ p2 < (0 : Int32) ∧ ((p2 < (240 : Int32) ∧ (r = (b p2.toNatClampNeg))) ∨ (¬ p2 < (240 : Int32) ∧ (r = 0)))))
set_option maxRecDepth 100000 in
set_option maxHeartbeats 4000000 in
theorem r_X10_at_240 (l : Launch) (D : va_G) (ct : Nat → ClassId) (S : ty_S) (ws : va_W) (ph : va_W → Prop) (xx : Nat → Nat → Nat → Prop) (p1 : Nat) (b : Nat → Int32) (p2 : Int32) (sz : Nat) (hT : ty_V ct S ph ws) (hph : ty_C ph xx) (hy1 : ty_y1 xx) : Met l yX10_at (ws_ yX10_at cX10_at 2 (some .int)) ({ frames := 0, cells := 0, slots := 0, locals := 0 } : Room) (va_Pc [.ref p1, .int p2] (cmP D ct sz ([(rf_RW ct 0 p1 240 b)] ++ ws))) (va_Qi (fun (r : Int32) (u9 : va_W) => ty_V ct S ph u9 ∧ (a_X10_at_240 b p2 r)) (cmB D ([(rf_RW ct 0 p1 240 b)] ++ ws) sz (fun (u9 : va_W) => ([(rf_RW ct 0 p1 240 b)] ++ u9))) (va_A ([(rf_RW ct 0 p1 240 b)] ++ ws) sz)) 0 0 (va_A ([(rf_RW ct 0 p1 240 b)] ++ ws) sz) := by
  refine Met.ofW (cc := cX10_at) (maxL := 2) (ret := (some .int)) (by decide) rfl ?_
  intro p e s m args below meth c s₁ B hml hv
  obtain ⟨rfl, hsz, hP, hK, hD0, hX⟩ := hv
  have hx := B.exec
  have hb := B.bytes
  have hr := B.returns
  have hts := ws_all (atoms_spec (ws := ws_ yX10_at cX10_at 2 (some .int)) B.pre)
  have hown : s.vm.findClass RX10 = some m.cls := findClass_of_methodNamed B.named
  have hlocks := B.notSynchronized
  subst hsz
  have hD := hD0.self (sz := s.heap.size)
  generalize hAe : va_A ([(rf_RW ct 0 p1 240 b)] ++ ws) s.heap.size = A at hD hX ⊢
  have hA : ∀ q : Nat, s.heap.size ≤ q → A q := fun q h => by rw [← hAe]; exact Or.inr h
  have hS : va_S A s.heap s.heap [] := va_S.rf
  have hl := lv_entry ([.ref p1, .int p2]) (n := 2) (Nat.le_of_ble_eq_true rfl)
  rw [lg_entry_eq]
  generalize (lg_sl ([.ref p1, .int p2]) ++ List.replicate (2 - (lg_sl ([.ref p1, .int p2])).length) Slot.unset).toArray = ls at hl ⊢
  have hl : lv_has ls 2 [(0, .ref p1), (1, .int p2)] := hl
  refine lv_iload_n hx hb dX10_at_0 rfl (lv_at hl 1 rfl) ?_
  refine lv_if_lt (tgt := 10) hx hb dX10_at_1 (by decide) (fun hc_1 => ?_) (fun hc_1 => ?_)
  · refine lv_iconst (v := 0) hx hb dX10_at_10 (by decide) ?_
    refine lv_goto (tgt := 17) hx hb dX10_at_11 (by decide) ?_
    exact W.iret (v := 0) hx hb hr (fun t ht hW => ⟨⟨0, ws, rfl, ⟨hT, (Or.inl ⟨hc_1, rfl⟩)⟩, by rw [ht]; exact hP, by rw [hAe]; exact hD⟩, hS.F ht⟩) hS.2.2 dX10_at_17
  · refine lv_iload_n hx hb dX10_at_4 rfl (lv_at hl 1 rfl) ?_
    refine lv_aload_n hx hb dX10_at_5 rfl (lv_at hl 0 rfl) ?_
    refine va_alen hx hb hK hP 0 0 rfl rfl (v := 240) (show Int32.ofNat 240 = (240 : Int32) from by decide) dX10_at_6 ?_
    refine lv_icmp_lt (tgt := 14) hx hb dX10_at_7 (by decide) (fun hc_2 => ?_) (fun hc_2 => ?_)
    · refine lv_aload_n hx hb dX10_at_14 rfl (lv_at hl 0 rfl) ?_
      refine lv_iload_n hx hb dX10_at_15 rfl (lv_at hl 1 rfl) ?_
      refine va_iald hx hb hK hP 0 0 rfl rfl (a_vin (k := 240) (by decide) hc_1 hc_2) dX10_at_16 ?_
      exact W.iret (v := (b p2.toNatClampNeg)) hx hb hr (fun t ht hW => ⟨⟨(b p2.toNatClampNeg), ws, rfl, ⟨hT, (Or.inr ⟨hc_1, (Or.inl ⟨hc_2, rfl⟩)⟩)⟩, by rw [ht]; exact hP, by rw [hAe]; exact hD⟩, hS.F ht⟩) hS.2.2 dX10_at_17
    · refine lv_iconst (v := 0) hx hb dX10_at_10 (by decide) ?_
      refine lv_goto (tgt := 17) hx hb dX10_at_11 (by decide) ?_
      exact W.iret (v := 0) hx hb hr (fun t ht hW => ⟨⟨0, ws, rfl, ⟨hT, (Or.inr ⟨hc_1, (Or.inr ⟨hc_2, rfl⟩)⟩)⟩, by rw [ht]; exact hP, by rw [hAe]; exact hD⟩, hS.F ht⟩) hS.2.2 dX10_at_17
def a_J6_compare_7cf53 (p1 : Int32) (p2 : Int32) (r : Int32) : Prop := ((p2 ≤ p1 ∧ ((¬ p1 = p2 ∧ (r = 1)) ∨ (p1 = p2 ∧ (r = 0)))) ∨ (¬ p2 ≤ p1 ∧ (r = (-1))))
set_option maxRecDepth 100000 in
set_option maxHeartbeats 4000000 in
theorem r_J6_compare_7cf53 (l : Launch) (D : va_G) (ct : Nat → ClassId) (S : ty_S) (ws : va_W) (ph : va_W → Prop) (xx : Nat → Nat → Nat → Prop) (p1 : Int32) (p2 : Int32) (sz : Nat) (hT : ty_V ct S ph ws) (hph : ty_C ph xx) (hy1 : ty_y1 xx) : Met l yJ6_compare_7cf53 (ws_ yJ6_compare_7cf53 cJ6_compare_7cf53 2 (some .int)) ({ frames := 0, cells := 0, slots := 0, locals := 0 } : Room) (va_Pc [.int p1, .int p2] (cmP D ct sz ([] ++ ws))) (va_Qi (fun (r : Int32) (u9 : va_W) => ty_V ct S ph u9 ∧ (a_J6_compare_7cf53 p1 p2 r)) (cmB D ([] ++ ws) sz (fun (u9 : va_W) => ([] ++ u9))) (va_A ([] ++ ws) sz)) 0 0 (va_A ([] ++ ws) sz) := by
  refine Met.ofW (cc := cJ6_compare_7cf53) (maxL := 2) (ret := (some .int)) (by decide) rfl ?_
  intro p e s m args below meth c s₁ B hml hv
  obtain ⟨rfl, hsz, hP, hK, hD0, hX⟩ := hv
  have hx := B.exec
  have hb := B.bytes
  have hr := B.returns
  have hts := ws_all (atoms_spec (ws := ws_ yJ6_compare_7cf53 cJ6_compare_7cf53 2 (some .int)) B.pre)
  have hown : s.vm.findClass RJ6 = some m.cls := findClass_of_methodNamed B.named
  have hlocks := B.notSynchronized
  subst hsz
  have hD := hD0.self (sz := s.heap.size)
  generalize hAe : va_A ([] ++ ws) s.heap.size = A at hD hX ⊢
  have hA : ∀ q : Nat, s.heap.size ≤ q → A q := fun q h => by rw [← hAe]; exact Or.inr h
  have hS : va_S A s.heap s.heap [] := va_S.rf
  have hl := lv_entry ([.int p1, .int p2]) (n := 2) (Nat.le_of_ble_eq_true rfl)
  rw [lg_entry_eq]
  generalize (lg_sl ([.int p1, .int p2]) ++ List.replicate (2 - (lg_sl ([.int p1, .int p2])).length) Slot.unset).toArray = ls at hl ⊢
  have hl : lv_has ls 2 [(0, .int p1), (1, .int p2)] := hl
  refine lv_iload_n hx hb dJ6_compare_7cf53_0 rfl (lv_at hl 0 rfl) ?_
  refine lv_iload_n hx hb dJ6_compare_7cf53_1 rfl (lv_at hl 1 rfl) ?_
  refine lv_icmp_ge (tgt := 9) hx hb dJ6_compare_7cf53_2 (by decide) (fun hc_1 => ?_) (fun hc_1 => ?_)
  · refine lv_iload_n hx hb dJ6_compare_7cf53_9 rfl (lv_at hl 0 rfl) ?_
    refine lv_iload_n hx hb dJ6_compare_7cf53_10 rfl (lv_at hl 1 rfl) ?_
    refine lv_icmp_ne (tgt := 18) hx hb dJ6_compare_7cf53_11 (by decide) (fun hc_2 => ?_) (fun hc_2 => ?_)
    · refine lv_iconst (v := 1) hx hb dJ6_compare_7cf53_18 (by decide) ?_
      exact W.iret (v := 1) hx hb hr (fun t ht hW => ⟨⟨1, ws, rfl, ⟨hT, (Or.inl ⟨hc_1, (Or.inl ⟨hc_2, rfl⟩)⟩)⟩, by rw [ht]; exact hP, by rw [hAe]; exact hD⟩, hS.F ht⟩) hS.2.2 dJ6_compare_7cf53_19
    · refine lv_iconst (v := 0) hx hb dJ6_compare_7cf53_14 (by decide) ?_
      refine lv_goto (tgt := 19) hx hb dJ6_compare_7cf53_15 (by decide) ?_
      exact W.iret (v := 0) hx hb hr (fun t ht hW => ⟨⟨0, ws, rfl, ⟨hT, (Or.inl ⟨hc_1, (Or.inr ⟨hc_2, rfl⟩)⟩)⟩, by rw [ht]; exact hP, by rw [hAe]; exact hD⟩, hS.F ht⟩) hS.2.2 dJ6_compare_7cf53_19
  · refine lv_iconst (v := (-1)) hx hb dJ6_compare_7cf53_5 (by decide) ?_
    refine lv_goto (tgt := 19) hx hb dJ6_compare_7cf53_6 (by decide) ?_
    exact W.iret (v := (-1)) hx hb hr (fun t ht hW => ⟨⟨(-1), ws, rfl, ⟨hT, (Or.inr ⟨hc_1, rfl⟩)⟩, by rw [ht]; exact hP, by rw [hAe]; exact hD⟩, hS.F ht⟩) hS.2.2 dJ6_compare_7cf53_19
def a_X0_polarize (pol : Int32) (tau : Int32) (pz : Int32) (p1 : Int32) (pz1 : Int32) : Prop := (∃ (r_1 : Int64), (a_X10_quotient ((((p1 * pol) / 1000) - pz).toInt64) tau.toInt64 r_1) ∧ ((¬ r_1.toInt32 = (0 : Int32) ∧ (pz1 = (pz + r_1.toInt32))) ∨ (r_1.toInt32 = (0 : Int32) ∧ (∃ (r_7 : Int32), (a_J6_compare_7cf53 ((p1 * pol) / 1000) pz r_7) ∧ (pz1 = (pz + r_7))))))
set_option maxRecDepth 100000 in
set_option maxHeartbeats 4000000 in
theorem r_X0_polarize (l : Launch) (D : va_G) (ct : Nat → ClassId) (S : ty_S) (ws : va_W) (ph : va_W → Prop) (xx : Nat → Nat → Nat → Prop) (cl : Nat) (cur : Nat) (pts : Int32) (nom : Int32) (ohm : Int32) (pol : Int32) (tau : Int32) (chg : Int32) (lft : Int32) (cap : Int32) (thr : Int32) (pz : Int32) (tmp : Int32) (het : Int32) (cun : Int32) (vol : Int32) (bk : Nat) (p1 : Int32) (sz : Nat) (hT : ty_V ct S ph ws) (hph : ty_C ph xx) (hy1 : ty_y1 xx) : Met l yX0_polarize (ws_ yX0_polarize cX0_polarize 4 none) ({ frames := 1, cells := 0, slots := 0, locals := 23 } : Room) (va_Pc [.ref cl, .int p1] (cmP D ct sz ([(fn_0 cl cur pts nom ohm pol tau chg lft cap thr pz tmp het cun vol bk)] ++ ws))) (va_Qv (fun (u : va_W × Int32) => match u with | (u9, pz1) => ty_V ct S ph u9 ∧ (a_X0_polarize pol tau pz p1 pz1)) (cmB D ([(fn_0 cl cur pts nom ohm pol tau chg lft cap thr pz tmp het cun vol bk)] ++ ws) sz (fun (u : va_W × Int32) => match u with | (u9, pz1) => ([(fn_0 cl cur pts nom ohm pol tau chg lft cap thr pz1 tmp het cun vol bk)] ++ u9))) (va_A ([(fn_0 cl cur pts nom ohm pol tau chg lft cap thr pz tmp het cun vol bk)] ++ ws) sz)) 0 0 (va_A ([(fn_0 cl cur pts nom ohm pol tau chg lft cap thr pz tmp het cun vol bk)] ++ ws) sz) := by
  refine Met.ofW (cc := cX0_polarize) (maxL := 4) (ret := none) (by decide) rfl ?_
  intro p e s m args below meth c s₁ B hml hv
  obtain ⟨rfl, hsz, hP, hK, hD0, hX⟩ := hv
  have hx := B.exec
  have hb := B.bytes
  have hr := B.returns
  have hts := ws_all (atoms_spec (ws := ws_ yX0_polarize cX0_polarize 4 none) B.pre)
  have hown : s.vm.findClass RX0 = some m.cls := findClass_of_methodNamed B.named
  have hlocks := B.notSynchronized
  subst hsz
  have hD := hD0.self (sz := s.heap.size)
  generalize hAe : va_A ([(fn_0 cl cur pts nom ohm pol tau chg lft cap thr pz tmp het cun vol bk)] ++ ws) s.heap.size = A at hD hX ⊢
  have hA : ∀ q : Nat, s.heap.size ≤ q → A q := fun q h => by rw [← hAe]; exact Or.inr h
  have hS : va_S A s.heap s.heap [] := va_S.rf
  have hl := lv_entry ([.ref cl, .int p1]) (n := 4) (Nat.le_of_ble_eq_true rfl)
  rw [lg_entry_eq]
  generalize (lg_sl ([.ref cl, .int p1]) ++ List.replicate (4 - (lg_sl ([.ref cl, .int p1])).length) Slot.unset).toArray = ls at hl ⊢
  have hl : lv_has ls 4 [(0, .ref cl), (1, .int p1)] := hl
  refine lv_iload_n hx hb dX0_polarize_0 rfl (lv_at hl 1 rfl) ?_
  refine lv_aload_n hx hb dX0_polarize_1 rfl (lv_at hl 0 rfl) ?_
  refine va_get (v := .int pol) (D := D) (ci := 0) (C := RX0) (T := TX0) (N := 16) hx hb hts in_X0 hown hK hP 0 rfl rfl 4 (by decide) (hts _ kl_RX0_129) (fun _ h9 => h9) rfl dX0_polarize_2 ?_
  refine lv_imul hx hb dX0_polarize_5 ?_
  refine lv_sipush (v := 1000) hx hb dX0_polarize_6 (by decide) ?_
  refine lv_idiv hx hb dX0_polarize_9 (by decide) ?_
  refine lv_istore_n (lv' := [(2, .int ((p1 * pol) / 1000)), (0, .ref cl), (1, .int p1)]) hx hb dX0_polarize_10 rfl hl (by decide) rfl (fun ls hl => ?_)
  refine lv_iload_n hx hb dX0_polarize_11 rfl (lv_at hl 0 rfl) ?_
  refine lv_aload_n hx hb dX0_polarize_12 rfl (lv_at hl 1 rfl) ?_
  refine va_get (v := .int pz) (D := D) (ci := 0) (C := RX0) (T := TX0) (N := 16) hx hb hts in_X0 hown hK hP 0 rfl rfl 10 (by decide) (hts _ kl_RX0_57) (fun _ h9 => h9) rfl dX0_polarize_13 ?_
  refine lv_isub hx hb dX0_polarize_16 ?_
  refine lv_i2l hx hb dX0_polarize_17 rfl ?_
  refine lv_aload_n hx hb dX0_polarize_18 rfl (lv_at hl 1 rfl) ?_
  refine va_get (v := .int tau) (D := D) (ci := 0) (C := RX0) (T := TX0) (N := 16) hx hb hts in_X0 hown hK hP 0 rfl rfl 5 (by decide) (hts _ kl_RX0_132) (fun _ h9 => h9) rfl dX0_polarize_19 ?_
  refine lv_i2l hx hb dX0_polarize_22 rfl ?_
  obtain ⟨hP, hD⟩ := ty_ipPD (E1 := [(fn_0 cl cur pts nom ohm pol tau chg lft cap thr pz tmp het cun vol bk)]) (E2 := []) hP hD rfl ty_mv2
  refine ty_Kl hP hD hS hA (va_runSN (As := [.long ((((p1 * pol) / 1000) - pz).toInt64), .long tau.toInt64]) (rest := []) ⟨hx, hb, hml, hown, hts⟩ (r_X10_quotient l D ct (fun _ => none) [] (fun _ => True) (fun _ _ _ => True) ((((p1 * pol) / 1000) - pz).toInt64) tau.toInt64 _ ty_V0 ty_C0 ty_y10) (cm_SN 2 hts kc_X10_quotient ki_RX10 kl_RX0_75 ks_X10_quotient kd_X10_quotient ⟨Nat.le_of_ble_eq_true rfl, Nat.le_of_ble_eq_true rfl⟩) (ty_preS hP hK hD hS hA hX) rfl rfl hl.1 rfl (lv_room (Nat.le_of_ble_eq_true rfl)) dX0_polarize_23 ⟨Nat.le_of_ble_eq_true rfl, Nat.le_of_ble_eq_true rfl⟩) (fun r_1 u H locs hw_2 hP hD hS => ?_)
  obtain ⟨ws_3, rfl⟩ : ∃ z, z = u := ⟨_, rfl⟩
  obtain ⟨hT9_4, hp_5⟩ := hw_2
  have hp_5 : (a_X10_quotient ((((p1 * pol) / 1000) - pz).toInt64) tau.toInt64 r_1) := hp_5
  obtain ⟨hP, hD⟩ := ty_bkPD (E := [(fn_0 cl cur pts nom ohm pol tau chg lft cap thr pz tmp het cun vol bk)]) hP hD rfl
  refine lv_l2i hx hb dX0_polarize_26 rfl ?_
  refine lv_istore_n (lv' := [(3, .int r_1.toInt32), (2, .int ((p1 * pol) / 1000)), (0, .ref cl), (1, .int p1)]) hx hb dX0_polarize_27 rfl hl (by decide) rfl (fun ls hl => ?_)
  refine lv_iload_n hx hb dX0_polarize_28 rfl (lv_at hl 0 rfl) ?_
  refine lv_if_ne (tgt := 41) hx hb dX0_polarize_29 (by decide) (fun hc_6 => ?_) (fun hc_6 => ?_)
  · refine lv_aload_n hx hb dX0_polarize_41 rfl (lv_at hl 2 rfl) ?_
    refine lv_dup hx hb dX0_polarize_42 rfl ?_
    refine va_get (v := .int pz) (D := D) (ci := 0) (C := RX0) (T := TX0) (N := 16) hx hb hts in_X0 hown hK hP 0 rfl rfl 10 (by decide) (hts _ kl_RX0_57) (fun _ h9 => h9) rfl dX0_polarize_43 ?_
    refine lv_iload_n hx hb dX0_polarize_46 rfl (lv_at hl 0 rfl) ?_
    refine lv_iadd hx hb dX0_polarize_47 ?_
    refine va_put (v := .int (pz + r_1.toInt32)) (ty := .int) (D := D) (ci := 0) (C := RX0) (T := TX0) (N := 16) hx hb hts in_X0 tyX0 tyX0_ok nmX0 hown hK hP hD hS 0 rfl rfl 10 (by decide) (hts _ kl_RX0_57) (fun _ h9 => h9) rfl (by decide +kernel) rfl rfl (Nat.le_of_ble_eq_true rfl) dX0_polarize_48 (fun H locs hP hD hS => ?_)
    have hP : va_P D vwCl ([(fn_0 cl cur pts nom ohm pol tau chg lft cap thr (pz + r_1.toInt32) tmp het cun vol bk)] ++ ws) H := hP
    have hD : va_D A ([(fn_0 cl cur pts nom ohm pol tau chg lft cap thr (pz + r_1.toInt32) tmp het cun vol bk)] ++ ws) := hD
    exact W.vret hx hb hr (fun t ht hW => ⟨⟨(ws, (pz + r_1.toInt32)), rfl, ⟨hT, ⟨r_1, hp_5, (Or.inl ⟨hc_6, rfl⟩)⟩⟩, by rw [ht]; exact hP, by rw [hAe]; exact hD⟩, hS.F ht⟩) hS.2.2 dX0_polarize_51
  · refine lv_iload_n hx hb dX0_polarize_32 rfl (lv_at hl 1 rfl) ?_
    refine lv_aload_n hx hb dX0_polarize_33 rfl (lv_at hl 2 rfl) ?_
    refine va_get (v := .int pz) (D := D) (ci := 0) (C := RX0) (T := TX0) (N := 16) hx hb hts in_X0 hown hK hP 0 rfl rfl 10 (by decide) (hts _ kl_RX0_57) (fun _ h9 => h9) rfl dX0_polarize_34 ?_
    obtain ⟨hP, hD⟩ := ty_ipPD (E1 := [(fn_0 cl cur pts nom ohm pol tau chg lft cap thr pz tmp het cun vol bk)]) (E2 := []) hP hD rfl ty_mv2
    refine ty_Ki hP hD hS hA (va_runS (As := [.int ((p1 * pol) / 1000), .int pz]) (rest := []) ⟨hx, hb, hml, hown, hts⟩ (r_J6_compare_7cf53 l D ct (fun _ => none) [] (fun _ => True) (fun _ _ _ => True) ((p1 * pol) / 1000) pz _ ty_V0 ty_C0 ty_y10) (cm_S 2 hts kc_J6_compare_7cf53 ki_RJ6 kl_RX0_135 ks_J6_compare_7cf53 kd_J6_compare_7cf53 ⟨Nat.le_of_ble_eq_true rfl, Nat.le_of_ble_eq_true rfl⟩) (ty_preS hP hK hD hS hA hX) rfl rfl hl.1 rfl (lv_room (Nat.le_of_ble_eq_true rfl)) dX0_polarize_37 ⟨Nat.le_of_ble_eq_true rfl, Nat.le_of_ble_eq_true rfl⟩) (fun r_7 u H locs hw_8 hP hD hS => ?_)
    obtain ⟨ws_9, rfl⟩ : ∃ z, z = u := ⟨_, rfl⟩
    obtain ⟨hT9_10, hp_11⟩ := hw_8
    have hp_11 : (a_J6_compare_7cf53 ((p1 * pol) / 1000) pz r_7) := hp_11
    obtain ⟨hP, hD⟩ := ty_bkPD (E := [(fn_0 cl cur pts nom ohm pol tau chg lft cap thr pz tmp het cun vol bk)]) hP hD rfl
    refine lv_istore_n (lv' := [(3, .int r_7), (2, .int ((p1 * pol) / 1000)), (0, .ref cl), (1, .int p1)]) hx hb dX0_polarize_40 rfl hl (by decide) rfl (fun ls hl => ?_)
    refine lv_aload_n hx hb dX0_polarize_41 rfl (lv_at hl 2 rfl) ?_
    refine lv_dup hx hb dX0_polarize_42 rfl ?_
    refine va_get (v := .int pz) (D := D) (ci := 0) (C := RX0) (T := TX0) (N := 16) hx hb hts in_X0 hown hK hP 0 rfl rfl 10 (by decide) (hts _ kl_RX0_57) (fun _ h9 => h9) rfl dX0_polarize_43 ?_
    refine lv_iload_n hx hb dX0_polarize_46 rfl (lv_at hl 0 rfl) ?_
    refine lv_iadd hx hb dX0_polarize_47 ?_
    refine va_put (v := .int (pz + r_7)) (ty := .int) (D := D) (ci := 0) (C := RX0) (T := TX0) (N := 16) hx hb hts in_X0 tyX0 tyX0_ok nmX0 hown hK hP hD hS 0 rfl rfl 10 (by decide) (hts _ kl_RX0_57) (fun _ h9 => h9) rfl (by decide +kernel) rfl rfl (Nat.le_of_ble_eq_true rfl) dX0_polarize_48 (fun H locs hP hD hS => ?_)
    have hP : va_P D vwCl ([(fn_0 cl cur pts nom ohm pol tau chg lft cap thr (pz + r_7) tmp het cun vol bk)] ++ ws) H := hP
    have hD : va_D A ([(fn_0 cl cur pts nom ohm pol tau chg lft cap thr (pz + r_7) tmp het cun vol bk)] ++ ws) := hD
    exact W.vret hx hb hr (fun t ht hW => ⟨⟨(ws, (pz + r_7)), rfl, ⟨hT, ⟨r_1, hp_5, (Or.inr ⟨hc_6, ⟨r_7, hp_11, rfl⟩⟩)⟩⟩, by rw [ht]; exact hP, by rw [hAe]; exact hD⟩, hS.F ht⟩) hS.2.2 dX0_polarize_51
def a_X0_moveCharge (nom : Int32) (chg : Int32) (lft : Int32) (cin : Int64) (cou : Int64) (efc : Int32) (p1 : Int32) (chg1 : Int32) (lft1 : Int32) (cin1 : Int64) (cou1 : Int64) : Prop := ((p1 ≤ (0 : Int32) ∧ (chg1 = (chg + p1) ∧ lft1 = lft ∧ cin1 = cin ∧ cou1 = (cou - p1.toInt64))) ∨ (¬ p1 ≤ (0 : Int32) ∧ (chg1 = (if (2 * nom) < (chg + (((p1 * efc) + lft) / 1000)) then (2 * nom) else (chg + (((p1 * efc) + lft) / 1000))) ∧ lft1 = (((p1 * efc) + lft) - ((((p1 * efc) + lft) / 1000) * 1000)) ∧ cin1 = (cin + p1.toInt64) ∧ cou1 = cou)))
set_option maxRecDepth 100000 in
set_option maxHeartbeats 4000000 in
theorem r_X0_moveCharge (l : Launch) (D : va_G) (ct : Nat → ClassId) (S : ty_S) (ws : va_W) (ph : va_W → Prop) (xx : Nat → Nat → Nat → Prop) (cl : Nat) (cur : Nat) (pts : Int32) (nom : Int32) (ohm : Int32) (pol : Int32) (tau : Int32) (chg : Int32) (lft : Int32) (cap : Int32) (thr : Int32) (pz : Int32) (tmp : Int32) (het : Int32) (cun : Int32) (vol : Int32) (bk : Nat) (cin : Int64) (cou : Int64) (ein : Int64) (eou : Int64) (se : Nat) (efc : Int32) (fad : Int32) (hea : Int32) (coo : Int32) (low : Int32) (hig : Int32) (hot : Int32) (amb : Int32) (wlo : Int32) (whi : Int32) (who : Int32) (spa : Int32) (p1 : Int32) (sz : Nat) (hT : ty_V ct S ph ws) (hph : ty_C ph xx) (hy1 : ty_y1 xx) : Met l yX0_moveCharge (ws_ yX0_moveCharge cX0_moveCharge 4 none) ({ frames := 1, cells := 0, slots := 0, locals := 14 } : Room) (va_Pc [.ref cl, .int p1, .ref se] (cmP D ct sz ([(fn_0 cl cur pts nom ohm pol tau chg lft cap thr pz tmp het cun vol bk), (fn_3 bk cin cou ein eou), (fn_7 se efc fad hea coo low hig hot amb wlo whi who spa)] ++ ws))) (va_Qv (fun (u : va_W × Int32 × Int32 × Int64 × Int64) => match u with | (u9, chg1, lft1, cin1, cou1) => ty_V ct S ph u9 ∧ (a_X0_moveCharge nom chg lft cin cou efc p1 chg1 lft1 cin1 cou1)) (cmB D ([(fn_0 cl cur pts nom ohm pol tau chg lft cap thr pz tmp het cun vol bk), (fn_3 bk cin cou ein eou), (fn_7 se efc fad hea coo low hig hot amb wlo whi who spa)] ++ ws) sz (fun (u : va_W × Int32 × Int32 × Int64 × Int64) => match u with | (u9, chg1, lft1, cin1, cou1) => ([(fn_0 cl cur pts nom ohm pol tau chg1 lft1 cap thr pz tmp het cun vol bk), (fn_3 bk cin1 cou1 ein eou), (fn_7 se efc fad hea coo low hig hot amb wlo whi who spa)] ++ u9))) (va_A ([(fn_0 cl cur pts nom ohm pol tau chg lft cap thr pz tmp het cun vol bk), (fn_3 bk cin cou ein eou), (fn_7 se efc fad hea coo low hig hot amb wlo whi who spa)] ++ ws) sz)) 0 0 (va_A ([(fn_0 cl cur pts nom ohm pol tau chg lft cap thr pz tmp het cun vol bk), (fn_3 bk cin cou ein eou), (fn_7 se efc fad hea coo low hig hot amb wlo whi who spa)] ++ ws) sz) := by
  refine Met.ofW (cc := cX0_moveCharge) (maxL := 4) (ret := none) (by decide) rfl ?_
  intro p e s m args below meth c s₁ B hml hv
  obtain ⟨rfl, hsz, hP, hK, hD0, hX⟩ := hv
  have hx := B.exec
  have hb := B.bytes
  have hr := B.returns
  have hts := ws_all (atoms_spec (ws := ws_ yX0_moveCharge cX0_moveCharge 4 none) B.pre)
  have hown : s.vm.findClass RX0 = some m.cls := findClass_of_methodNamed B.named
  have hlocks := B.notSynchronized
  subst hsz
  have hD := hD0.self (sz := s.heap.size)
  generalize hAe : va_A ([(fn_0 cl cur pts nom ohm pol tau chg lft cap thr pz tmp het cun vol bk), (fn_3 bk cin cou ein eou), (fn_7 se efc fad hea coo low hig hot amb wlo whi who spa)] ++ ws) s.heap.size = A at hD hX ⊢
  have hA : ∀ q : Nat, s.heap.size ≤ q → A q := fun q h => by rw [← hAe]; exact Or.inr h
  have hS : va_S A s.heap s.heap [] := va_S.rf
  have hl := lv_entry ([.ref cl, .int p1, .ref se]) (n := 4) (Nat.le_of_ble_eq_true rfl)
  rw [lg_entry_eq]
  generalize (lg_sl ([.ref cl, .int p1, .ref se]) ++ List.replicate (4 - (lg_sl ([.ref cl, .int p1, .ref se])).length) Slot.unset).toArray = ls at hl ⊢
  have hl : lv_has ls 4 [(0, .ref cl), (1, .int p1), (2, .ref se)] := hl
  refine lv_iload_n hx hb dX0_moveCharge_0 rfl (lv_at hl 1 rfl) ?_
  refine lv_if_le (tgt := 65) hx hb dX0_moveCharge_1 (by decide) (fun hc_1 => ?_) (fun hc_1 => ?_)
  · refine lv_aload_n hx hb dX0_moveCharge_65 rfl (lv_at hl 0 rfl) ?_
    refine lv_dup hx hb dX0_moveCharge_66 rfl ?_
    refine va_get (v := .int chg) (D := D) (ci := 0) (C := RX0) (T := TX0) (N := 16) hx hb hts in_X0 hown hK hP 0 rfl rfl 6 (by decide) (hts _ kl_RX0_42) (fun _ h9 => h9) rfl dX0_moveCharge_67 ?_
    refine lv_iload_n hx hb dX0_moveCharge_70 rfl (lv_at hl 1 rfl) ?_
    refine lv_iadd hx hb dX0_moveCharge_71 ?_
    refine va_put (v := .int (chg + p1)) (ty := .int) (D := D) (ci := 0) (C := RX0) (T := TX0) (N := 16) hx hb hts in_X0 tyX0 tyX0_ok nmX0 hown hK hP hD hS 0 rfl rfl 6 (by decide) (hts _ kl_RX0_42) (fun _ h9 => h9) rfl (by decide +kernel) rfl rfl (Nat.le_of_ble_eq_true rfl) dX0_moveCharge_72 (fun H locs hP hD hS => ?_)
    have hP : va_P D vwCl ([(fn_0 cl cur pts nom ohm pol tau (chg + p1) lft cap thr pz tmp het cun vol bk), (fn_3 bk cin cou ein eou), (fn_7 se efc fad hea coo low hig hot amb wlo whi who spa)] ++ ws) H := hP
    have hD : va_D A ([(fn_0 cl cur pts nom ohm pol tau (chg + p1) lft cap thr pz tmp het cun vol bk), (fn_3 bk cin cou ein eou), (fn_7 se efc fad hea coo low hig hot amb wlo whi who spa)] ++ ws) := hD
    refine lv_aload_n hx hb dX0_moveCharge_75 rfl (lv_at hl 0 rfl) ?_
    refine va_get (v := .ref bk) (D := D) (ci := 0) (C := RX0) (T := TX0) (N := 16) hx hb hts in_X0 hown hK hP 0 rfl rfl 15 (by decide) (hts _ kl_RX0_18) (fun _ h9 => h9) rfl dX0_moveCharge_76 ?_
    refine lv_dup hx hb dX0_moveCharge_79 rfl ?_
    refine va_getN (v := .long cou) (D := D) (ci := 3) (C := RX3) (T := TX3) (N := 4) hx hb hts in_X3 hown hK hP 1 rfl rfl 1 (by decide) (hts _ kl_RX0_148) (fun _ h9 => h9) rfl dX0_moveCharge_80 ?_
    refine lv_iload_n hx hb dX0_moveCharge_83 rfl (lv_at hl 1 rfl) ?_
    refine lv_i2l hx hb dX0_moveCharge_84 rfl ?_
    refine lv_lsub hx hb dX0_moveCharge_85 ?_
    refine va_putN (v := .long (cou - p1.toInt64)) (ty := .long) (D := D) (ci := 3) (C := RX3) (T := TX3) (N := 4) hx hb hts in_X3 tyX3 tyX3_ok nmX3 hown hK hP hD hS 1 rfl rfl 1 (by decide) (hts _ kl_RX0_148) (fun _ h9 => h9) rfl (by decide +kernel) rfl rfl (Nat.le_of_ble_eq_true rfl) dX0_moveCharge_86 (fun H locs hP hD hS => ?_)
    have hP : va_P D vwCl ([(fn_0 cl cur pts nom ohm pol tau (chg + p1) lft cap thr pz tmp het cun vol bk), (fn_3 bk cin (cou - p1.toInt64) ein eou), (fn_7 se efc fad hea coo low hig hot amb wlo whi who spa)] ++ ws) H := hP
    have hD : va_D A ([(fn_0 cl cur pts nom ohm pol tau (chg + p1) lft cap thr pz tmp het cun vol bk), (fn_3 bk cin (cou - p1.toInt64) ein eou), (fn_7 se efc fad hea coo low hig hot amb wlo whi who spa)] ++ ws) := hD
    exact W.vret hx hb hr (fun t ht hW => ⟨⟨(ws, (chg + p1), lft, cin, (cou - p1.toInt64)), rfl, ⟨hT, (Or.inl ⟨hc_1, ⟨rfl, rfl, rfl, rfl⟩⟩)⟩, by rw [ht]; exact hP, by rw [hAe]; exact hD⟩, hS.F ht⟩) hS.2.2 dX0_moveCharge_89
  · refine lv_aload_n hx hb dX0_moveCharge_4 rfl (lv_at hl 0 rfl) ?_
    refine va_get (v := .ref bk) (D := D) (ci := 0) (C := RX0) (T := TX0) (N := 16) hx hb hts in_X0 hown hK hP 0 rfl rfl 15 (by decide) (hts _ kl_RX0_18) (fun _ h9 => h9) rfl dX0_moveCharge_5 ?_
    refine lv_dup hx hb dX0_moveCharge_8 rfl ?_
    refine va_getN (v := .long cin) (D := D) (ci := 3) (C := RX3) (T := TX3) (N := 4) hx hb hts in_X3 hown hK hP 1 rfl rfl 0 (by decide) (hts _ kl_RX0_140) (fun _ h9 => h9) rfl dX0_moveCharge_9 ?_
    refine lv_iload_n hx hb dX0_moveCharge_12 rfl (lv_at hl 1 rfl) ?_
    refine lv_i2l hx hb dX0_moveCharge_13 rfl ?_
    refine lv_ladd hx hb dX0_moveCharge_14 ?_
    refine va_putN (v := .long (cin + p1.toInt64)) (ty := .long) (D := D) (ci := 3) (C := RX3) (T := TX3) (N := 4) hx hb hts in_X3 tyX3 tyX3_ok nmX3 hown hK hP hD hS 1 rfl rfl 0 (by decide) (hts _ kl_RX0_140) (fun _ h9 => h9) rfl (by decide +kernel) rfl rfl (Nat.le_of_ble_eq_true rfl) dX0_moveCharge_15 (fun H locs hP hD hS => ?_)
    have hP : va_P D vwCl ([(fn_0 cl cur pts nom ohm pol tau chg lft cap thr pz tmp het cun vol bk), (fn_3 bk (cin + p1.toInt64) cou ein eou), (fn_7 se efc fad hea coo low hig hot amb wlo whi who spa)] ++ ws) H := hP
    have hD : va_D A ([(fn_0 cl cur pts nom ohm pol tau chg lft cap thr pz tmp het cun vol bk), (fn_3 bk (cin + p1.toInt64) cou ein eou), (fn_7 se efc fad hea coo low hig hot amb wlo whi who spa)] ++ ws) := hD
    refine lv_iload_n hx hb dX0_moveCharge_18 rfl (lv_at hl 1 rfl) ?_
    refine lv_aload_n hx hb dX0_moveCharge_19 rfl (lv_at hl 2 rfl) ?_
    refine va_getN (v := .int efc) (D := D) (ci := 7) (C := RX7) (T := TX7) (N := 12) hx hb hts in_X7 hown hK hP 2 rfl rfl 0 (by decide) (hts _ kl_RX0_143) (fun _ h9 => h9) rfl dX0_moveCharge_20 ?_
    refine lv_imul hx hb dX0_moveCharge_23 ?_
    refine lv_aload_n hx hb dX0_moveCharge_24 rfl (lv_at hl 0 rfl) ?_
    refine va_get (v := .int lft) (D := D) (ci := 0) (C := RX0) (T := TX0) (N := 16) hx hb hts in_X0 hown hK hP 0 rfl rfl 7 (by decide) (hts _ kl_RX0_45) (fun _ h9 => h9) rfl dX0_moveCharge_25 ?_
    refine lv_iadd hx hb dX0_moveCharge_28 ?_
    refine lv_istore_n (lv' := [(3, .int ((p1 * efc) + lft)), (0, .ref cl), (1, .int p1), (2, .ref se)]) hx hb dX0_moveCharge_29 rfl hl (by decide) rfl (fun ls hl => ?_)
    refine lv_aload_n hx hb dX0_moveCharge_30 rfl (lv_at hl 1 rfl) ?_
    refine lv_aload_n hx hb dX0_moveCharge_31 rfl (lv_at hl 1 rfl) ?_
    refine va_get (v := .int chg) (D := D) (ci := 0) (C := RX0) (T := TX0) (N := 16) hx hb hts in_X0 hown hK hP 0 rfl rfl 6 (by decide) (hts _ kl_RX0_42) (fun _ h9 => h9) rfl dX0_moveCharge_32 ?_
    refine lv_iload_n hx hb dX0_moveCharge_35 rfl (lv_at hl 0 rfl) ?_
    refine lv_sipush (v := 1000) hx hb dX0_moveCharge_36 (by decide) ?_
    refine lv_idiv hx hb dX0_moveCharge_39 (by decide) ?_
    refine lv_iadd hx hb dX0_moveCharge_40 ?_
    refine lv_iconst (v := 2) hx hb dX0_moveCharge_41 (by decide) ?_
    refine lv_aload_n hx hb dX0_moveCharge_42 rfl (lv_at hl 1 rfl) ?_
    refine va_get (v := .int nom) (D := D) (ci := 0) (C := RX0) (T := TX0) (N := 16) hx hb hts in_X0 hown hK hP 0 rfl rfl 2 (by decide) (hts _ kl_RX0_48) (fun _ h9 => h9) rfl dX0_moveCharge_43 ?_
    refine lv_imul hx hb dX0_moveCharge_46 ?_
    refine va_mmin hx hb (hml.trans hl.1.symm) hown (hts _ kl_RX0_146) (hts _ jm_min_s) (hts _ ki_RJ9) (hts _ jm_min_c) (Nat.le_of_ble_eq_true rfl) (Nat.le_of_ble_eq_true rfl) (Nat.le_of_ble_eq_true rfl) (Nat.le_of_ble_eq_true rfl) dX0_moveCharge_47 ?_
    refine va_put (v := .int (if (2 * nom) < (chg + (((p1 * efc) + lft) / 1000)) then (2 * nom) else (chg + (((p1 * efc) + lft) / 1000)))) (ty := .int) (D := D) (ci := 0) (C := RX0) (T := TX0) (N := 16) hx hb hts in_X0 tyX0 tyX0_ok nmX0 hown hK hP hD hS 0 rfl rfl 6 (by decide) (hts _ kl_RX0_42) (fun _ h9 => h9) rfl (by decide +kernel) rfl rfl (Nat.le_of_ble_eq_true rfl) dX0_moveCharge_50 (fun H locs hP hD hS => ?_)
    have hP : va_P D vwCl ([(fn_0 cl cur pts nom ohm pol tau (if (2 * nom) < (chg + (((p1 * efc) + lft) / 1000)) then (2 * nom) else (chg + (((p1 * efc) + lft) / 1000))) lft cap thr pz tmp het cun vol bk), (fn_3 bk (cin + p1.toInt64) cou ein eou), (fn_7 se efc fad hea coo low hig hot amb wlo whi who spa)] ++ ws) H := hP
    have hD : va_D A ([(fn_0 cl cur pts nom ohm pol tau (if (2 * nom) < (chg + (((p1 * efc) + lft) / 1000)) then (2 * nom) else (chg + (((p1 * efc) + lft) / 1000))) lft cap thr pz tmp het cun vol bk), (fn_3 bk (cin + p1.toInt64) cou ein eou), (fn_7 se efc fad hea coo low hig hot amb wlo whi who spa)] ++ ws) := hD
    refine lv_aload_n hx hb dX0_moveCharge_53 rfl (lv_at hl 1 rfl) ?_
    refine lv_iload_n hx hb dX0_moveCharge_54 rfl (lv_at hl 0 rfl) ?_
    refine lv_sipush (v := 1000) hx hb dX0_moveCharge_55 (by decide) ?_
    refine lv_irem hx hb dX0_moveCharge_58 (by decide) ?_
    refine va_put (v := .int (((p1 * efc) + lft) - ((((p1 * efc) + lft) / 1000) * 1000))) (ty := .int) (D := D) (ci := 0) (C := RX0) (T := TX0) (N := 16) hx hb hts in_X0 tyX0 tyX0_ok nmX0 hown hK hP hD hS 0 rfl rfl 7 (by decide) (hts _ kl_RX0_45) (fun _ h9 => h9) rfl (by decide +kernel) rfl rfl (Nat.le_of_ble_eq_true rfl) dX0_moveCharge_59 (fun H locs hP hD hS => ?_)
    have hP : va_P D vwCl ([(fn_0 cl cur pts nom ohm pol tau (if (2 * nom) < (chg + (((p1 * efc) + lft) / 1000)) then (2 * nom) else (chg + (((p1 * efc) + lft) / 1000))) (((p1 * efc) + lft) - ((((p1 * efc) + lft) / 1000) * 1000)) cap thr pz tmp het cun vol bk), (fn_3 bk (cin + p1.toInt64) cou ein eou), (fn_7 se efc fad hea coo low hig hot amb wlo whi who spa)] ++ ws) H := hP
    have hD : va_D A ([(fn_0 cl cur pts nom ohm pol tau (if (2 * nom) < (chg + (((p1 * efc) + lft) / 1000)) then (2 * nom) else (chg + (((p1 * efc) + lft) / 1000))) (((p1 * efc) + lft) - ((((p1 * efc) + lft) / 1000) * 1000)) cap thr pz tmp het cun vol bk), (fn_3 bk (cin + p1.toInt64) cou ein eou), (fn_7 se efc fad hea coo low hig hot amb wlo whi who spa)] ++ ws) := hD
    refine lv_goto (tgt := 89) hx hb dX0_moveCharge_62 (by decide) ?_
    exact W.vret hx hb hr (fun t ht hW => ⟨⟨(ws, (if (2 * nom) < (chg + (((p1 * efc) + lft) / 1000)) then (2 * nom) else (chg + (((p1 * efc) + lft) / 1000))), (((p1 * efc) + lft) - ((((p1 * efc) + lft) / 1000) * 1000)), (cin + p1.toInt64), cou), rfl, ⟨hT, (Or.inr ⟨hc_1, ⟨rfl, rfl, rfl, rfl⟩⟩)⟩, by rw [ht]; exact hP, by rw [hAe]; exact hD⟩, hS.F ht⟩) hS.2.2 dX0_moveCharge_89
def a_X0_wear (nom : Int32) (cap : Int32) (thr : Int32) (fad : Int32) (p1 : Int32) (cap1 : Int32) (thr1 : Int32) : Prop := (((0 : Int32) ≤ p1 ∧ (∃ (r_2 : Int64), (a_X10_quotient ((thr + p1).toInt64) fad.toInt64 r_2) ∧ (∃ (r_7 : Int64), (a_X10_remainder ((thr + p1).toInt64) fad.toInt64 r_7) ∧ (cap1 = (if (cap - r_2.toInt32) < (nom / 2) then (nom / 2) else (cap - r_2.toInt32)) ∧ thr1 = r_7.toInt32)))) ∨ (¬ (0 : Int32) ≤ p1 ∧ (∃ (r_12 : Int64), (a_X10_quotient ((thr + (- p1)).toInt64) fad.toInt64 r_12) ∧ (∃ (r_17 : Int64), (a_X10_remainder ((thr + (- p1)).toInt64) fad.toInt64 r_17) ∧ (cap1 = (if (cap - r_12.toInt32) < (nom / 2) then (nom / 2) else (cap - r_12.toInt32)) ∧ thr1 = r_17.toInt32)))))
set_option maxRecDepth 100000 in
set_option maxHeartbeats 4000000 in
theorem r_X0_wear (l : Launch) (D : va_G) (ct : Nat → ClassId) (S : ty_S) (ws : va_W) (ph : va_W → Prop) (xx : Nat → Nat → Nat → Prop) (cl : Nat) (cur : Nat) (pts : Int32) (nom : Int32) (ohm : Int32) (pol : Int32) (tau : Int32) (chg : Int32) (lft : Int32) (cap : Int32) (thr : Int32) (pz : Int32) (tmp : Int32) (het : Int32) (cun : Int32) (vol : Int32) (bk : Nat) (se : Nat) (efc : Int32) (fad : Int32) (hea : Int32) (coo : Int32) (low : Int32) (hig : Int32) (hot : Int32) (amb : Int32) (wlo : Int32) (whi : Int32) (who : Int32) (spa : Int32) (p1 : Int32) (sz : Nat) (hT : ty_V ct S ph ws) (hph : ty_C ph xx) (hy1 : ty_y1 xx) : Met l yX0_wear (ws_ yX0_wear cX0_wear 4 none) ({ frames := 1, cells := 0, slots := 0, locals := 23 } : Room) (va_Pc [.ref cl, .int p1, .ref se] (cmP D ct sz ([(fn_0 cl cur pts nom ohm pol tau chg lft cap thr pz tmp het cun vol bk), (fn_7 se efc fad hea coo low hig hot amb wlo whi who spa)] ++ ws))) (va_Qv (fun (u : va_W × Int32 × Int32) => match u with | (u9, cap1, thr1) => ty_V ct S ph u9 ∧ (a_X0_wear nom cap thr fad p1 cap1 thr1)) (cmB D ([(fn_0 cl cur pts nom ohm pol tau chg lft cap thr pz tmp het cun vol bk), (fn_7 se efc fad hea coo low hig hot amb wlo whi who spa)] ++ ws) sz (fun (u : va_W × Int32 × Int32) => match u with | (u9, cap1, thr1) => ([(fn_0 cl cur pts nom ohm pol tau chg lft cap1 thr1 pz tmp het cun vol bk), (fn_7 se efc fad hea coo low hig hot amb wlo whi who spa)] ++ u9))) (va_A ([(fn_0 cl cur pts nom ohm pol tau chg lft cap thr pz tmp het cun vol bk), (fn_7 se efc fad hea coo low hig hot amb wlo whi who spa)] ++ ws) sz)) 0 0 (va_A ([(fn_0 cl cur pts nom ohm pol tau chg lft cap thr pz tmp het cun vol bk), (fn_7 se efc fad hea coo low hig hot amb wlo whi who spa)] ++ ws) sz) := by
  refine Met.ofW (cc := cX0_wear) (maxL := 4) (ret := none) (by decide) rfl ?_
  intro p e s m args below meth c s₁ B hml hv
  obtain ⟨rfl, hsz, hP, hK, hD0, hX⟩ := hv
  have hx := B.exec
  have hb := B.bytes
  have hr := B.returns
  have hts := ws_all (atoms_spec (ws := ws_ yX0_wear cX0_wear 4 none) B.pre)
  have hown : s.vm.findClass RX0 = some m.cls := findClass_of_methodNamed B.named
  have hlocks := B.notSynchronized
  subst hsz
  have hD := hD0.self (sz := s.heap.size)
  generalize hAe : va_A ([(fn_0 cl cur pts nom ohm pol tau chg lft cap thr pz tmp het cun vol bk), (fn_7 se efc fad hea coo low hig hot amb wlo whi who spa)] ++ ws) s.heap.size = A at hD hX ⊢
  have hA : ∀ q : Nat, s.heap.size ≤ q → A q := fun q h => by rw [← hAe]; exact Or.inr h
  have hS : va_S A s.heap s.heap [] := va_S.rf
  have hl := lv_entry ([.ref cl, .int p1, .ref se]) (n := 4) (Nat.le_of_ble_eq_true rfl)
  rw [lg_entry_eq]
  generalize (lg_sl ([.ref cl, .int p1, .ref se]) ++ List.replicate (4 - (lg_sl ([.ref cl, .int p1, .ref se])).length) Slot.unset).toArray = ls at hl ⊢
  have hl : lv_has ls 4 [(0, .ref cl), (1, .int p1), (2, .ref se)] := hl
  refine lv_aload_n hx hb dX0_wear_0 rfl (lv_at hl 0 rfl) ?_
  refine lv_dup hx hb dX0_wear_1 rfl ?_
  refine va_get (v := .int thr) (D := D) (ci := 0) (C := RX0) (T := TX0) (N := 16) hx hb hts in_X0 hown hK hP 0 rfl rfl 9 (by decide) (hts _ kl_RX0_54) (fun _ h9 => h9) rfl dX0_wear_2 ?_
  refine lv_iload_n hx hb dX0_wear_5 rfl (lv_at hl 1 rfl) ?_
  refine lv_if_ge (tgt := 14) hx hb dX0_wear_6 (by decide) (fun hc_1 => ?_) (fun hc_1 => ?_)
  · refine lv_iload_n hx hb dX0_wear_14 rfl (lv_at hl 1 rfl) ?_
    refine lv_iadd hx hb dX0_wear_15 ?_
    refine va_put (v := .int (thr + p1)) (ty := .int) (D := D) (ci := 0) (C := RX0) (T := TX0) (N := 16) hx hb hts in_X0 tyX0 tyX0_ok nmX0 hown hK hP hD hS 0 rfl rfl 9 (by decide) (hts _ kl_RX0_54) (fun _ h9 => h9) rfl (by decide +kernel) rfl rfl (Nat.le_of_ble_eq_true rfl) dX0_wear_16 (fun H locs hP hD hS => ?_)
    have hP : va_P D vwCl ([(fn_0 cl cur pts nom ohm pol tau chg lft cap (thr + p1) pz tmp het cun vol bk), (fn_7 se efc fad hea coo low hig hot amb wlo whi who spa)] ++ ws) H := hP
    have hD : va_D A ([(fn_0 cl cur pts nom ohm pol tau chg lft cap (thr + p1) pz tmp het cun vol bk), (fn_7 se efc fad hea coo low hig hot amb wlo whi who spa)] ++ ws) := hD
    refine lv_aload_n hx hb dX0_wear_19 rfl (lv_at hl 0 rfl) ?_
    refine va_get (v := .int (thr + p1)) (D := D) (ci := 0) (C := RX0) (T := TX0) (N := 16) hx hb hts in_X0 hown hK hP 0 rfl rfl 9 (by decide) (hts _ kl_RX0_54) (fun _ h9 => h9) rfl dX0_wear_20 ?_
    refine lv_i2l hx hb dX0_wear_23 rfl ?_
    refine lv_aload_n hx hb dX0_wear_24 rfl (lv_at hl 2 rfl) ?_
    refine va_getN (v := .int fad) (D := D) (ci := 7) (C := RX7) (T := TX7) (N := 12) hx hb hts in_X7 hown hK hP 1 rfl rfl 1 (by decide) (hts _ kl_RX0_151) (fun _ h9 => h9) rfl dX0_wear_25 ?_
    refine lv_i2l hx hb dX0_wear_28 rfl ?_
    obtain ⟨hP, hD⟩ := ty_ipPD (E1 := [(fn_0 cl cur pts nom ohm pol tau chg lft cap (thr + p1) pz tmp het cun vol bk), (fn_7 se efc fad hea coo low hig hot amb wlo whi who spa)]) (E2 := []) hP hD rfl ty_mv2
    refine ty_Kl hP hD hS hA (va_runSN (As := [.long ((thr + p1).toInt64), .long fad.toInt64]) (rest := []) ⟨hx, hb, hml, hown, hts⟩ (r_X10_quotient l D ct (fun _ => none) [] (fun _ => True) (fun _ _ _ => True) ((thr + p1).toInt64) fad.toInt64 _ ty_V0 ty_C0 ty_y10) (cm_SN 2 hts kc_X10_quotient ki_RX10 kl_RX0_75 ks_X10_quotient kd_X10_quotient ⟨Nat.le_of_ble_eq_true rfl, Nat.le_of_ble_eq_true rfl⟩) (ty_preS hP hK hD hS hA hX) rfl rfl hl.1 rfl (lv_room (Nat.le_of_ble_eq_true rfl)) dX0_wear_29 ⟨Nat.le_of_ble_eq_true rfl, Nat.le_of_ble_eq_true rfl⟩) (fun r_2 u H locs hw_3 hP hD hS => ?_)
    obtain ⟨ws_4, rfl⟩ : ∃ z, z = u := ⟨_, rfl⟩
    obtain ⟨hT9_5, hp_6⟩ := hw_3
    have hp_6 : (a_X10_quotient ((thr + p1).toInt64) fad.toInt64 r_2) := hp_6
    obtain ⟨hP, hD⟩ := ty_bkPD (E := [(fn_0 cl cur pts nom ohm pol tau chg lft cap (thr + p1) pz tmp het cun vol bk), (fn_7 se efc fad hea coo low hig hot amb wlo whi who spa)]) hP hD rfl
    refine lv_l2i hx hb dX0_wear_32 rfl ?_
    refine lv_istore_n (lv' := [(3, .int r_2.toInt32), (0, .ref cl), (1, .int p1), (2, .ref se)]) hx hb dX0_wear_33 rfl hl (by decide) rfl (fun ls hl => ?_)
    refine lv_aload_n hx hb dX0_wear_34 rfl (lv_at hl 1 rfl) ?_
    refine lv_aload_n hx hb dX0_wear_35 rfl (lv_at hl 1 rfl) ?_
    refine va_get (v := .int cap) (D := D) (ci := 0) (C := RX0) (T := TX0) (N := 16) hx hb hts in_X0 hown hK hP 0 rfl rfl 8 (by decide) (hts _ kl_RX0_51) (fun _ h9 => h9) rfl dX0_wear_36 ?_
    refine lv_iload_n hx hb dX0_wear_39 rfl (lv_at hl 0 rfl) ?_
    refine lv_isub hx hb dX0_wear_40 ?_
    refine lv_aload_n hx hb dX0_wear_41 rfl (lv_at hl 1 rfl) ?_
    refine va_get (v := .int nom) (D := D) (ci := 0) (C := RX0) (T := TX0) (N := 16) hx hb hts in_X0 hown hK hP 0 rfl rfl 2 (by decide) (hts _ kl_RX0_48) (fun _ h9 => h9) rfl dX0_wear_42 ?_
    refine lv_iconst (v := 2) hx hb dX0_wear_45 (by decide) ?_
    refine lv_idiv hx hb dX0_wear_46 (by decide) ?_
    refine va_mmax hx hb (hml.trans hl.1.symm) hown (hts _ kl_RX0_106) (hts _ jm_max_s) (hts _ ki_RJ9) (hts _ jm_max_c) (Nat.le_of_ble_eq_true rfl) (Nat.le_of_ble_eq_true rfl) (Nat.le_of_ble_eq_true rfl) (Nat.le_of_ble_eq_true rfl) dX0_wear_47 ?_
    refine va_put (v := .int (if (cap - r_2.toInt32) < (nom / 2) then (nom / 2) else (cap - r_2.toInt32))) (ty := .int) (D := D) (ci := 0) (C := RX0) (T := TX0) (N := 16) hx hb hts in_X0 tyX0 tyX0_ok nmX0 hown hK hP hD hS 0 rfl rfl 8 (by decide) (hts _ kl_RX0_51) (fun _ h9 => h9) rfl (by decide +kernel) rfl rfl (Nat.le_of_ble_eq_true rfl) dX0_wear_50 (fun H locs hP hD hS => ?_)
    have hP : va_P D vwCl ([(fn_0 cl cur pts nom ohm pol tau chg lft (if (cap - r_2.toInt32) < (nom / 2) then (nom / 2) else (cap - r_2.toInt32)) (thr + p1) pz tmp het cun vol bk), (fn_7 se efc fad hea coo low hig hot amb wlo whi who spa)] ++ ws) H := hP
    have hD : va_D A ([(fn_0 cl cur pts nom ohm pol tau chg lft (if (cap - r_2.toInt32) < (nom / 2) then (nom / 2) else (cap - r_2.toInt32)) (thr + p1) pz tmp het cun vol bk), (fn_7 se efc fad hea coo low hig hot amb wlo whi who spa)] ++ ws) := hD
    refine lv_aload_n hx hb dX0_wear_53 rfl (lv_at hl 1 rfl) ?_
    refine lv_aload_n hx hb dX0_wear_54 rfl (lv_at hl 1 rfl) ?_
    refine va_get (v := .int (thr + p1)) (D := D) (ci := 0) (C := RX0) (T := TX0) (N := 16) hx hb hts in_X0 hown hK hP 0 rfl rfl 9 (by decide) (hts _ kl_RX0_54) (fun _ h9 => h9) rfl dX0_wear_55 ?_
    refine lv_i2l hx hb dX0_wear_58 rfl ?_
    refine lv_aload_n hx hb dX0_wear_59 rfl (lv_at hl 3 rfl) ?_
    refine va_getN (v := .int fad) (D := D) (ci := 7) (C := RX7) (T := TX7) (N := 12) hx hb hts in_X7 hown hK hP 1 rfl rfl 1 (by decide) (hts _ kl_RX0_151) (fun _ h9 => h9) rfl dX0_wear_60 ?_
    refine lv_i2l hx hb dX0_wear_63 rfl ?_
    obtain ⟨hP, hD⟩ := ty_ipPD (E1 := [(fn_0 cl cur pts nom ohm pol tau chg lft (if (cap - r_2.toInt32) < (nom / 2) then (nom / 2) else (cap - r_2.toInt32)) (thr + p1) pz tmp het cun vol bk), (fn_7 se efc fad hea coo low hig hot amb wlo whi who spa)]) (E2 := []) hP hD rfl ty_mv2
    refine ty_Kl hP hD hS hA (va_runSN (As := [.long ((thr + p1).toInt64), .long fad.toInt64]) (rest := [.ref cl]) ⟨hx, hb, hml, hown, hts⟩ (r_X10_remainder l D ct (fun _ => none) [] (fun _ => True) (fun _ _ _ => True) ((thr + p1).toInt64) fad.toInt64 _ ty_V0 ty_C0 ty_y10) (cm_SN 2 hts kc_X10_remainder ki_RX10 kl_RX0_154 ks_X10_remainder kd_X10_remainder ⟨Nat.le_of_ble_eq_true rfl, Nat.le_of_ble_eq_true rfl⟩) (ty_preS hP hK hD hS hA hX) rfl rfl hl.1 rfl (lv_room (Nat.le_of_ble_eq_true rfl)) dX0_wear_64 ⟨Nat.le_of_ble_eq_true rfl, Nat.le_of_ble_eq_true rfl⟩) (fun r_7 u H locs hw_8 hP hD hS => ?_)
    obtain ⟨ws_9, rfl⟩ : ∃ z, z = u := ⟨_, rfl⟩
    obtain ⟨hT9_10, hp_11⟩ := hw_8
    have hp_11 : (a_X10_remainder ((thr + p1).toInt64) fad.toInt64 r_7) := hp_11
    obtain ⟨hP, hD⟩ := ty_bkPD (E := [(fn_0 cl cur pts nom ohm pol tau chg lft (if (cap - r_2.toInt32) < (nom / 2) then (nom / 2) else (cap - r_2.toInt32)) (thr + p1) pz tmp het cun vol bk), (fn_7 se efc fad hea coo low hig hot amb wlo whi who spa)]) hP hD rfl
    refine lv_l2i hx hb dX0_wear_67 rfl ?_
    refine va_put (v := .int r_7.toInt32) (ty := .int) (D := D) (ci := 0) (C := RX0) (T := TX0) (N := 16) hx hb hts in_X0 tyX0 tyX0_ok nmX0 hown hK hP hD hS 0 rfl rfl 9 (by decide) (hts _ kl_RX0_54) (fun _ h9 => h9) rfl (by decide +kernel) rfl rfl (Nat.le_of_ble_eq_true rfl) dX0_wear_68 (fun H locs hP hD hS => ?_)
    have hP : va_P D vwCl ([(fn_0 cl cur pts nom ohm pol tau chg lft (if (cap - r_2.toInt32) < (nom / 2) then (nom / 2) else (cap - r_2.toInt32)) r_7.toInt32 pz tmp het cun vol bk), (fn_7 se efc fad hea coo low hig hot amb wlo whi who spa)] ++ ws) H := hP
    have hD : va_D A ([(fn_0 cl cur pts nom ohm pol tau chg lft (if (cap - r_2.toInt32) < (nom / 2) then (nom / 2) else (cap - r_2.toInt32)) r_7.toInt32 pz tmp het cun vol bk), (fn_7 se efc fad hea coo low hig hot amb wlo whi who spa)] ++ ws) := hD
    exact W.vret hx hb hr (fun t ht hW => ⟨⟨(ws, (if (cap - r_2.toInt32) < (nom / 2) then (nom / 2) else (cap - r_2.toInt32)), r_7.toInt32), rfl, ⟨hT, (Or.inl ⟨hc_1, ⟨r_2, hp_6, ⟨r_7, hp_11, ⟨rfl, rfl⟩⟩⟩⟩)⟩, by rw [ht]; exact hP, by rw [hAe]; exact hD⟩, hS.F ht⟩) hS.2.2 dX0_wear_71
  · refine lv_iload_n hx hb dX0_wear_9 rfl (lv_at hl 1 rfl) ?_
    refine lv_ineg hx hb dX0_wear_10 ?_
    refine lv_goto (tgt := 15) hx hb dX0_wear_11 (by decide) ?_
    refine lv_iadd hx hb dX0_wear_15 ?_
    refine va_put (v := .int (thr + (- p1))) (ty := .int) (D := D) (ci := 0) (C := RX0) (T := TX0) (N := 16) hx hb hts in_X0 tyX0 tyX0_ok nmX0 hown hK hP hD hS 0 rfl rfl 9 (by decide) (hts _ kl_RX0_54) (fun _ h9 => h9) rfl (by decide +kernel) rfl rfl (Nat.le_of_ble_eq_true rfl) dX0_wear_16 (fun H locs hP hD hS => ?_)
    have hP : va_P D vwCl ([(fn_0 cl cur pts nom ohm pol tau chg lft cap (thr + (- p1)) pz tmp het cun vol bk), (fn_7 se efc fad hea coo low hig hot amb wlo whi who spa)] ++ ws) H := hP
    have hD : va_D A ([(fn_0 cl cur pts nom ohm pol tau chg lft cap (thr + (- p1)) pz tmp het cun vol bk), (fn_7 se efc fad hea coo low hig hot amb wlo whi who spa)] ++ ws) := hD
    refine lv_aload_n hx hb dX0_wear_19 rfl (lv_at hl 0 rfl) ?_
    refine va_get (v := .int (thr + (- p1))) (D := D) (ci := 0) (C := RX0) (T := TX0) (N := 16) hx hb hts in_X0 hown hK hP 0 rfl rfl 9 (by decide) (hts _ kl_RX0_54) (fun _ h9 => h9) rfl dX0_wear_20 ?_
    refine lv_i2l hx hb dX0_wear_23 rfl ?_
    refine lv_aload_n hx hb dX0_wear_24 rfl (lv_at hl 2 rfl) ?_
    refine va_getN (v := .int fad) (D := D) (ci := 7) (C := RX7) (T := TX7) (N := 12) hx hb hts in_X7 hown hK hP 1 rfl rfl 1 (by decide) (hts _ kl_RX0_151) (fun _ h9 => h9) rfl dX0_wear_25 ?_
    refine lv_i2l hx hb dX0_wear_28 rfl ?_
    obtain ⟨hP, hD⟩ := ty_ipPD (E1 := [(fn_0 cl cur pts nom ohm pol tau chg lft cap (thr + (- p1)) pz tmp het cun vol bk), (fn_7 se efc fad hea coo low hig hot amb wlo whi who spa)]) (E2 := []) hP hD rfl ty_mv2
    refine ty_Kl hP hD hS hA (va_runSN (As := [.long ((thr + (- p1)).toInt64), .long fad.toInt64]) (rest := []) ⟨hx, hb, hml, hown, hts⟩ (r_X10_quotient l D ct (fun _ => none) [] (fun _ => True) (fun _ _ _ => True) ((thr + (- p1)).toInt64) fad.toInt64 _ ty_V0 ty_C0 ty_y10) (cm_SN 2 hts kc_X10_quotient ki_RX10 kl_RX0_75 ks_X10_quotient kd_X10_quotient ⟨Nat.le_of_ble_eq_true rfl, Nat.le_of_ble_eq_true rfl⟩) (ty_preS hP hK hD hS hA hX) rfl rfl hl.1 rfl (lv_room (Nat.le_of_ble_eq_true rfl)) dX0_wear_29 ⟨Nat.le_of_ble_eq_true rfl, Nat.le_of_ble_eq_true rfl⟩) (fun r_12 u H locs hw_13 hP hD hS => ?_)
    obtain ⟨ws_14, rfl⟩ : ∃ z, z = u := ⟨_, rfl⟩
    obtain ⟨hT9_15, hp_16⟩ := hw_13
    have hp_16 : (a_X10_quotient ((thr + (- p1)).toInt64) fad.toInt64 r_12) := hp_16
    obtain ⟨hP, hD⟩ := ty_bkPD (E := [(fn_0 cl cur pts nom ohm pol tau chg lft cap (thr + (- p1)) pz tmp het cun vol bk), (fn_7 se efc fad hea coo low hig hot amb wlo whi who spa)]) hP hD rfl
    refine lv_l2i hx hb dX0_wear_32 rfl ?_
    refine lv_istore_n (lv' := [(3, .int r_12.toInt32), (0, .ref cl), (1, .int p1), (2, .ref se)]) hx hb dX0_wear_33 rfl hl (by decide) rfl (fun ls hl => ?_)
    refine lv_aload_n hx hb dX0_wear_34 rfl (lv_at hl 1 rfl) ?_
    refine lv_aload_n hx hb dX0_wear_35 rfl (lv_at hl 1 rfl) ?_
    refine va_get (v := .int cap) (D := D) (ci := 0) (C := RX0) (T := TX0) (N := 16) hx hb hts in_X0 hown hK hP 0 rfl rfl 8 (by decide) (hts _ kl_RX0_51) (fun _ h9 => h9) rfl dX0_wear_36 ?_
    refine lv_iload_n hx hb dX0_wear_39 rfl (lv_at hl 0 rfl) ?_
    refine lv_isub hx hb dX0_wear_40 ?_
    refine lv_aload_n hx hb dX0_wear_41 rfl (lv_at hl 1 rfl) ?_
    refine va_get (v := .int nom) (D := D) (ci := 0) (C := RX0) (T := TX0) (N := 16) hx hb hts in_X0 hown hK hP 0 rfl rfl 2 (by decide) (hts _ kl_RX0_48) (fun _ h9 => h9) rfl dX0_wear_42 ?_
    refine lv_iconst (v := 2) hx hb dX0_wear_45 (by decide) ?_
    refine lv_idiv hx hb dX0_wear_46 (by decide) ?_
    refine va_mmax hx hb (hml.trans hl.1.symm) hown (hts _ kl_RX0_106) (hts _ jm_max_s) (hts _ ki_RJ9) (hts _ jm_max_c) (Nat.le_of_ble_eq_true rfl) (Nat.le_of_ble_eq_true rfl) (Nat.le_of_ble_eq_true rfl) (Nat.le_of_ble_eq_true rfl) dX0_wear_47 ?_
    refine va_put (v := .int (if (cap - r_12.toInt32) < (nom / 2) then (nom / 2) else (cap - r_12.toInt32))) (ty := .int) (D := D) (ci := 0) (C := RX0) (T := TX0) (N := 16) hx hb hts in_X0 tyX0 tyX0_ok nmX0 hown hK hP hD hS 0 rfl rfl 8 (by decide) (hts _ kl_RX0_51) (fun _ h9 => h9) rfl (by decide +kernel) rfl rfl (Nat.le_of_ble_eq_true rfl) dX0_wear_50 (fun H locs hP hD hS => ?_)
    have hP : va_P D vwCl ([(fn_0 cl cur pts nom ohm pol tau chg lft (if (cap - r_12.toInt32) < (nom / 2) then (nom / 2) else (cap - r_12.toInt32)) (thr + (- p1)) pz tmp het cun vol bk), (fn_7 se efc fad hea coo low hig hot amb wlo whi who spa)] ++ ws) H := hP
    have hD : va_D A ([(fn_0 cl cur pts nom ohm pol tau chg lft (if (cap - r_12.toInt32) < (nom / 2) then (nom / 2) else (cap - r_12.toInt32)) (thr + (- p1)) pz tmp het cun vol bk), (fn_7 se efc fad hea coo low hig hot amb wlo whi who spa)] ++ ws) := hD
    refine lv_aload_n hx hb dX0_wear_53 rfl (lv_at hl 1 rfl) ?_
    refine lv_aload_n hx hb dX0_wear_54 rfl (lv_at hl 1 rfl) ?_
    refine va_get (v := .int (thr + (- p1))) (D := D) (ci := 0) (C := RX0) (T := TX0) (N := 16) hx hb hts in_X0 hown hK hP 0 rfl rfl 9 (by decide) (hts _ kl_RX0_54) (fun _ h9 => h9) rfl dX0_wear_55 ?_
    refine lv_i2l hx hb dX0_wear_58 rfl ?_
    refine lv_aload_n hx hb dX0_wear_59 rfl (lv_at hl 3 rfl) ?_
    refine va_getN (v := .int fad) (D := D) (ci := 7) (C := RX7) (T := TX7) (N := 12) hx hb hts in_X7 hown hK hP 1 rfl rfl 1 (by decide) (hts _ kl_RX0_151) (fun _ h9 => h9) rfl dX0_wear_60 ?_
    refine lv_i2l hx hb dX0_wear_63 rfl ?_
    obtain ⟨hP, hD⟩ := ty_ipPD (E1 := [(fn_0 cl cur pts nom ohm pol tau chg lft (if (cap - r_12.toInt32) < (nom / 2) then (nom / 2) else (cap - r_12.toInt32)) (thr + (- p1)) pz tmp het cun vol bk), (fn_7 se efc fad hea coo low hig hot amb wlo whi who spa)]) (E2 := []) hP hD rfl ty_mv2
    refine ty_Kl hP hD hS hA (va_runSN (As := [.long ((thr + (- p1)).toInt64), .long fad.toInt64]) (rest := [.ref cl]) ⟨hx, hb, hml, hown, hts⟩ (r_X10_remainder l D ct (fun _ => none) [] (fun _ => True) (fun _ _ _ => True) ((thr + (- p1)).toInt64) fad.toInt64 _ ty_V0 ty_C0 ty_y10) (cm_SN 2 hts kc_X10_remainder ki_RX10 kl_RX0_154 ks_X10_remainder kd_X10_remainder ⟨Nat.le_of_ble_eq_true rfl, Nat.le_of_ble_eq_true rfl⟩) (ty_preS hP hK hD hS hA hX) rfl rfl hl.1 rfl (lv_room (Nat.le_of_ble_eq_true rfl)) dX0_wear_64 ⟨Nat.le_of_ble_eq_true rfl, Nat.le_of_ble_eq_true rfl⟩) (fun r_17 u H locs hw_18 hP hD hS => ?_)
    obtain ⟨ws_19, rfl⟩ : ∃ z, z = u := ⟨_, rfl⟩
    obtain ⟨hT9_20, hp_21⟩ := hw_18
    have hp_21 : (a_X10_remainder ((thr + (- p1)).toInt64) fad.toInt64 r_17) := hp_21
    obtain ⟨hP, hD⟩ := ty_bkPD (E := [(fn_0 cl cur pts nom ohm pol tau chg lft (if (cap - r_12.toInt32) < (nom / 2) then (nom / 2) else (cap - r_12.toInt32)) (thr + (- p1)) pz tmp het cun vol bk), (fn_7 se efc fad hea coo low hig hot amb wlo whi who spa)]) hP hD rfl
    refine lv_l2i hx hb dX0_wear_67 rfl ?_
    refine va_put (v := .int r_17.toInt32) (ty := .int) (D := D) (ci := 0) (C := RX0) (T := TX0) (N := 16) hx hb hts in_X0 tyX0 tyX0_ok nmX0 hown hK hP hD hS 0 rfl rfl 9 (by decide) (hts _ kl_RX0_54) (fun _ h9 => h9) rfl (by decide +kernel) rfl rfl (Nat.le_of_ble_eq_true rfl) dX0_wear_68 (fun H locs hP hD hS => ?_)
    have hP : va_P D vwCl ([(fn_0 cl cur pts nom ohm pol tau chg lft (if (cap - r_12.toInt32) < (nom / 2) then (nom / 2) else (cap - r_12.toInt32)) r_17.toInt32 pz tmp het cun vol bk), (fn_7 se efc fad hea coo low hig hot amb wlo whi who spa)] ++ ws) H := hP
    have hD : va_D A ([(fn_0 cl cur pts nom ohm pol tau chg lft (if (cap - r_12.toInt32) < (nom / 2) then (nom / 2) else (cap - r_12.toInt32)) r_17.toInt32 pz tmp het cun vol bk), (fn_7 se efc fad hea coo low hig hot amb wlo whi who spa)] ++ ws) := hD
    exact W.vret hx hb hr (fun t ht hW => ⟨⟨(ws, (if (cap - r_12.toInt32) < (nom / 2) then (nom / 2) else (cap - r_12.toInt32)), r_17.toInt32), rfl, ⟨hT, (Or.inr ⟨hc_1, ⟨r_12, hp_16, ⟨r_17, hp_21, ⟨rfl, rfl⟩⟩⟩⟩)⟩, by rw [ht]; exact hP, by rw [hAe]; exact hD⟩, hS.F ht⟩) hS.2.2 dX0_wear_71
def a_X0_warm (ohm : Int32) (tmp : Int32) (het : Int32) (hea : Int32) (coo : Int32) (amb : Int32) (p1 : Int32) (tmp1 : Int32) (het1 : Int32) : Prop := (∃ (r_1 : Int64), (a_X10_quotient ((het + (((((p1 * p1) / 1000) * ohm) / 1000) - ((tmp - amb) * coo))).toInt64) hea.toInt64 r_1) ∧ (∃ (r_6 : Int64), (a_X10_remainder ((het + (((((p1 * p1) / 1000) * ohm) / 1000) - ((tmp - amb) * coo))).toInt64) hea.toInt64 r_6) ∧ (tmp1 = (tmp + r_1.toInt32) ∧ het1 = r_6.toInt32)))
set_option maxRecDepth 100000 in
set_option maxHeartbeats 4000000 in
theorem r_X0_warm (l : Launch) (D : va_G) (ct : Nat → ClassId) (S : ty_S) (ws : va_W) (ph : va_W → Prop) (xx : Nat → Nat → Nat → Prop) (cl : Nat) (cur : Nat) (pts : Int32) (nom : Int32) (ohm : Int32) (pol : Int32) (tau : Int32) (chg : Int32) (lft : Int32) (cap : Int32) (thr : Int32) (pz : Int32) (tmp : Int32) (het : Int32) (cun : Int32) (vol : Int32) (bk : Nat) (se : Nat) (efc : Int32) (fad : Int32) (hea : Int32) (coo : Int32) (low : Int32) (hig : Int32) (hot : Int32) (amb : Int32) (wlo : Int32) (whi : Int32) (who : Int32) (spa : Int32) (p1 : Int32) (sz : Nat) (hT : ty_V ct S ph ws) (hph : ty_C ph xx) (hy1 : ty_y1 xx) : Met l yX0_warm (ws_ yX0_warm cX0_warm 3 none) ({ frames := 1, cells := 0, slots := 0, locals := 23 } : Room) (va_Pc [.ref cl, .int p1, .ref se] (cmP D ct sz ([(fn_0 cl cur pts nom ohm pol tau chg lft cap thr pz tmp het cun vol bk), (fn_7 se efc fad hea coo low hig hot amb wlo whi who spa)] ++ ws))) (va_Qv (fun (u : va_W × Int32 × Int32) => match u with | (u9, tmp1, het1) => ty_V ct S ph u9 ∧ (a_X0_warm ohm tmp het hea coo amb p1 tmp1 het1)) (cmB D ([(fn_0 cl cur pts nom ohm pol tau chg lft cap thr pz tmp het cun vol bk), (fn_7 se efc fad hea coo low hig hot amb wlo whi who spa)] ++ ws) sz (fun (u : va_W × Int32 × Int32) => match u with | (u9, tmp1, het1) => ([(fn_0 cl cur pts nom ohm pol tau chg lft cap thr pz tmp1 het1 cun vol bk), (fn_7 se efc fad hea coo low hig hot amb wlo whi who spa)] ++ u9))) (va_A ([(fn_0 cl cur pts nom ohm pol tau chg lft cap thr pz tmp het cun vol bk), (fn_7 se efc fad hea coo low hig hot amb wlo whi who spa)] ++ ws) sz)) 0 0 (va_A ([(fn_0 cl cur pts nom ohm pol tau chg lft cap thr pz tmp het cun vol bk), (fn_7 se efc fad hea coo low hig hot amb wlo whi who spa)] ++ ws) sz) := by
  refine Met.ofW (cc := cX0_warm) (maxL := 3) (ret := none) (by decide) rfl ?_
  intro p e s m args below meth c s₁ B hml hv
  obtain ⟨rfl, hsz, hP, hK, hD0, hX⟩ := hv
  have hx := B.exec
  have hb := B.bytes
  have hr := B.returns
  have hts := ws_all (atoms_spec (ws := ws_ yX0_warm cX0_warm 3 none) B.pre)
  have hown : s.vm.findClass RX0 = some m.cls := findClass_of_methodNamed B.named
  have hlocks := B.notSynchronized
  subst hsz
  have hD := hD0.self (sz := s.heap.size)
  generalize hAe : va_A ([(fn_0 cl cur pts nom ohm pol tau chg lft cap thr pz tmp het cun vol bk), (fn_7 se efc fad hea coo low hig hot amb wlo whi who spa)] ++ ws) s.heap.size = A at hD hX ⊢
  have hA : ∀ q : Nat, s.heap.size ≤ q → A q := fun q h => by rw [← hAe]; exact Or.inr h
  have hS : va_S A s.heap s.heap [] := va_S.rf
  have hl := lv_entry ([.ref cl, .int p1, .ref se]) (n := 3) (Nat.le_of_ble_eq_true rfl)
  rw [lg_entry_eq]
  generalize (lg_sl ([.ref cl, .int p1, .ref se]) ++ List.replicate (3 - (lg_sl ([.ref cl, .int p1, .ref se])).length) Slot.unset).toArray = ls at hl ⊢
  have hl : lv_has ls 3 [(0, .ref cl), (1, .int p1), (2, .ref se)] := hl
  refine lv_aload_n hx hb dX0_warm_0 rfl (lv_at hl 0 rfl) ?_
  refine lv_dup hx hb dX0_warm_1 rfl ?_
  refine va_get (v := .int het) (D := D) (ci := 0) (C := RX0) (T := TX0) (N := 16) hx hb hts in_X0 hown hK hP 0 rfl rfl 12 (by decide) (hts _ kl_RX0_63) (fun _ h9 => h9) rfl dX0_warm_2 ?_
  refine lv_iload_n hx hb dX0_warm_5 rfl (lv_at hl 1 rfl) ?_
  refine lv_iload_n hx hb dX0_warm_6 rfl (lv_at hl 1 rfl) ?_
  refine lv_imul hx hb dX0_warm_7 ?_
  refine lv_sipush (v := 1000) hx hb dX0_warm_8 (by decide) ?_
  refine lv_idiv hx hb dX0_warm_11 (by decide) ?_
  refine lv_aload_n hx hb dX0_warm_12 rfl (lv_at hl 0 rfl) ?_
  refine va_get (v := .int ohm) (D := D) (ci := 0) (C := RX0) (T := TX0) (N := 16) hx hb hts in_X0 hown hK hP 0 rfl rfl 3 (by decide) (hts _ kl_RX0_90) (fun _ h9 => h9) rfl dX0_warm_13 ?_
  refine lv_imul hx hb dX0_warm_16 ?_
  refine lv_sipush (v := 1000) hx hb dX0_warm_17 (by decide) ?_
  refine lv_idiv hx hb dX0_warm_20 (by decide) ?_
  refine lv_aload_n hx hb dX0_warm_21 rfl (lv_at hl 0 rfl) ?_
  refine va_get (v := .int tmp) (D := D) (ci := 0) (C := RX0) (T := TX0) (N := 16) hx hb hts in_X0 hown hK hP 0 rfl rfl 11 (by decide) (hts _ kl_RX0_60) (fun _ h9 => h9) rfl dX0_warm_22 ?_
  refine lv_aload_n hx hb dX0_warm_25 rfl (lv_at hl 2 rfl) ?_
  refine va_getN (v := .int amb) (D := D) (ci := 7) (C := RX7) (T := TX7) (N := 12) hx hb hts in_X7 hown hK hP 1 rfl rfl 7 (by decide) (hts _ kl_RX0_157) (fun _ h9 => h9) rfl dX0_warm_26 ?_
  refine lv_isub hx hb dX0_warm_29 ?_
  refine lv_aload_n hx hb dX0_warm_30 rfl (lv_at hl 2 rfl) ?_
  refine va_getN (v := .int coo) (D := D) (ci := 7) (C := RX7) (T := TX7) (N := 12) hx hb hts in_X7 hown hK hP 1 rfl rfl 3 (by decide) (hts _ kl_RX0_160) (fun _ h9 => h9) rfl dX0_warm_31 ?_
  refine lv_imul hx hb dX0_warm_34 ?_
  refine lv_isub hx hb dX0_warm_35 ?_
  refine lv_iadd hx hb dX0_warm_36 ?_
  refine va_put (v := .int (het + (((((p1 * p1) / 1000) * ohm) / 1000) - ((tmp - amb) * coo)))) (ty := .int) (D := D) (ci := 0) (C := RX0) (T := TX0) (N := 16) hx hb hts in_X0 tyX0 tyX0_ok nmX0 hown hK hP hD hS 0 rfl rfl 12 (by decide) (hts _ kl_RX0_63) (fun _ h9 => h9) rfl (by decide +kernel) rfl rfl (Nat.le_of_ble_eq_true rfl) dX0_warm_37 (fun H locs hP hD hS => ?_)
  have hP : va_P D vwCl ([(fn_0 cl cur pts nom ohm pol tau chg lft cap thr pz tmp (het + (((((p1 * p1) / 1000) * ohm) / 1000) - ((tmp - amb) * coo))) cun vol bk), (fn_7 se efc fad hea coo low hig hot amb wlo whi who spa)] ++ ws) H := hP
  have hD : va_D A ([(fn_0 cl cur pts nom ohm pol tau chg lft cap thr pz tmp (het + (((((p1 * p1) / 1000) * ohm) / 1000) - ((tmp - amb) * coo))) cun vol bk), (fn_7 se efc fad hea coo low hig hot amb wlo whi who spa)] ++ ws) := hD
  refine lv_aload_n hx hb dX0_warm_40 rfl (lv_at hl 0 rfl) ?_
  refine lv_dup hx hb dX0_warm_41 rfl ?_
  refine va_get (v := .int tmp) (D := D) (ci := 0) (C := RX0) (T := TX0) (N := 16) hx hb hts in_X0 hown hK hP 0 rfl rfl 11 (by decide) (hts _ kl_RX0_60) (fun _ h9 => h9) rfl dX0_warm_42 ?_
  refine lv_aload_n hx hb dX0_warm_45 rfl (lv_at hl 0 rfl) ?_
  refine va_get (v := .int (het + (((((p1 * p1) / 1000) * ohm) / 1000) - ((tmp - amb) * coo)))) (D := D) (ci := 0) (C := RX0) (T := TX0) (N := 16) hx hb hts in_X0 hown hK hP 0 rfl rfl 12 (by decide) (hts _ kl_RX0_63) (fun _ h9 => h9) rfl dX0_warm_46 ?_
  refine lv_i2l hx hb dX0_warm_49 rfl ?_
  refine lv_aload_n hx hb dX0_warm_50 rfl (lv_at hl 2 rfl) ?_
  refine va_getN (v := .int hea) (D := D) (ci := 7) (C := RX7) (T := TX7) (N := 12) hx hb hts in_X7 hown hK hP 1 rfl rfl 2 (by decide) (hts _ kl_RX0_163) (fun _ h9 => h9) rfl dX0_warm_51 ?_
  refine lv_i2l hx hb dX0_warm_54 rfl ?_
  obtain ⟨hP, hD⟩ := ty_ipPD (E1 := [(fn_0 cl cur pts nom ohm pol tau chg lft cap thr pz tmp (het + (((((p1 * p1) / 1000) * ohm) / 1000) - ((tmp - amb) * coo))) cun vol bk), (fn_7 se efc fad hea coo low hig hot amb wlo whi who spa)]) (E2 := []) hP hD rfl ty_mv2
  refine ty_Kl hP hD hS hA (va_runSN (As := [.long ((het + (((((p1 * p1) / 1000) * ohm) / 1000) - ((tmp - amb) * coo))).toInt64), .long hea.toInt64]) (rest := [.int tmp, .ref cl]) ⟨hx, hb, hml, hown, hts⟩ (r_X10_quotient l D ct (fun _ => none) [] (fun _ => True) (fun _ _ _ => True) ((het + (((((p1 * p1) / 1000) * ohm) / 1000) - ((tmp - amb) * coo))).toInt64) hea.toInt64 _ ty_V0 ty_C0 ty_y10) (cm_SN 2 hts kc_X10_quotient ki_RX10 kl_RX0_75 ks_X10_quotient kd_X10_quotient ⟨Nat.le_of_ble_eq_true rfl, Nat.le_of_ble_eq_true rfl⟩) (ty_preS hP hK hD hS hA hX) rfl rfl hl.1 rfl (lv_room (Nat.le_of_ble_eq_true rfl)) dX0_warm_55 ⟨Nat.le_of_ble_eq_true rfl, Nat.le_of_ble_eq_true rfl⟩) (fun r_1 u H locs hw_2 hP hD hS => ?_)
  obtain ⟨ws_3, rfl⟩ : ∃ z, z = u := ⟨_, rfl⟩
  obtain ⟨hT9_4, hp_5⟩ := hw_2
  have hp_5 : (a_X10_quotient ((het + (((((p1 * p1) / 1000) * ohm) / 1000) - ((tmp - amb) * coo))).toInt64) hea.toInt64 r_1) := hp_5
  obtain ⟨hP, hD⟩ := ty_bkPD (E := [(fn_0 cl cur pts nom ohm pol tau chg lft cap thr pz tmp (het + (((((p1 * p1) / 1000) * ohm) / 1000) - ((tmp - amb) * coo))) cun vol bk), (fn_7 se efc fad hea coo low hig hot amb wlo whi who spa)]) hP hD rfl
  refine lv_l2i hx hb dX0_warm_58 rfl ?_
  refine lv_iadd hx hb dX0_warm_59 ?_
  refine va_put (v := .int (tmp + r_1.toInt32)) (ty := .int) (D := D) (ci := 0) (C := RX0) (T := TX0) (N := 16) hx hb hts in_X0 tyX0 tyX0_ok nmX0 hown hK hP hD hS 0 rfl rfl 11 (by decide) (hts _ kl_RX0_60) (fun _ h9 => h9) rfl (by decide +kernel) rfl rfl (Nat.le_of_ble_eq_true rfl) dX0_warm_60 (fun H locs hP hD hS => ?_)
  have hP : va_P D vwCl ([(fn_0 cl cur pts nom ohm pol tau chg lft cap thr pz (tmp + r_1.toInt32) (het + (((((p1 * p1) / 1000) * ohm) / 1000) - ((tmp - amb) * coo))) cun vol bk), (fn_7 se efc fad hea coo low hig hot amb wlo whi who spa)] ++ ws) H := hP
  have hD : va_D A ([(fn_0 cl cur pts nom ohm pol tau chg lft cap thr pz (tmp + r_1.toInt32) (het + (((((p1 * p1) / 1000) * ohm) / 1000) - ((tmp - amb) * coo))) cun vol bk), (fn_7 se efc fad hea coo low hig hot amb wlo whi who spa)] ++ ws) := hD
  refine lv_aload_n hx hb dX0_warm_63 rfl (lv_at hl 0 rfl) ?_
  refine lv_aload_n hx hb dX0_warm_64 rfl (lv_at hl 0 rfl) ?_
  refine va_get (v := .int (het + (((((p1 * p1) / 1000) * ohm) / 1000) - ((tmp - amb) * coo)))) (D := D) (ci := 0) (C := RX0) (T := TX0) (N := 16) hx hb hts in_X0 hown hK hP 0 rfl rfl 12 (by decide) (hts _ kl_RX0_63) (fun _ h9 => h9) rfl dX0_warm_65 ?_
  refine lv_i2l hx hb dX0_warm_68 rfl ?_
  refine lv_aload_n hx hb dX0_warm_69 rfl (lv_at hl 2 rfl) ?_
  refine va_getN (v := .int hea) (D := D) (ci := 7) (C := RX7) (T := TX7) (N := 12) hx hb hts in_X7 hown hK hP 1 rfl rfl 2 (by decide) (hts _ kl_RX0_163) (fun _ h9 => h9) rfl dX0_warm_70 ?_
  refine lv_i2l hx hb dX0_warm_73 rfl ?_
  obtain ⟨hP, hD⟩ := ty_ipPD (E1 := [(fn_0 cl cur pts nom ohm pol tau chg lft cap thr pz (tmp + r_1.toInt32) (het + (((((p1 * p1) / 1000) * ohm) / 1000) - ((tmp - amb) * coo))) cun vol bk), (fn_7 se efc fad hea coo low hig hot amb wlo whi who spa)]) (E2 := []) hP hD rfl ty_mv2
  refine ty_Kl hP hD hS hA (va_runSN (As := [.long ((het + (((((p1 * p1) / 1000) * ohm) / 1000) - ((tmp - amb) * coo))).toInt64), .long hea.toInt64]) (rest := [.ref cl]) ⟨hx, hb, hml, hown, hts⟩ (r_X10_remainder l D ct (fun _ => none) [] (fun _ => True) (fun _ _ _ => True) ((het + (((((p1 * p1) / 1000) * ohm) / 1000) - ((tmp - amb) * coo))).toInt64) hea.toInt64 _ ty_V0 ty_C0 ty_y10) (cm_SN 2 hts kc_X10_remainder ki_RX10 kl_RX0_154 ks_X10_remainder kd_X10_remainder ⟨Nat.le_of_ble_eq_true rfl, Nat.le_of_ble_eq_true rfl⟩) (ty_preS hP hK hD hS hA hX) rfl rfl hl.1 rfl (lv_room (Nat.le_of_ble_eq_true rfl)) dX0_warm_74 ⟨Nat.le_of_ble_eq_true rfl, Nat.le_of_ble_eq_true rfl⟩) (fun r_6 u H locs hw_7 hP hD hS => ?_)
  obtain ⟨ws_8, rfl⟩ : ∃ z, z = u := ⟨_, rfl⟩
  obtain ⟨hT9_9, hp_10⟩ := hw_7
  have hp_10 : (a_X10_remainder ((het + (((((p1 * p1) / 1000) * ohm) / 1000) - ((tmp - amb) * coo))).toInt64) hea.toInt64 r_6) := hp_10
  obtain ⟨hP, hD⟩ := ty_bkPD (E := [(fn_0 cl cur pts nom ohm pol tau chg lft cap thr pz (tmp + r_1.toInt32) (het + (((((p1 * p1) / 1000) * ohm) / 1000) - ((tmp - amb) * coo))) cun vol bk), (fn_7 se efc fad hea coo low hig hot amb wlo whi who spa)]) hP hD rfl
  refine lv_l2i hx hb dX0_warm_77 rfl ?_
  refine va_put (v := .int r_6.toInt32) (ty := .int) (D := D) (ci := 0) (C := RX0) (T := TX0) (N := 16) hx hb hts in_X0 tyX0 tyX0_ok nmX0 hown hK hP hD hS 0 rfl rfl 12 (by decide) (hts _ kl_RX0_63) (fun _ h9 => h9) rfl (by decide +kernel) rfl rfl (Nat.le_of_ble_eq_true rfl) dX0_warm_78 (fun H locs hP hD hS => ?_)
  have hP : va_P D vwCl ([(fn_0 cl cur pts nom ohm pol tau chg lft cap thr pz (tmp + r_1.toInt32) r_6.toInt32 cun vol bk), (fn_7 se efc fad hea coo low hig hot amb wlo whi who spa)] ++ ws) H := hP
  have hD : va_D A ([(fn_0 cl cur pts nom ohm pol tau chg lft cap thr pz (tmp + r_1.toInt32) r_6.toInt32 cun vol bk), (fn_7 se efc fad hea coo low hig hot amb wlo whi who spa)] ++ ws) := hD
  exact W.vret hx hb hr (fun t ht hW => ⟨⟨(ws, (tmp + r_1.toInt32), r_6.toInt32), rfl, ⟨hT, ⟨r_1, hp_5, ⟨r_6, hp_10, ⟨rfl, rfl⟩⟩⟩⟩, by rw [ht]; exact hP, by rw [hAe]; exact hD⟩, hS.F ht⟩) hS.2.2 dX0_warm_81
def a_X0_restVoltageAt (pts : Int32) (cap : Int32) (cv : Nat → Int32) (p1 : Int32) (r : Int32) : Prop := (∃ (r_1 : Int64), (a_X10_quotient (p1.toInt64 * ((pts - 1).toInt64)) cap.toInt64 r_1) ∧ (∃ (r_6 : Int32), (a_X10_at_11 cv (((if (pts - 2).toInt64 < r_1 then (pts - 2).toInt64 else r_1).toInt32) + 1) r_6) ∧ (∃ (r_11 : Int32), (a_X10_at_11 cv ((if (pts - 2).toInt64 < r_1 then (pts - 2).toInt64 else r_1).toInt32) r_11) ∧ (∃ (r_16 : Int32), (a_X10_at_11 cv ((if (pts - 2).toInt64 < r_1 then (pts - 2).toInt64 else r_1).toInt32) r_16) ∧ (∃ (r_21 : Int64), (a_X10_quotient (((r_6 - r_11).toInt64) * ((p1.toInt64 * ((pts - 1).toInt64)) - ((((if (pts - 2).toInt64 < r_1 then (pts - 2).toInt64 else r_1).toInt32).toInt64) * cap.toInt64))) cap.toInt64 r_21) ∧ (r = (r_16.toInt64 + r_21).toInt32))))))
set_option maxRecDepth 100000 in
set_option maxHeartbeats 4000000 in
theorem r_X0_restVoltageAt (l : Launch) (D : va_G) (ct : Nat → ClassId) (S : ty_S) (ws : va_W) (ph : va_W → Prop) (xx : Nat → Nat → Nat → Prop) (cl : Nat) (cur : Nat) (pts : Int32) (nom : Int32) (ohm : Int32) (pol : Int32) (tau : Int32) (chg : Int32) (lft : Int32) (cap : Int32) (thr : Int32) (pz : Int32) (tmp : Int32) (het : Int32) (cun : Int32) (vol : Int32) (bk : Nat) (cv : Nat → Int32) (p1 : Int32) (sz : Nat) (hT : ty_V ct S ph ws) (hph : ty_C ph xx) (hy1 : ty_y1 xx) : Met l yX0_restVoltageAt (ws_ yX0_restVoltageAt cX0_restVoltageAt 7 (some .int)) ({ frames := 1, cells := 0, slots := 0, locals := 23 } : Room) (va_Pc [.ref cl, .int p1] (cmP D ct sz ([(fn_0 cl cur pts nom ohm pol tau chg lft cap thr pz tmp het cun vol bk), (rf_RW ct 0 cur 11 cv)] ++ ws))) (va_Qi (fun (r : Int32) (u9 : va_W) => ty_V ct S ph u9 ∧ (a_X0_restVoltageAt pts cap cv p1 r)) (cmB D ([(fn_0 cl cur pts nom ohm pol tau chg lft cap thr pz tmp het cun vol bk), (rf_RW ct 0 cur 11 cv)] ++ ws) sz (fun (u9 : va_W) => ([(fn_0 cl cur pts nom ohm pol tau chg lft cap thr pz tmp het cun vol bk), (rf_RW ct 0 cur 11 cv)] ++ u9))) (va_A ([(fn_0 cl cur pts nom ohm pol tau chg lft cap thr pz tmp het cun vol bk), (rf_RW ct 0 cur 11 cv)] ++ ws) sz)) 0 0 (va_A ([(fn_0 cl cur pts nom ohm pol tau chg lft cap thr pz tmp het cun vol bk), (rf_RW ct 0 cur 11 cv)] ++ ws) sz) := by
  refine Met.ofW (cc := cX0_restVoltageAt) (maxL := 7) (ret := (some .int)) (by decide) rfl ?_
  intro p e s m args below meth c s₁ B hml hv
  obtain ⟨rfl, hsz, hP, hK, hD0, hX⟩ := hv
  have hx := B.exec
  have hb := B.bytes
  have hr := B.returns
  have hts := ws_all (atoms_spec (ws := ws_ yX0_restVoltageAt cX0_restVoltageAt 7 (some .int)) B.pre)
  have hown : s.vm.findClass RX0 = some m.cls := findClass_of_methodNamed B.named
  have hlocks := B.notSynchronized
  subst hsz
  have hD := hD0.self (sz := s.heap.size)
  generalize hAe : va_A ([(fn_0 cl cur pts nom ohm pol tau chg lft cap thr pz tmp het cun vol bk), (rf_RW ct 0 cur 11 cv)] ++ ws) s.heap.size = A at hD hX ⊢
  have hA : ∀ q : Nat, s.heap.size ≤ q → A q := fun q h => by rw [← hAe]; exact Or.inr h
  have hS : va_S A s.heap s.heap [] := va_S.rf
  have hl := lv_entry ([.ref cl, .int p1]) (n := 7) (Nat.le_of_ble_eq_true rfl)
  rw [lg_entry_eq]
  generalize (lg_sl ([.ref cl, .int p1]) ++ List.replicate (7 - (lg_sl ([.ref cl, .int p1])).length) Slot.unset).toArray = ls at hl ⊢
  have hl : lv_has ls 7 [(0, .ref cl), (1, .int p1)] := hl
  refine lv_iload_n hx hb dX0_restVoltageAt_0 rfl (lv_at hl 1 rfl) ?_
  refine lv_i2l hx hb dX0_restVoltageAt_1 rfl ?_
  refine lv_aload_n hx hb dX0_restVoltageAt_2 rfl (lv_at hl 0 rfl) ?_
  refine va_get (v := .int pts) (D := D) (ci := 0) (C := RX0) (T := TX0) (N := 16) hx hb hts in_X0 hown hK hP 0 rfl rfl 1 (by decide) (hts _ kl_RX0_31) (fun _ h9 => h9) rfl dX0_restVoltageAt_3 ?_
  refine lv_iconst (v := 1) hx hb dX0_restVoltageAt_6 (by decide) ?_
  refine lv_isub hx hb dX0_restVoltageAt_7 ?_
  refine lv_i2l hx hb dX0_restVoltageAt_8 rfl ?_
  refine lv_lmul hx hb dX0_restVoltageAt_9 ?_
  refine lv_lstore_n (lv' := [(2, .long (p1.toInt64 * ((pts - 1).toInt64))), (0, .ref cl), (1, .int p1)]) hx hb dX0_restVoltageAt_10 rfl hl (by decide) rfl (fun ls hl => ?_)
  refine lv_lload_n hx hb dX0_restVoltageAt_11 rfl (lv_at hl 0 rfl) ?_
  refine lv_aload_n hx hb dX0_restVoltageAt_12 rfl (lv_at hl 1 rfl) ?_
  refine va_get (v := .int cap) (D := D) (ci := 0) (C := RX0) (T := TX0) (N := 16) hx hb hts in_X0 hown hK hP 0 rfl rfl 8 (by decide) (hts _ kl_RX0_51) (fun _ h9 => h9) rfl dX0_restVoltageAt_13 ?_
  refine lv_i2l hx hb dX0_restVoltageAt_16 rfl ?_
  obtain ⟨hP, hD⟩ := ty_ipPD (E1 := [(fn_0 cl cur pts nom ohm pol tau chg lft cap thr pz tmp het cun vol bk), (rf_RW ct 0 cur 11 cv)]) (E2 := []) hP hD rfl ty_mv2
  refine ty_Kl hP hD hS hA (va_runSN (As := [.long (p1.toInt64 * ((pts - 1).toInt64)), .long cap.toInt64]) (rest := []) ⟨hx, hb, hml, hown, hts⟩ (r_X10_quotient l D ct (fun _ => none) [] (fun _ => True) (fun _ _ _ => True) (p1.toInt64 * ((pts - 1).toInt64)) cap.toInt64 _ ty_V0 ty_C0 ty_y10) (cm_SN 2 hts kc_X10_quotient ki_RX10 kl_RX0_75 ks_X10_quotient kd_X10_quotient ⟨Nat.le_of_ble_eq_true rfl, Nat.le_of_ble_eq_true rfl⟩) (ty_preS hP hK hD hS hA hX) rfl rfl hl.1 rfl (lv_room (Nat.le_of_ble_eq_true rfl)) dX0_restVoltageAt_17 ⟨Nat.le_of_ble_eq_true rfl, Nat.le_of_ble_eq_true rfl⟩) (fun r_1 u H locs hw_2 hP hD hS => ?_)
  obtain ⟨ws_3, rfl⟩ : ∃ z, z = u := ⟨_, rfl⟩
  obtain ⟨hT9_4, hp_5⟩ := hw_2
  have hp_5 : (a_X10_quotient (p1.toInt64 * ((pts - 1).toInt64)) cap.toInt64 r_1) := hp_5
  obtain ⟨hP, hD⟩ := ty_bkPD (E := [(fn_0 cl cur pts nom ohm pol tau chg lft cap thr pz tmp het cun vol bk), (rf_RW ct 0 cur 11 cv)]) hP hD rfl
  refine lv_aload_n hx hb dX0_restVoltageAt_20 rfl (lv_at hl 1 rfl) ?_
  refine va_get (v := .int pts) (D := D) (ci := 0) (C := RX0) (T := TX0) (N := 16) hx hb hts in_X0 hown hK hP 0 rfl rfl 1 (by decide) (hts _ kl_RX0_31) (fun _ h9 => h9) rfl dX0_restVoltageAt_21 ?_
  refine lv_iconst (v := 2) hx hb dX0_restVoltageAt_24 (by decide) ?_
  refine lv_isub hx hb dX0_restVoltageAt_25 ?_
  refine lv_i2l hx hb dX0_restVoltageAt_26 rfl ?_
  refine va_mmin_long hx hb (hml.trans hl.1.symm) hown (hts _ kl_RX0_79) (hts _ jm_min_long_s) (hts _ ki_RJ9) (hts _ jm_min_long_c) (Nat.le_of_ble_eq_true rfl) (Nat.le_of_ble_eq_true rfl) (Nat.le_of_ble_eq_true rfl) (Nat.le_of_ble_eq_true rfl) dX0_restVoltageAt_27 ?_
  refine lv_l2i hx hb dX0_restVoltageAt_30 rfl ?_
  refine lv_istore (lv' := [(4, .int ((if (pts - 2).toInt64 < r_1 then (pts - 2).toInt64 else r_1).toInt32)), (2, .long (p1.toInt64 * ((pts - 1).toInt64))), (0, .ref cl), (1, .int p1)]) hx hb dX0_restVoltageAt_31 hl (by decide) rfl (fun ls hl => ?_)
  refine lv_aload_n hx hb dX0_restVoltageAt_33 rfl (lv_at hl 2 rfl) ?_
  refine va_get (v := .ref cur) (D := D) (ci := 0) (C := RX0) (T := TX0) (N := 16) hx hb hts in_X0 hown hK hP 0 rfl rfl 0 (by decide) (hts _ kl_RX0_9) (fun _ h9 => h9) rfl dX0_restVoltageAt_34 ?_
  refine lv_iload hx hb dX0_restVoltageAt_37 (lv_at hl 0 rfl) ?_
  refine lv_iconst (v := 1) hx hb dX0_restVoltageAt_39 (by decide) ?_
  refine lv_iadd hx hb dX0_restVoltageAt_40 ?_
  obtain ⟨hP, hD⟩ := ty_ipPD (E1 := [(fn_0 cl cur pts nom ohm pol tau chg lft cap thr pz tmp het cun vol bk)]) (E2 := [(rf_RW ct 0 cur 11 cv)]) hP hD rfl ty_mv2
  refine ty_Ki hP hD hS hA (va_runSN (As := [.ref cur, .int (((if (pts - 2).toInt64 < r_1 then (pts - 2).toInt64 else r_1).toInt32) + 1)]) (rest := []) ⟨hx, hb, hml, hown, hts⟩ (r_X10_at_11 l D ct (fun _ => none) [] (fun _ => True) (fun _ _ _ => True) cur cv (((if (pts - 2).toInt64 < r_1 then (pts - 2).toInt64 else r_1).toInt32) + 1) _ ty_V0 ty_C0 ty_y10) (cm_SN 2 hts kc_X10_at ki_RX10 kl_RX0_27 ks_X10_at kd_X10_at ⟨Nat.le_of_ble_eq_true rfl, Nat.le_of_ble_eq_true rfl⟩) (ty_preS hP hK hD hS hA hX) rfl rfl hl.1 rfl (lv_room (Nat.le_of_ble_eq_true rfl)) dX0_restVoltageAt_41 ⟨Nat.le_of_ble_eq_true rfl, Nat.le_of_ble_eq_true rfl⟩) (fun r_6 u H locs hw_7 hP hD hS => ?_)
  obtain ⟨ws_8, rfl⟩ : ∃ z, z = u := ⟨_, rfl⟩
  obtain ⟨hT9_9, hp_10⟩ := hw_7
  have hp_10 : (a_X10_at_11 cv (((if (pts - 2).toInt64 < r_1 then (pts - 2).toInt64 else r_1).toInt32) + 1) r_6) := hp_10
  obtain ⟨hP, hD⟩ := ty_bkPD (E := [(fn_0 cl cur pts nom ohm pol tau chg lft cap thr pz tmp het cun vol bk), (rf_RW ct 0 cur 11 cv)]) hP hD rfl
  refine lv_aload_n hx hb dX0_restVoltageAt_44 rfl (lv_at hl 2 rfl) ?_
  refine va_get (v := .ref cur) (D := D) (ci := 0) (C := RX0) (T := TX0) (N := 16) hx hb hts in_X0 hown hK hP 0 rfl rfl 0 (by decide) (hts _ kl_RX0_9) (fun _ h9 => h9) rfl dX0_restVoltageAt_45 ?_
  refine lv_iload hx hb dX0_restVoltageAt_48 (lv_at hl 0 rfl) ?_
  obtain ⟨hP, hD⟩ := ty_ipPD (E1 := [(fn_0 cl cur pts nom ohm pol tau chg lft cap thr pz tmp het cun vol bk)]) (E2 := [(rf_RW ct 0 cur 11 cv)]) hP hD rfl ty_mv2
  refine ty_Ki hP hD hS hA (va_runSN (As := [.ref cur, .int ((if (pts - 2).toInt64 < r_1 then (pts - 2).toInt64 else r_1).toInt32)]) (rest := [.int r_6]) ⟨hx, hb, hml, hown, hts⟩ (r_X10_at_11 l D ct (fun _ => none) [] (fun _ => True) (fun _ _ _ => True) cur cv ((if (pts - 2).toInt64 < r_1 then (pts - 2).toInt64 else r_1).toInt32) _ ty_V0 ty_C0 ty_y10) (cm_SN 2 hts kc_X10_at ki_RX10 kl_RX0_27 ks_X10_at kd_X10_at ⟨Nat.le_of_ble_eq_true rfl, Nat.le_of_ble_eq_true rfl⟩) (ty_preS hP hK hD hS hA hX) rfl rfl hl.1 rfl (lv_room (Nat.le_of_ble_eq_true rfl)) dX0_restVoltageAt_50 ⟨Nat.le_of_ble_eq_true rfl, Nat.le_of_ble_eq_true rfl⟩) (fun r_11 u H locs hw_12 hP hD hS => ?_)
  obtain ⟨ws_13, rfl⟩ : ∃ z, z = u := ⟨_, rfl⟩
  obtain ⟨hT9_14, hp_15⟩ := hw_12
  have hp_15 : (a_X10_at_11 cv ((if (pts - 2).toInt64 < r_1 then (pts - 2).toInt64 else r_1).toInt32) r_11) := hp_15
  obtain ⟨hP, hD⟩ := ty_bkPD (E := [(fn_0 cl cur pts nom ohm pol tau chg lft cap thr pz tmp het cun vol bk), (rf_RW ct 0 cur 11 cv)]) hP hD rfl
  refine lv_isub hx hb dX0_restVoltageAt_53 ?_
  refine lv_i2l hx hb dX0_restVoltageAt_54 rfl ?_
  refine lv_lstore (lv' := [(5, .long ((r_6 - r_11).toInt64)), (4, .int ((if (pts - 2).toInt64 < r_1 then (pts - 2).toInt64 else r_1).toInt32)), (2, .long (p1.toInt64 * ((pts - 1).toInt64))), (0, .ref cl), (1, .int p1)]) hx hb dX0_restVoltageAt_55 hl (by decide) rfl (fun ls hl => ?_)
  refine lv_aload_n hx hb dX0_restVoltageAt_57 rfl (lv_at hl 3 rfl) ?_
  refine va_get (v := .ref cur) (D := D) (ci := 0) (C := RX0) (T := TX0) (N := 16) hx hb hts in_X0 hown hK hP 0 rfl rfl 0 (by decide) (hts _ kl_RX0_9) (fun _ h9 => h9) rfl dX0_restVoltageAt_58 ?_
  refine lv_iload hx hb dX0_restVoltageAt_61 (lv_at hl 1 rfl) ?_
  obtain ⟨hP, hD⟩ := ty_ipPD (E1 := [(fn_0 cl cur pts nom ohm pol tau chg lft cap thr pz tmp het cun vol bk)]) (E2 := [(rf_RW ct 0 cur 11 cv)]) hP hD rfl ty_mv2
  refine ty_Ki hP hD hS hA (va_runSN (As := [.ref cur, .int ((if (pts - 2).toInt64 < r_1 then (pts - 2).toInt64 else r_1).toInt32)]) (rest := []) ⟨hx, hb, hml, hown, hts⟩ (r_X10_at_11 l D ct (fun _ => none) [] (fun _ => True) (fun _ _ _ => True) cur cv ((if (pts - 2).toInt64 < r_1 then (pts - 2).toInt64 else r_1).toInt32) _ ty_V0 ty_C0 ty_y10) (cm_SN 2 hts kc_X10_at ki_RX10 kl_RX0_27 ks_X10_at kd_X10_at ⟨Nat.le_of_ble_eq_true rfl, Nat.le_of_ble_eq_true rfl⟩) (ty_preS hP hK hD hS hA hX) rfl rfl hl.1 rfl (lv_room (Nat.le_of_ble_eq_true rfl)) dX0_restVoltageAt_63 ⟨Nat.le_of_ble_eq_true rfl, Nat.le_of_ble_eq_true rfl⟩) (fun r_16 u H locs hw_17 hP hD hS => ?_)
  obtain ⟨ws_18, rfl⟩ : ∃ z, z = u := ⟨_, rfl⟩
  obtain ⟨hT9_19, hp_20⟩ := hw_17
  have hp_20 : (a_X10_at_11 cv ((if (pts - 2).toInt64 < r_1 then (pts - 2).toInt64 else r_1).toInt32) r_16) := hp_20
  obtain ⟨hP, hD⟩ := ty_bkPD (E := [(fn_0 cl cur pts nom ohm pol tau chg lft cap thr pz tmp het cun vol bk), (rf_RW ct 0 cur 11 cv)]) hP hD rfl
  refine lv_i2l hx hb dX0_restVoltageAt_66 rfl ?_
  refine lv_lload hx hb dX0_restVoltageAt_67 (lv_at hl 0 rfl) ?_
  refine lv_lload_n hx hb dX0_restVoltageAt_69 rfl (lv_at hl 2 rfl) ?_
  refine lv_iload hx hb dX0_restVoltageAt_70 (lv_at hl 1 rfl) ?_
  refine lv_i2l hx hb dX0_restVoltageAt_72 rfl ?_
  refine lv_aload_n hx hb dX0_restVoltageAt_73 rfl (lv_at hl 3 rfl) ?_
  refine va_get (v := .int cap) (D := D) (ci := 0) (C := RX0) (T := TX0) (N := 16) hx hb hts in_X0 hown hK hP 0 rfl rfl 8 (by decide) (hts _ kl_RX0_51) (fun _ h9 => h9) rfl dX0_restVoltageAt_74 ?_
  refine lv_i2l hx hb dX0_restVoltageAt_77 rfl ?_
  refine lv_lmul hx hb dX0_restVoltageAt_78 ?_
  refine lv_lsub hx hb dX0_restVoltageAt_79 ?_
  refine lv_lmul hx hb dX0_restVoltageAt_80 ?_
  refine lv_aload_n hx hb dX0_restVoltageAt_81 rfl (lv_at hl 3 rfl) ?_
  refine va_get (v := .int cap) (D := D) (ci := 0) (C := RX0) (T := TX0) (N := 16) hx hb hts in_X0 hown hK hP 0 rfl rfl 8 (by decide) (hts _ kl_RX0_51) (fun _ h9 => h9) rfl dX0_restVoltageAt_82 ?_
  refine lv_i2l hx hb dX0_restVoltageAt_85 rfl ?_
  obtain ⟨hP, hD⟩ := ty_ipPD (E1 := [(fn_0 cl cur pts nom ohm pol tau chg lft cap thr pz tmp het cun vol bk), (rf_RW ct 0 cur 11 cv)]) (E2 := []) hP hD rfl ty_mv2
  refine ty_Kl hP hD hS hA (va_runSN (As := [.long (((r_6 - r_11).toInt64) * ((p1.toInt64 * ((pts - 1).toInt64)) - ((((if (pts - 2).toInt64 < r_1 then (pts - 2).toInt64 else r_1).toInt32).toInt64) * cap.toInt64))), .long cap.toInt64]) (rest := [.long r_16.toInt64]) ⟨hx, hb, hml, hown, hts⟩ (r_X10_quotient l D ct (fun _ => none) [] (fun _ => True) (fun _ _ _ => True) (((r_6 - r_11).toInt64) * ((p1.toInt64 * ((pts - 1).toInt64)) - ((((if (pts - 2).toInt64 < r_1 then (pts - 2).toInt64 else r_1).toInt32).toInt64) * cap.toInt64))) cap.toInt64 _ ty_V0 ty_C0 ty_y10) (cm_SN 2 hts kc_X10_quotient ki_RX10 kl_RX0_75 ks_X10_quotient kd_X10_quotient ⟨Nat.le_of_ble_eq_true rfl, Nat.le_of_ble_eq_true rfl⟩) (ty_preS hP hK hD hS hA hX) rfl rfl hl.1 rfl (lv_room (Nat.le_of_ble_eq_true rfl)) dX0_restVoltageAt_86 ⟨Nat.le_of_ble_eq_true rfl, Nat.le_of_ble_eq_true rfl⟩) (fun r_21 u H locs hw_22 hP hD hS => ?_)
  obtain ⟨ws_23, rfl⟩ : ∃ z, z = u := ⟨_, rfl⟩
  obtain ⟨hT9_24, hp_25⟩ := hw_22
  have hp_25 : (a_X10_quotient (((r_6 - r_11).toInt64) * ((p1.toInt64 * ((pts - 1).toInt64)) - ((((if (pts - 2).toInt64 < r_1 then (pts - 2).toInt64 else r_1).toInt32).toInt64) * cap.toInt64))) cap.toInt64 r_21) := hp_25
  obtain ⟨hP, hD⟩ := ty_bkPD (E := [(fn_0 cl cur pts nom ohm pol tau chg lft cap thr pz tmp het cun vol bk), (rf_RW ct 0 cur 11 cv)]) hP hD rfl
  refine lv_ladd hx hb dX0_restVoltageAt_89 ?_
  refine lv_l2i hx hb dX0_restVoltageAt_90 rfl ?_
  exact W.iret (v := (r_16.toInt64 + r_21).toInt32) hx hb hr (fun t ht hW => ⟨⟨(r_16.toInt64 + r_21).toInt32, ws, rfl, ⟨hT, ⟨r_1, hp_5, ⟨r_6, hp_10, ⟨r_11, hp_15, ⟨r_16, hp_20, ⟨r_21, hp_25, rfl⟩⟩⟩⟩⟩⟩, by rw [ht]; exact hP, by rw [hAe]; exact hD⟩, hS.F ht⟩) hS.2.2 dX0_restVoltageAt_91
def a_X0_thousandths (chg : Int32) (cap : Int32) (r : Int32) : Prop := (∃ (r_1 : Int64), (a_X10_quotient (1000 * chg.toInt64) cap.toInt64 r_1) ∧ (r = r_1.toInt32))
set_option maxRecDepth 100000 in
set_option maxHeartbeats 4000000 in
theorem r_X0_thousandths (l : Launch) (D : va_G) (ct : Nat → ClassId) (S : ty_S) (ws : va_W) (ph : va_W → Prop) (xx : Nat → Nat → Nat → Prop) (cl : Nat) (cur : Nat) (pts : Int32) (nom : Int32) (ohm : Int32) (pol : Int32) (tau : Int32) (chg : Int32) (lft : Int32) (cap : Int32) (thr : Int32) (pz : Int32) (tmp : Int32) (het : Int32) (cun : Int32) (vol : Int32) (bk : Nat) (sz : Nat) (hT : ty_V ct S ph ws) (hph : ty_C ph xx) (hy1 : ty_y1 xx) : Met l yX0_thousandths (ws_ yX0_thousandths cX0_thousandths 1 (some .int)) ({ frames := 1, cells := 0, slots := 0, locals := 23 } : Room) (va_Pc [.ref cl] (cmP D ct sz ([(fn_0 cl cur pts nom ohm pol tau chg lft cap thr pz tmp het cun vol bk)] ++ ws))) (va_Qi (fun (r : Int32) (u9 : va_W) => ty_V ct S ph u9 ∧ (a_X0_thousandths chg cap r)) (cmB D ([(fn_0 cl cur pts nom ohm pol tau chg lft cap thr pz tmp het cun vol bk)] ++ ws) sz (fun (u9 : va_W) => ([(fn_0 cl cur pts nom ohm pol tau chg lft cap thr pz tmp het cun vol bk)] ++ u9))) (va_A ([(fn_0 cl cur pts nom ohm pol tau chg lft cap thr pz tmp het cun vol bk)] ++ ws) sz)) 0 0 (va_A ([(fn_0 cl cur pts nom ohm pol tau chg lft cap thr pz tmp het cun vol bk)] ++ ws) sz) := by
  refine Met.ofW (cc := cX0_thousandths) (maxL := 1) (ret := (some .int)) (by decide) rfl ?_
  intro p e s m args below meth c s₁ B hml hv
  obtain ⟨rfl, hsz, hP, hK, hD0, hX⟩ := hv
  have hx := B.exec
  have hb := B.bytes
  have hr := B.returns
  have hts := ws_all (atoms_spec (ws := ws_ yX0_thousandths cX0_thousandths 1 (some .int)) B.pre)
  have hown : s.vm.findClass RX0 = some m.cls := findClass_of_methodNamed B.named
  have hlocks := B.notSynchronized
  subst hsz
  have hD := hD0.self (sz := s.heap.size)
  generalize hAe : va_A ([(fn_0 cl cur pts nom ohm pol tau chg lft cap thr pz tmp het cun vol bk)] ++ ws) s.heap.size = A at hD hX ⊢
  have hA : ∀ q : Nat, s.heap.size ≤ q → A q := fun q h => by rw [← hAe]; exact Or.inr h
  have hS : va_S A s.heap s.heap [] := va_S.rf
  have hl := lv_entry ([.ref cl]) (n := 1) (Nat.le_of_ble_eq_true rfl)
  rw [lg_entry_eq]
  generalize (lg_sl ([.ref cl]) ++ List.replicate (1 - (lg_sl ([.ref cl])).length) Slot.unset).toArray = ls at hl ⊢
  have hl : lv_has ls 1 [(0, .ref cl)] := hl
  refine lv_ldc2 hx hb hown (hts _ kl_RX0_88) dX0_thousandths_0 ?_
  refine lv_aload_n hx hb dX0_thousandths_3 rfl (lv_at hl 0 rfl) ?_
  refine va_get (v := .int chg) (D := D) (ci := 0) (C := RX0) (T := TX0) (N := 16) hx hb hts in_X0 hown hK hP 0 rfl rfl 6 (by decide) (hts _ kl_RX0_42) (fun _ h9 => h9) rfl dX0_thousandths_4 ?_
  refine lv_i2l hx hb dX0_thousandths_7 rfl ?_
  refine lv_lmul hx hb dX0_thousandths_8 ?_
  refine lv_aload_n hx hb dX0_thousandths_9 rfl (lv_at hl 0 rfl) ?_
  refine va_get (v := .int cap) (D := D) (ci := 0) (C := RX0) (T := TX0) (N := 16) hx hb hts in_X0 hown hK hP 0 rfl rfl 8 (by decide) (hts _ kl_RX0_51) (fun _ h9 => h9) rfl dX0_thousandths_10 ?_
  refine lv_i2l hx hb dX0_thousandths_13 rfl ?_
  obtain ⟨hP, hD⟩ := ty_ipPD (E1 := [(fn_0 cl cur pts nom ohm pol tau chg lft cap thr pz tmp het cun vol bk)]) (E2 := []) hP hD rfl ty_mv2
  refine ty_Kl hP hD hS hA (va_runSN (As := [.long (1000 * chg.toInt64), .long cap.toInt64]) (rest := []) ⟨hx, hb, hml, hown, hts⟩ (r_X10_quotient l D ct (fun _ => none) [] (fun _ => True) (fun _ _ _ => True) (1000 * chg.toInt64) cap.toInt64 _ ty_V0 ty_C0 ty_y10) (cm_SN 2 hts kc_X10_quotient ki_RX10 kl_RX0_75 ks_X10_quotient kd_X10_quotient ⟨Nat.le_of_ble_eq_true rfl, Nat.le_of_ble_eq_true rfl⟩) (ty_preS hP hK hD hS hA hX) rfl rfl hl.1 rfl (lv_room (Nat.le_of_ble_eq_true rfl)) dX0_thousandths_14 ⟨Nat.le_of_ble_eq_true rfl, Nat.le_of_ble_eq_true rfl⟩) (fun r_1 u H locs hw_2 hP hD hS => ?_)
  obtain ⟨ws_3, rfl⟩ : ∃ z, z = u := ⟨_, rfl⟩
  obtain ⟨hT9_4, hp_5⟩ := hw_2
  have hp_5 : (a_X10_quotient (1000 * chg.toInt64) cap.toInt64 r_1) := hp_5
  obtain ⟨hP, hD⟩ := ty_bkPD (E := [(fn_0 cl cur pts nom ohm pol tau chg lft cap thr pz tmp het cun vol bk)]) hP hD rfl
  refine lv_l2i hx hb dX0_thousandths_17 rfl ?_
  exact W.iret (v := r_1.toInt32) hx hb hr (fun t ht hW => ⟨⟨r_1.toInt32, ws, rfl, ⟨hT, ⟨r_1, hp_5, rfl⟩⟩, by rw [ht]; exact hP, by rw [hAe]; exact hD⟩, hS.F ht⟩) hS.2.2 dX0_thousandths_18
def a_X0_holding (pts : Int32) (ohm : Int32) (chg : Int32) (cap : Int32) (pz : Int32) (cv : Nat → Int32) (p1 : Int32) (r : Int32) : Prop := (∃ (r_1 : Int32), (a_X0_restVoltageAt pts cap cv chg r_1) ∧ (∃ (r_6 : Int64), (a_X10_quotient (((p1.toInt64 - r_1.toInt64) - pz.toInt64) * 1000) ohm.toInt64 r_6) ∧ (r = (if (if 5000 < r_6 then 5000 else r_6) < 0 then 0 else (if 5000 < r_6 then 5000 else r_6)).toInt32)))
set_option maxRecDepth 100000 in
set_option maxHeartbeats 4000000 in
theorem r_X0_holding (l : Launch) (D : va_G) (ct : Nat → ClassId) (S : ty_S) (ws : va_W) (ph : va_W → Prop) (xx : Nat → Nat → Nat → Prop) (cl : Nat) (cur : Nat) (pts : Int32) (nom : Int32) (ohm : Int32) (pol : Int32) (tau : Int32) (chg : Int32) (lft : Int32) (cap : Int32) (thr : Int32) (pz : Int32) (tmp : Int32) (het : Int32) (cun : Int32) (vol : Int32) (bk : Nat) (cv : Nat → Int32) (p1 : Int32) (sz : Nat) (hT : ty_V ct S ph ws) (hph : ty_C ph xx) (hy1 : ty_y1 xx) : Met l yX0_holding (ws_ yX0_holding cX0_holding 6 (some .int)) ({ frames := 2, cells := 0, slots := 0, locals := 49 } : Room) (va_Pc [.ref cl, .int p1] (cmP D ct sz ([(fn_0 cl cur pts nom ohm pol tau chg lft cap thr pz tmp het cun vol bk), (rf_RW ct 0 cur 11 cv)] ++ ws))) (va_Qi (fun (r : Int32) (u9 : va_W) => ty_V ct S ph u9 ∧ (a_X0_holding pts ohm chg cap pz cv p1 r)) (cmB D ([(fn_0 cl cur pts nom ohm pol tau chg lft cap thr pz tmp het cun vol bk), (rf_RW ct 0 cur 11 cv)] ++ ws) sz (fun (u9 : va_W) => ([(fn_0 cl cur pts nom ohm pol tau chg lft cap thr pz tmp het cun vol bk), (rf_RW ct 0 cur 11 cv)] ++ u9))) (va_A ([(fn_0 cl cur pts nom ohm pol tau chg lft cap thr pz tmp het cun vol bk), (rf_RW ct 0 cur 11 cv)] ++ ws) sz)) 0 0 (va_A ([(fn_0 cl cur pts nom ohm pol tau chg lft cap thr pz tmp het cun vol bk), (rf_RW ct 0 cur 11 cv)] ++ ws) sz) := by
  refine Met.ofW (cc := cX0_holding) (maxL := 6) (ret := (some .int)) (by decide) rfl ?_
  intro p e s m args below meth c s₁ B hml hv
  obtain ⟨rfl, hsz, hP, hK, hD0, hX⟩ := hv
  have hx := B.exec
  have hb := B.bytes
  have hr := B.returns
  have hts := ws_all (atoms_spec (ws := ws_ yX0_holding cX0_holding 6 (some .int)) B.pre)
  have hown : s.vm.findClass RX0 = some m.cls := findClass_of_methodNamed B.named
  have hlocks := B.notSynchronized
  subst hsz
  have hD := hD0.self (sz := s.heap.size)
  generalize hAe : va_A ([(fn_0 cl cur pts nom ohm pol tau chg lft cap thr pz tmp het cun vol bk), (rf_RW ct 0 cur 11 cv)] ++ ws) s.heap.size = A at hD hX ⊢
  have hA : ∀ q : Nat, s.heap.size ≤ q → A q := fun q h => by rw [← hAe]; exact Or.inr h
  have hS : va_S A s.heap s.heap [] := va_S.rf
  have hl := lv_entry ([.ref cl, .int p1]) (n := 6) (Nat.le_of_ble_eq_true rfl)
  rw [lg_entry_eq]
  generalize (lg_sl ([.ref cl, .int p1]) ++ List.replicate (6 - (lg_sl ([.ref cl, .int p1])).length) Slot.unset).toArray = ls at hl ⊢
  have hl : lv_has ls 6 [(0, .ref cl), (1, .int p1)] := hl
  refine lv_iload_n hx hb dX0_holding_0 rfl (lv_at hl 1 rfl) ?_
  refine lv_i2l hx hb dX0_holding_1 rfl ?_
  refine lv_aload_n hx hb dX0_holding_2 rfl (lv_at hl 0 rfl) ?_
  refine lv_aload_n hx hb dX0_holding_3 rfl (lv_at hl 0 rfl) ?_
  refine va_get (v := .int chg) (D := D) (ci := 0) (C := RX0) (T := TX0) (N := 16) hx hb hts in_X0 hown hK hP 0 rfl rfl 6 (by decide) (hts _ kl_RX0_42) (fun _ h9 => h9) rfl dX0_holding_4 ?_
  obtain ⟨hP, hD⟩ := ty_ipPD (E1 := []) (E2 := [(fn_0 cl cur pts nom ohm pol tau chg lft cap thr pz tmp het cun vol bk), (rf_RW ct 0 cur 11 cv)]) hP hD rfl ty_mv2
  refine ty_Ki hP hD hS hA (va_runV (As := [.int chg]) (rest := [.long p1.toInt64]) ⟨hx, hb, hml, hown, hts⟩ (r_X0_restVoltageAt l D ct (fun _ => none) [] (fun _ => True) (fun _ _ _ => True) cl cur pts nom ohm pol tau chg lft cap thr pz tmp het cun vol bk cv chg _ ty_V0 ty_C0 ty_y10) (cm_V 1 hts kc_X0_restVoltageAt ki_RX0 kl_RX0_84 kv_X0_restVoltageAt kx_X0_restVoltageAt kd_X0_restVoltageAt ⟨Nat.le_of_ble_eq_true rfl, Nat.le_of_ble_eq_true rfl⟩) (ty_preE (ci := 0) hP hK hD hS hA hX rfl (ty_app (j := 0) rfl)) rfl rfl hl.1 rfl (lv_room (Nat.le_of_ble_eq_true rfl)) dX0_holding_7 ⟨Nat.le_of_ble_eq_true rfl, Nat.le_of_ble_eq_true rfl⟩) (fun r_1 u H locs hw_2 hP hD hS => ?_)
  obtain ⟨ws_3, rfl⟩ : ∃ z, z = u := ⟨_, rfl⟩
  obtain ⟨hT9_4, hp_5⟩ := hw_2
  have hp_5 : (a_X0_restVoltageAt pts cap cv chg r_1) := hp_5
  obtain ⟨hP, hD⟩ := ty_bkPD (E := [(fn_0 cl cur pts nom ohm pol tau chg lft cap thr pz tmp het cun vol bk), (rf_RW ct 0 cur 11 cv)]) hP hD rfl
  refine lv_i2l hx hb dX0_holding_10 rfl ?_
  refine lv_lsub hx hb dX0_holding_11 ?_
  refine lv_aload_n hx hb dX0_holding_12 rfl (lv_at hl 0 rfl) ?_
  refine va_get (v := .int pz) (D := D) (ci := 0) (C := RX0) (T := TX0) (N := 16) hx hb hts in_X0 hown hK hP 0 rfl rfl 10 (by decide) (hts _ kl_RX0_57) (fun _ h9 => h9) rfl dX0_holding_13 ?_
  refine lv_i2l hx hb dX0_holding_16 rfl ?_
  refine lv_lsub hx hb dX0_holding_17 ?_
  refine lv_lstore_n (lv' := [(2, .long ((p1.toInt64 - r_1.toInt64) - pz.toInt64)), (0, .ref cl), (1, .int p1)]) hx hb dX0_holding_18 rfl hl (by decide) rfl (fun ls hl => ?_)
  refine lv_lload_n hx hb dX0_holding_19 rfl (lv_at hl 0 rfl) ?_
  refine lv_ldc2 hx hb hown (hts _ kl_RX0_88) dX0_holding_20 ?_
  refine lv_lmul hx hb dX0_holding_23 ?_
  refine lv_aload_n hx hb dX0_holding_24 rfl (lv_at hl 1 rfl) ?_
  refine va_get (v := .int ohm) (D := D) (ci := 0) (C := RX0) (T := TX0) (N := 16) hx hb hts in_X0 hown hK hP 0 rfl rfl 3 (by decide) (hts _ kl_RX0_90) (fun _ h9 => h9) rfl dX0_holding_25 ?_
  refine lv_i2l hx hb dX0_holding_28 rfl ?_
  obtain ⟨hP, hD⟩ := ty_ipPD (E1 := [(fn_0 cl cur pts nom ohm pol tau chg lft cap thr pz tmp het cun vol bk), (rf_RW ct 0 cur 11 cv)]) (E2 := []) hP hD rfl ty_mv2
  refine ty_Kl hP hD hS hA (va_runSN (As := [.long (((p1.toInt64 - r_1.toInt64) - pz.toInt64) * 1000), .long ohm.toInt64]) (rest := []) ⟨hx, hb, hml, hown, hts⟩ (r_X10_quotient l D ct (fun _ => none) [] (fun _ => True) (fun _ _ _ => True) (((p1.toInt64 - r_1.toInt64) - pz.toInt64) * 1000) ohm.toInt64 _ ty_V0 ty_C0 ty_y10) (cm_SN 2 hts kc_X10_quotient ki_RX10 kl_RX0_75 ks_X10_quotient kd_X10_quotient ⟨Nat.le_of_ble_eq_true rfl, Nat.le_of_ble_eq_true rfl⟩) (ty_preS hP hK hD hS hA hX) rfl rfl hl.1 rfl (lv_room (Nat.le_of_ble_eq_true rfl)) dX0_holding_29 ⟨Nat.le_of_ble_eq_true rfl, Nat.le_of_ble_eq_true rfl⟩) (fun r_6 u H locs hw_7 hP hD hS => ?_)
  obtain ⟨ws_8, rfl⟩ : ∃ z, z = u := ⟨_, rfl⟩
  obtain ⟨hT9_9, hp_10⟩ := hw_7
  have hp_10 : (a_X10_quotient (((p1.toInt64 - r_1.toInt64) - pz.toInt64) * 1000) ohm.toInt64 r_6) := hp_10
  obtain ⟨hP, hD⟩ := ty_bkPD (E := [(fn_0 cl cur pts nom ohm pol tau chg lft cap thr pz tmp het cun vol bk), (rf_RW ct 0 cur 11 cv)]) hP hD rfl
  refine lv_lstore (lv' := [(4, .long r_6), (2, .long ((p1.toInt64 - r_1.toInt64) - pz.toInt64)), (0, .ref cl), (1, .int p1)]) hx hb dX0_holding_32 hl (by decide) rfl (fun ls hl => ?_)
  refine lv_lconst (v := 0) hx hb dX0_holding_34 (by decide) ?_
  refine lv_lload hx hb dX0_holding_35 (lv_at hl 0 rfl) ?_
  refine lv_ldc2 hx hb hown (hts _ kl_RX0_93) dX0_holding_37 ?_
  refine va_mmin_long hx hb (hml.trans hl.1.symm) hown (hts _ kl_RX0_79) (hts _ jm_min_long_s) (hts _ ki_RJ9) (hts _ jm_min_long_c) (Nat.le_of_ble_eq_true rfl) (Nat.le_of_ble_eq_true rfl) (Nat.le_of_ble_eq_true rfl) (Nat.le_of_ble_eq_true rfl) dX0_holding_40 ?_
  refine va_mmax_long hx hb (hml.trans hl.1.symm) hown (hts _ kl_RX0_95) (hts _ jm_max_long_s) (hts _ ki_RJ9) (hts _ jm_max_long_c) (Nat.le_of_ble_eq_true rfl) (Nat.le_of_ble_eq_true rfl) (Nat.le_of_ble_eq_true rfl) (Nat.le_of_ble_eq_true rfl) dX0_holding_43 ?_
  refine lv_l2i hx hb dX0_holding_46 rfl ?_
  exact W.iret (v := (if (if 5000 < r_6 then 5000 else r_6) < 0 then 0 else (if 5000 < r_6 then 5000 else r_6)).toInt32) hx hb hr (fun t ht hW => ⟨⟨(if (if 5000 < r_6 then 5000 else r_6) < 0 then 0 else (if 5000 < r_6 then 5000 else r_6)).toInt32, ws, rfl, ⟨hT, ⟨r_1, hp_5, ⟨r_6, hp_10, rfl⟩⟩⟩, by rw [ht]; exact hP, by rw [hAe]; exact hD⟩, hS.F ht⟩) hS.2.2 dX0_holding_47
def a_X0_allowed (chg : Int32) (tmp : Int32) (hot : Int32) (spa : Int32) (p1 : Int32) (r : Int32) : Prop := ((spa = (0 : Int32) ∧ (((0 : Int32) ≤ p1 ∧ (r = p1)) ∨ (¬ (0 : Int32) ≤ p1 ∧ (((- p1) ≤ chg ∧ (r = p1)) ∨ (¬ (- p1) ≤ chg ∧ (r = (- chg))))))) ∨ (¬ spa = (0 : Int32) ∧ ((tmp ≤ (hot - spa) ∧ (((0 : Int32) ≤ p1 ∧ (r = p1)) ∨ (¬ (0 : Int32) ≤ p1 ∧ (((- p1) ≤ chg ∧ (r = p1)) ∨ (¬ (- p1) ≤ chg ∧ (r = (- chg))))))) ∨ (¬ tmp ≤ (hot - spa) ∧ (∃ (r_7 : Int64), (a_X10_quotient (p1.toInt64 * ((if 0 < (hot - tmp) then (hot - tmp) else 0).toInt64)) spa.toInt64 r_7) ∧ (((0 : Int32) ≤ r_7.toInt32 ∧ (r = r_7.toInt32)) ∨ (¬ (0 : Int32) ≤ r_7.toInt32 ∧ (((- r_7.toInt32) ≤ chg ∧ (r = r_7.toInt32)) ∨ (¬ (- r_7.toInt32) ≤ chg ∧ (r = (- chg)))))))))))
set_option maxRecDepth 100000 in
set_option maxHeartbeats 4000000 in
theorem r_X0_allowed (l : Launch) (D : va_G) (ct : Nat → ClassId) (S : ty_S) (ws : va_W) (ph : va_W → Prop) (xx : Nat → Nat → Nat → Prop) (cl : Nat) (cur : Nat) (pts : Int32) (nom : Int32) (ohm : Int32) (pol : Int32) (tau : Int32) (chg : Int32) (lft : Int32) (cap : Int32) (thr : Int32) (pz : Int32) (tmp : Int32) (het : Int32) (cun : Int32) (vol : Int32) (bk : Nat) (se : Nat) (efc : Int32) (fad : Int32) (hea : Int32) (coo : Int32) (low : Int32) (hig : Int32) (hot : Int32) (amb : Int32) (wlo : Int32) (whi : Int32) (who : Int32) (spa : Int32) (p1 : Int32) (sz : Nat) (hT : ty_V ct S ph ws) (hph : ty_C ph xx) (hy1 : ty_y1 xx) : Met l yX0_allowed (ws_ yX0_allowed cX0_allowed 6 (some .int)) ({ frames := 1, cells := 0, slots := 0, locals := 23 } : Room) (va_Pc [.ref cl, .int p1, .ref se] (cmP D ct sz ([(fn_0 cl cur pts nom ohm pol tau chg lft cap thr pz tmp het cun vol bk), (fn_7 se efc fad hea coo low hig hot amb wlo whi who spa)] ++ ws))) (va_Qi (fun (r : Int32) (u9 : va_W) => ty_V ct S ph u9 ∧ (a_X0_allowed chg tmp hot spa p1 r)) (cmB D ([(fn_0 cl cur pts nom ohm pol tau chg lft cap thr pz tmp het cun vol bk), (fn_7 se efc fad hea coo low hig hot amb wlo whi who spa)] ++ ws) sz (fun (u9 : va_W) => ([(fn_0 cl cur pts nom ohm pol tau chg lft cap thr pz tmp het cun vol bk), (fn_7 se efc fad hea coo low hig hot amb wlo whi who spa)] ++ u9))) (va_A ([(fn_0 cl cur pts nom ohm pol tau chg lft cap thr pz tmp het cun vol bk), (fn_7 se efc fad hea coo low hig hot amb wlo whi who spa)] ++ ws) sz)) 0 0 (va_A ([(fn_0 cl cur pts nom ohm pol tau chg lft cap thr pz tmp het cun vol bk), (fn_7 se efc fad hea coo low hig hot amb wlo whi who spa)] ++ ws) sz) := by
  refine Met.ofW (cc := cX0_allowed) (maxL := 6) (ret := (some .int)) (by decide) rfl ?_
  intro p e s m args below meth c s₁ B hml hv
  obtain ⟨rfl, hsz, hP, hK, hD0, hX⟩ := hv
  have hx := B.exec
  have hb := B.bytes
  have hr := B.returns
  have hts := ws_all (atoms_spec (ws := ws_ yX0_allowed cX0_allowed 6 (some .int)) B.pre)
  have hown : s.vm.findClass RX0 = some m.cls := findClass_of_methodNamed B.named
  have hlocks := B.notSynchronized
  subst hsz
  have hD := hD0.self (sz := s.heap.size)
  generalize hAe : va_A ([(fn_0 cl cur pts nom ohm pol tau chg lft cap thr pz tmp het cun vol bk), (fn_7 se efc fad hea coo low hig hot amb wlo whi who spa)] ++ ws) s.heap.size = A at hD hX ⊢
  have hA : ∀ q : Nat, s.heap.size ≤ q → A q := fun q h => by rw [← hAe]; exact Or.inr h
  have hS : va_S A s.heap s.heap [] := va_S.rf
  have hl := lv_entry ([.ref cl, .int p1, .ref se]) (n := 6) (Nat.le_of_ble_eq_true rfl)
  rw [lg_entry_eq]
  generalize (lg_sl ([.ref cl, .int p1, .ref se]) ++ List.replicate (6 - (lg_sl ([.ref cl, .int p1, .ref se])).length) Slot.unset).toArray = ls at hl ⊢
  have hl : lv_has ls 6 [(0, .ref cl), (1, .int p1), (2, .ref se)] := hl
  refine lv_iload_n hx hb dX0_allowed_0 rfl (lv_at hl 1 rfl) ?_
  refine lv_istore_n (lv' := [(3, .int p1), (0, .ref cl), (1, .int p1), (2, .ref se)]) hx hb dX0_allowed_1 rfl hl (by decide) rfl (fun ls hl => ?_)
  refine lv_aload_n hx hb dX0_allowed_2 rfl (lv_at hl 3 rfl) ?_
  refine va_getN (v := .int spa) (D := D) (ci := 7) (C := RX7) (T := TX7) (N := 12) hx hb hts in_X7 hown hK hP 1 rfl rfl 11 (by decide) (hts _ kl_RX0_98) (fun _ h9 => h9) rfl dX0_allowed_3 ?_
  refine lv_if_eq (tgt := 56) hx hb dX0_allowed_6 (by decide) (fun hc_1 => ?_) (fun hc_1 => ?_)
  · refine lv_iload_n hx hb dX0_allowed_56 rfl (lv_at hl 0 rfl) ?_
    refine lv_if_ge (tgt := 77) hx hb dX0_allowed_57 (by decide) (fun hc_2 => ?_) (fun hc_2 => ?_)
    · refine lv_iload_n hx hb dX0_allowed_77 rfl (lv_at hl 0 rfl) ?_
      exact W.iret (v := p1) hx hb hr (fun t ht hW => ⟨⟨p1, ws, rfl, ⟨hT, (Or.inl ⟨hc_1, (Or.inl ⟨hc_2, rfl⟩)⟩)⟩, by rw [ht]; exact hP, by rw [hAe]; exact hD⟩, hS.F ht⟩) hS.2.2 dX0_allowed_78
    · refine lv_iload_n hx hb dX0_allowed_60 rfl (lv_at hl 0 rfl) ?_
      refine lv_ineg hx hb dX0_allowed_61 ?_
      refine lv_aload_n hx hb dX0_allowed_62 rfl (lv_at hl 1 rfl) ?_
      refine va_get (v := .int chg) (D := D) (ci := 0) (C := RX0) (T := TX0) (N := 16) hx hb hts in_X0 hown hK hP 0 rfl rfl 6 (by decide) (hts _ kl_RX0_42) (fun _ h9 => h9) rfl dX0_allowed_63 ?_
      refine lv_icmp_le (tgt := 77) hx hb dX0_allowed_66 (by decide) (fun hc_3 => ?_) (fun hc_3 => ?_)
      · refine lv_iload_n hx hb dX0_allowed_77 rfl (lv_at hl 0 rfl) ?_
        exact W.iret (v := p1) hx hb hr (fun t ht hW => ⟨⟨p1, ws, rfl, ⟨hT, (Or.inl ⟨hc_1, (Or.inr ⟨hc_2, (Or.inl ⟨hc_3, rfl⟩)⟩)⟩)⟩, by rw [ht]; exact hP, by rw [hAe]; exact hD⟩, hS.F ht⟩) hS.2.2 dX0_allowed_78
      · refine lv_aload_n hx hb dX0_allowed_69 rfl (lv_at hl 1 rfl) ?_
        refine va_get (v := .int chg) (D := D) (ci := 0) (C := RX0) (T := TX0) (N := 16) hx hb hts in_X0 hown hK hP 0 rfl rfl 6 (by decide) (hts _ kl_RX0_42) (fun _ h9 => h9) rfl dX0_allowed_70 ?_
        refine lv_ineg hx hb dX0_allowed_73 ?_
        refine lv_goto (tgt := 78) hx hb dX0_allowed_74 (by decide) ?_
        exact W.iret (v := (- chg)) hx hb hr (fun t ht hW => ⟨⟨(- chg), ws, rfl, ⟨hT, (Or.inl ⟨hc_1, (Or.inr ⟨hc_2, (Or.inr ⟨hc_3, rfl⟩)⟩)⟩)⟩, by rw [ht]; exact hP, by rw [hAe]; exact hD⟩, hS.F ht⟩) hS.2.2 dX0_allowed_78
  · refine lv_aload_n hx hb dX0_allowed_9 rfl (lv_at hl 1 rfl) ?_
    refine va_get (v := .int tmp) (D := D) (ci := 0) (C := RX0) (T := TX0) (N := 16) hx hb hts in_X0 hown hK hP 0 rfl rfl 11 (by decide) (hts _ kl_RX0_60) (fun _ h9 => h9) rfl dX0_allowed_10 ?_
    refine lv_aload_n hx hb dX0_allowed_13 rfl (lv_at hl 3 rfl) ?_
    refine va_getN (v := .int hot) (D := D) (ci := 7) (C := RX7) (T := TX7) (N := 12) hx hb hts in_X7 hown hK hP 1 rfl rfl 6 (by decide) (hts _ kl_RX0_103) (fun _ h9 => h9) rfl dX0_allowed_14 ?_
    refine lv_aload_n hx hb dX0_allowed_17 rfl (lv_at hl 3 rfl) ?_
    refine va_getN (v := .int spa) (D := D) (ci := 7) (C := RX7) (T := TX7) (N := 12) hx hb hts in_X7 hown hK hP 1 rfl rfl 11 (by decide) (hts _ kl_RX0_98) (fun _ h9 => h9) rfl dX0_allowed_18 ?_
    refine lv_isub hx hb dX0_allowed_21 ?_
    refine lv_icmp_le (tgt := 56) hx hb dX0_allowed_22 (by decide) (fun hc_4 => ?_) (fun hc_4 => ?_)
    · refine lv_iload_n hx hb dX0_allowed_56 rfl (lv_at hl 0 rfl) ?_
      refine lv_if_ge (tgt := 77) hx hb dX0_allowed_57 (by decide) (fun hc_5 => ?_) (fun hc_5 => ?_)
      · refine lv_iload_n hx hb dX0_allowed_77 rfl (lv_at hl 0 rfl) ?_
        exact W.iret (v := p1) hx hb hr (fun t ht hW => ⟨⟨p1, ws, rfl, ⟨hT, (Or.inr ⟨hc_1, (Or.inl ⟨hc_4, (Or.inl ⟨hc_5, rfl⟩)⟩)⟩)⟩, by rw [ht]; exact hP, by rw [hAe]; exact hD⟩, hS.F ht⟩) hS.2.2 dX0_allowed_78
      · refine lv_iload_n hx hb dX0_allowed_60 rfl (lv_at hl 0 rfl) ?_
        refine lv_ineg hx hb dX0_allowed_61 ?_
        refine lv_aload_n hx hb dX0_allowed_62 rfl (lv_at hl 1 rfl) ?_
        refine va_get (v := .int chg) (D := D) (ci := 0) (C := RX0) (T := TX0) (N := 16) hx hb hts in_X0 hown hK hP 0 rfl rfl 6 (by decide) (hts _ kl_RX0_42) (fun _ h9 => h9) rfl dX0_allowed_63 ?_
        refine lv_icmp_le (tgt := 77) hx hb dX0_allowed_66 (by decide) (fun hc_6 => ?_) (fun hc_6 => ?_)
        · refine lv_iload_n hx hb dX0_allowed_77 rfl (lv_at hl 0 rfl) ?_
          exact W.iret (v := p1) hx hb hr (fun t ht hW => ⟨⟨p1, ws, rfl, ⟨hT, (Or.inr ⟨hc_1, (Or.inl ⟨hc_4, (Or.inr ⟨hc_5, (Or.inl ⟨hc_6, rfl⟩)⟩)⟩)⟩)⟩, by rw [ht]; exact hP, by rw [hAe]; exact hD⟩, hS.F ht⟩) hS.2.2 dX0_allowed_78
        · refine lv_aload_n hx hb dX0_allowed_69 rfl (lv_at hl 1 rfl) ?_
          refine va_get (v := .int chg) (D := D) (ci := 0) (C := RX0) (T := TX0) (N := 16) hx hb hts in_X0 hown hK hP 0 rfl rfl 6 (by decide) (hts _ kl_RX0_42) (fun _ h9 => h9) rfl dX0_allowed_70 ?_
          refine lv_ineg hx hb dX0_allowed_73 ?_
          refine lv_goto (tgt := 78) hx hb dX0_allowed_74 (by decide) ?_
          exact W.iret (v := (- chg)) hx hb hr (fun t ht hW => ⟨⟨(- chg), ws, rfl, ⟨hT, (Or.inr ⟨hc_1, (Or.inl ⟨hc_4, (Or.inr ⟨hc_5, (Or.inr ⟨hc_6, rfl⟩)⟩)⟩)⟩)⟩, by rw [ht]; exact hP, by rw [hAe]; exact hD⟩, hS.F ht⟩) hS.2.2 dX0_allowed_78
    · refine lv_iconst (v := 0) hx hb dX0_allowed_25 (by decide) ?_
      refine lv_aload_n hx hb dX0_allowed_26 rfl (lv_at hl 3 rfl) ?_
      refine va_getN (v := .int hot) (D := D) (ci := 7) (C := RX7) (T := TX7) (N := 12) hx hb hts in_X7 hown hK hP 1 rfl rfl 6 (by decide) (hts _ kl_RX0_103) (fun _ h9 => h9) rfl dX0_allowed_27 ?_
      refine lv_aload_n hx hb dX0_allowed_30 rfl (lv_at hl 1 rfl) ?_
      refine va_get (v := .int tmp) (D := D) (ci := 0) (C := RX0) (T := TX0) (N := 16) hx hb hts in_X0 hown hK hP 0 rfl rfl 11 (by decide) (hts _ kl_RX0_60) (fun _ h9 => h9) rfl dX0_allowed_31 ?_
      refine lv_isub hx hb dX0_allowed_34 ?_
      refine va_mmax hx hb (hml.trans hl.1.symm) hown (hts _ kl_RX0_106) (hts _ jm_max_s) (hts _ ki_RJ9) (hts _ jm_max_c) (Nat.le_of_ble_eq_true rfl) (Nat.le_of_ble_eq_true rfl) (Nat.le_of_ble_eq_true rfl) (Nat.le_of_ble_eq_true rfl) dX0_allowed_35 ?_
      refine lv_i2l hx hb dX0_allowed_38 rfl ?_
      refine lv_lstore (lv' := [(4, .long ((if 0 < (hot - tmp) then (hot - tmp) else 0).toInt64)), (3, .int p1), (0, .ref cl), (1, .int p1), (2, .ref se)]) hx hb dX0_allowed_39 hl (by decide) rfl (fun ls hl => ?_)
      refine lv_iload_n hx hb dX0_allowed_41 rfl (lv_at hl 1 rfl) ?_
      refine lv_i2l hx hb dX0_allowed_42 rfl ?_
      refine lv_lload hx hb dX0_allowed_43 (lv_at hl 0 rfl) ?_
      refine lv_lmul hx hb dX0_allowed_45 ?_
      refine lv_aload_n hx hb dX0_allowed_46 rfl (lv_at hl 4 rfl) ?_
      refine va_getN (v := .int spa) (D := D) (ci := 7) (C := RX7) (T := TX7) (N := 12) hx hb hts in_X7 hown hK hP 1 rfl rfl 11 (by decide) (hts _ kl_RX0_98) (fun _ h9 => h9) rfl dX0_allowed_47 ?_
      refine lv_i2l hx hb dX0_allowed_50 rfl ?_
      obtain ⟨hP, hD⟩ := ty_ipPD (E1 := [(fn_0 cl cur pts nom ohm pol tau chg lft cap thr pz tmp het cun vol bk), (fn_7 se efc fad hea coo low hig hot amb wlo whi who spa)]) (E2 := []) hP hD rfl ty_mv2
      refine ty_Kl hP hD hS hA (va_runSN (As := [.long (p1.toInt64 * ((if 0 < (hot - tmp) then (hot - tmp) else 0).toInt64)), .long spa.toInt64]) (rest := []) ⟨hx, hb, hml, hown, hts⟩ (r_X10_quotient l D ct (fun _ => none) [] (fun _ => True) (fun _ _ _ => True) (p1.toInt64 * ((if 0 < (hot - tmp) then (hot - tmp) else 0).toInt64)) spa.toInt64 _ ty_V0 ty_C0 ty_y10) (cm_SN 2 hts kc_X10_quotient ki_RX10 kl_RX0_75 ks_X10_quotient kd_X10_quotient ⟨Nat.le_of_ble_eq_true rfl, Nat.le_of_ble_eq_true rfl⟩) (ty_preS hP hK hD hS hA hX) rfl rfl hl.1 rfl (lv_room (Nat.le_of_ble_eq_true rfl)) dX0_allowed_51 ⟨Nat.le_of_ble_eq_true rfl, Nat.le_of_ble_eq_true rfl⟩) (fun r_7 u H locs hw_8 hP hD hS => ?_)
      obtain ⟨ws_9, rfl⟩ : ∃ z, z = u := ⟨_, rfl⟩
      obtain ⟨hT9_10, hp_11⟩ := hw_8
      have hp_11 : (a_X10_quotient (p1.toInt64 * ((if 0 < (hot - tmp) then (hot - tmp) else 0).toInt64)) spa.toInt64 r_7) := hp_11
      obtain ⟨hP, hD⟩ := ty_bkPD (E := [(fn_0 cl cur pts nom ohm pol tau chg lft cap thr pz tmp het cun vol bk), (fn_7 se efc fad hea coo low hig hot amb wlo whi who spa)]) hP hD rfl
      refine lv_l2i hx hb dX0_allowed_54 rfl ?_
      refine lv_istore_n (lv' := [(3, .int r_7.toInt32), (4, .long ((if 0 < (hot - tmp) then (hot - tmp) else 0).toInt64)), (0, .ref cl), (1, .int p1), (2, .ref se)]) hx hb dX0_allowed_55 rfl hl (by decide) rfl (fun ls hl => ?_)
      refine lv_iload_n hx hb dX0_allowed_56 rfl (lv_at hl 0 rfl) ?_
      refine lv_if_ge (tgt := 77) hx hb dX0_allowed_57 (by decide) (fun hc_12 => ?_) (fun hc_12 => ?_)
      · refine lv_iload_n hx hb dX0_allowed_77 rfl (lv_at hl 0 rfl) ?_
        exact W.iret (v := r_7.toInt32) hx hb hr (fun t ht hW => ⟨⟨r_7.toInt32, ws, rfl, ⟨hT, (Or.inr ⟨hc_1, (Or.inr ⟨hc_4, ⟨r_7, hp_11, (Or.inl ⟨hc_12, rfl⟩)⟩⟩)⟩)⟩, by rw [ht]; exact hP, by rw [hAe]; exact hD⟩, hS.F ht⟩) hS.2.2 dX0_allowed_78
      · refine lv_iload_n hx hb dX0_allowed_60 rfl (lv_at hl 0 rfl) ?_
        refine lv_ineg hx hb dX0_allowed_61 ?_
        refine lv_aload_n hx hb dX0_allowed_62 rfl (lv_at hl 2 rfl) ?_
        refine va_get (v := .int chg) (D := D) (ci := 0) (C := RX0) (T := TX0) (N := 16) hx hb hts in_X0 hown hK hP 0 rfl rfl 6 (by decide) (hts _ kl_RX0_42) (fun _ h9 => h9) rfl dX0_allowed_63 ?_
        refine lv_icmp_le (tgt := 77) hx hb dX0_allowed_66 (by decide) (fun hc_13 => ?_) (fun hc_13 => ?_)
        · refine lv_iload_n hx hb dX0_allowed_77 rfl (lv_at hl 0 rfl) ?_
          exact W.iret (v := r_7.toInt32) hx hb hr (fun t ht hW => ⟨⟨r_7.toInt32, ws, rfl, ⟨hT, (Or.inr ⟨hc_1, (Or.inr ⟨hc_4, ⟨r_7, hp_11, (Or.inr ⟨hc_12, (Or.inl ⟨hc_13, rfl⟩)⟩)⟩⟩)⟩)⟩, by rw [ht]; exact hP, by rw [hAe]; exact hD⟩, hS.F ht⟩) hS.2.2 dX0_allowed_78
        · refine lv_aload_n hx hb dX0_allowed_69 rfl (lv_at hl 2 rfl) ?_
          refine va_get (v := .int chg) (D := D) (ci := 0) (C := RX0) (T := TX0) (N := 16) hx hb hts in_X0 hown hK hP 0 rfl rfl 6 (by decide) (hts _ kl_RX0_42) (fun _ h9 => h9) rfl dX0_allowed_70 ?_
          refine lv_ineg hx hb dX0_allowed_73 ?_
          refine lv_goto (tgt := 78) hx hb dX0_allowed_74 (by decide) ?_
          exact W.iret (v := (- chg)) hx hb hr (fun t ht hW => ⟨⟨(- chg), ws, rfl, ⟨hT, (Or.inr ⟨hc_1, (Or.inr ⟨hc_4, ⟨r_7, hp_11, (Or.inr ⟨hc_12, (Or.inr ⟨hc_13, rfl⟩)⟩)⟩⟩)⟩)⟩, by rw [ht]; exact hP, by rw [hAe]; exact hD⟩, hS.F ht⟩) hS.2.2 dX0_allowed_78
def a_X0_passCurrent (pts : Int32) (nom : Int32) (ohm : Int32) (pol : Int32) (tau : Int32) (chg : Int32) (lft : Int32) (cap : Int32) (thr : Int32) (pz : Int32) (tmp : Int32) (het : Int32) (cv : Nat → Int32) (cin : Int64) (cou : Int64) (ein : Int64) (eou : Int64) (efc : Int32) (fad : Int32) (hea : Int32) (coo : Int32) (amb : Int32) (p1 : Int32) (chg1 : Int32) (lft1 : Int32) (cap1 : Int32) (thr1 : Int32) (pz1 : Int32) (tmp1 : Int32) (het1 : Int32) (cun1 : Int32) (vol1 : Int32) (cin1 : Int64) (cou1 : Int64) (ein1 : Int64) (eou1 : Int64) : Prop := (∃ (pz1_4 : Int32), (a_X0_polarize pol tau pz p1 pz1_4) ∧ (∃ (chg1_10 : Int32) (lft1_11 : Int32) (cin1_12 : Int64) (cou1_13 : Int64), (a_X0_moveCharge nom chg lft cin cou efc p1 chg1_10 lft1_11 cin1_12 cou1_13) ∧ (∃ (cap1_19 : Int32) (thr1_20 : Int32), (a_X0_wear nom cap thr fad p1 cap1_19 thr1_20) ∧ (∃ (tmp1_26 : Int32) (het1_27 : Int32), (a_X0_warm ohm tmp het hea coo amb p1 tmp1_26 het1_27) ∧ (∃ (r_30 : Int32), (a_X0_restVoltageAt pts cap1_19 cv chg1_10 r_30) ∧ ((p1 ≤ (0 : Int32) ∧ (chg1 = chg1_10 ∧ lft1 = lft1_11 ∧ cap1 = cap1_19 ∧ thr1 = thr1_20 ∧ pz1 = pz1_4 ∧ tmp1 = tmp1_26 ∧ het1 = het1_27 ∧ cun1 = p1 ∧ vol1 = ((r_30 + ((p1 * ohm) / 1000)) + pz1_4) ∧ cin1 = cin1_12 ∧ cou1 = cou1_13 ∧ ein1 = ein ∧ eou1 = (eou + ((- p1.toInt64) * (((r_30 + ((p1 * ohm) / 1000)) + pz1_4).toInt64))))) ∨ (¬ p1 ≤ (0 : Int32) ∧ (chg1 = chg1_10 ∧ lft1 = lft1_11 ∧ cap1 = cap1_19 ∧ thr1 = thr1_20 ∧ pz1 = pz1_4 ∧ tmp1 = tmp1_26 ∧ het1 = het1_27 ∧ cun1 = p1 ∧ vol1 = ((r_30 + ((p1 * ohm) / 1000)) + pz1_4) ∧ cin1 = cin1_12 ∧ cou1 = cou1_13 ∧ ein1 = (ein + (p1.toInt64 * (((r_30 + ((p1 * ohm) / 1000)) + pz1_4).toInt64))) ∧ eou1 = eou))))))))
set_option maxRecDepth 100000 in
set_option maxHeartbeats 4000000 in
theorem r_X0_passCurrent (l : Launch) (D : va_G) (ct : Nat → ClassId) (S : ty_S) (ws : va_W) (ph : va_W → Prop) (xx : Nat → Nat → Nat → Prop) (cl : Nat) (cur : Nat) (pts : Int32) (nom : Int32) (ohm : Int32) (pol : Int32) (tau : Int32) (chg : Int32) (lft : Int32) (cap : Int32) (thr : Int32) (pz : Int32) (tmp : Int32) (het : Int32) (cun : Int32) (vol : Int32) (bk : Nat) (cv : Nat → Int32) (cin : Int64) (cou : Int64) (ein : Int64) (eou : Int64) (se : Nat) (efc : Int32) (fad : Int32) (hea : Int32) (coo : Int32) (low : Int32) (hig : Int32) (hot : Int32) (amb : Int32) (wlo : Int32) (whi : Int32) (who : Int32) (spa : Int32) (p1 : Int32) (sz : Nat) (hT : ty_V ct S ph ws) (hph : ty_C ph xx) (hy1 : ty_y1 xx) : Met l yX0_passCurrent (ws_ yX0_passCurrent cX0_passCurrent 3 none) ({ frames := 2, cells := 0, slots := 0, locals := 49 } : Room) (va_Pc [.ref cl, .int p1, .ref se] (cmP D ct sz ([(fn_0 cl cur pts nom ohm pol tau chg lft cap thr pz tmp het cun vol bk), (rf_RW ct 0 cur 11 cv), (fn_3 bk cin cou ein eou), (fn_7 se efc fad hea coo low hig hot amb wlo whi who spa)] ++ ws))) (va_Qv (fun (u : va_W × Int32 × Int32 × Int32 × Int32 × Int32 × Int32 × Int32 × Int32 × Int32 × Int64 × Int64 × Int64 × Int64) => match u with | (u9, chg1, lft1, cap1, thr1, pz1, tmp1, het1, cun1, vol1, cin1, cou1, ein1, eou1) => ty_V ct S ph u9 ∧ (a_X0_passCurrent pts nom ohm pol tau chg lft cap thr pz tmp het cv cin cou ein eou efc fad hea coo amb p1 chg1 lft1 cap1 thr1 pz1 tmp1 het1 cun1 vol1 cin1 cou1 ein1 eou1)) (cmB D ([(fn_0 cl cur pts nom ohm pol tau chg lft cap thr pz tmp het cun vol bk), (rf_RW ct 0 cur 11 cv), (fn_3 bk cin cou ein eou), (fn_7 se efc fad hea coo low hig hot amb wlo whi who spa)] ++ ws) sz (fun (u : va_W × Int32 × Int32 × Int32 × Int32 × Int32 × Int32 × Int32 × Int32 × Int32 × Int64 × Int64 × Int64 × Int64) => match u with | (u9, chg1, lft1, cap1, thr1, pz1, tmp1, het1, cun1, vol1, cin1, cou1, ein1, eou1) => ([(fn_0 cl cur pts nom ohm pol tau chg1 lft1 cap1 thr1 pz1 tmp1 het1 cun1 vol1 bk), (rf_RW ct 0 cur 11 cv), (fn_3 bk cin1 cou1 ein1 eou1), (fn_7 se efc fad hea coo low hig hot amb wlo whi who spa)] ++ u9))) (va_A ([(fn_0 cl cur pts nom ohm pol tau chg lft cap thr pz tmp het cun vol bk), (rf_RW ct 0 cur 11 cv), (fn_3 bk cin cou ein eou), (fn_7 se efc fad hea coo low hig hot amb wlo whi who spa)] ++ ws) sz)) 0 0 (va_A ([(fn_0 cl cur pts nom ohm pol tau chg lft cap thr pz tmp het cun vol bk), (rf_RW ct 0 cur 11 cv), (fn_3 bk cin cou ein eou), (fn_7 se efc fad hea coo low hig hot amb wlo whi who spa)] ++ ws) sz) := by
  refine Met.ofW (cc := cX0_passCurrent) (maxL := 3) (ret := none) (by decide) rfl ?_
  intro p e s m args below meth c s₁ B hml hv
  obtain ⟨rfl, hsz, hP, hK, hD0, hX⟩ := hv
  have hx := B.exec
  have hb := B.bytes
  have hr := B.returns
  have hts := ws_all (atoms_spec (ws := ws_ yX0_passCurrent cX0_passCurrent 3 none) B.pre)
  have hown : s.vm.findClass RX0 = some m.cls := findClass_of_methodNamed B.named
  have hlocks := B.notSynchronized
  subst hsz
  have hD := hD0.self (sz := s.heap.size)
  generalize hAe : va_A ([(fn_0 cl cur pts nom ohm pol tau chg lft cap thr pz tmp het cun vol bk), (rf_RW ct 0 cur 11 cv), (fn_3 bk cin cou ein eou), (fn_7 se efc fad hea coo low hig hot amb wlo whi who spa)] ++ ws) s.heap.size = A at hD hX ⊢
  have hA : ∀ q : Nat, s.heap.size ≤ q → A q := fun q h => by rw [← hAe]; exact Or.inr h
  have hS : va_S A s.heap s.heap [] := va_S.rf
  have hl := lv_entry ([.ref cl, .int p1, .ref se]) (n := 3) (Nat.le_of_ble_eq_true rfl)
  rw [lg_entry_eq]
  generalize (lg_sl ([.ref cl, .int p1, .ref se]) ++ List.replicate (3 - (lg_sl ([.ref cl, .int p1, .ref se])).length) Slot.unset).toArray = ls at hl ⊢
  have hl : lv_has ls 3 [(0, .ref cl), (1, .int p1), (2, .ref se)] := hl
  refine lv_aload_n hx hb dX0_passCurrent_0 rfl (lv_at hl 0 rfl) ?_
  refine lv_iload_n hx hb dX0_passCurrent_1 rfl (lv_at hl 1 rfl) ?_
  obtain ⟨hP, hD⟩ := ty_opPD (E1 := [(rf_RW ct 0 cur 11 cv), (fn_3 bk cin cou ein eou), (fn_7 se efc fad hea coo low hig hot amb wlo whi who spa)]) (E2 := [(fn_0 cl cur pts nom ohm pol tau chg lft cap thr pz tmp het cun vol bk)]) (n := 4) [1, 2, 3, 0] hP hD rfl rfl (by decide +kernel) ty_mv2
  refine ty_Kv hP hD hS hA (va_runV (As := [.int p1]) (rest := []) ⟨hx, hb, hml, hown, hts⟩ (r_X0_polarize l D ct (fun _ => none) [] (fun _ => True) (fun _ _ _ => True) cl cur pts nom ohm pol tau chg lft cap thr pz tmp het cun vol bk p1 _ ty_V0 ty_C0 ty_y10) (cm_V 1 hts kc_X0_polarize ki_RX0 kl_RX0_108 kv_X0_polarize kx_X0_polarize kd_X0_polarize ⟨Nat.le_of_ble_eq_true rfl, Nat.le_of_ble_eq_true rfl⟩) (ty_preE (ci := 0) hP hK hD hS hA hX rfl (ty_app (j := 0) rfl)) rfl rfl hl.1 rfl (lv_room (Nat.le_of_ble_eq_true rfl)) dX0_passCurrent_2 ⟨Nat.le_of_ble_eq_true rfl, Nat.le_of_ble_eq_true rfl⟩) (fun u H locs hw_2 hP hD hS => ?_)
  obtain ⟨ws_3, pz1_4⟩ := u
  obtain ⟨hT9_5, hp_6⟩ := hw_2
  have hp_6 : (a_X0_polarize pol tau pz p1 pz1_4) := hp_6
  obtain ⟨hP, hD⟩ := ty_bkPD (E := [(rf_RW ct 0 cur 11 cv), (fn_3 bk cin cou ein eou), (fn_7 se efc fad hea coo low hig hot amb wlo whi who spa), (fn_0 cl cur pts nom ohm pol tau chg lft cap thr pz1_4 tmp het cun vol bk)]) hP hD rfl
  refine lv_aload_n hx hb dX0_passCurrent_5 rfl (lv_at hl 0 rfl) ?_
  refine lv_iload_n hx hb dX0_passCurrent_6 rfl (lv_at hl 1 rfl) ?_
  refine lv_aload_n hx hb dX0_passCurrent_7 rfl (lv_at hl 2 rfl) ?_
  obtain ⟨hP, hD⟩ := ty_opPD (E1 := [(rf_RW ct 0 cur 11 cv)]) (E2 := [(fn_0 cl cur pts nom ohm pol tau chg lft cap thr pz1_4 tmp het cun vol bk), (fn_3 bk cin cou ein eou), (fn_7 se efc fad hea coo low hig hot amb wlo whi who spa)]) (n := 4) [0, 3, 1, 2] hP hD rfl rfl (by decide +kernel) ty_mv2
  refine ty_Kv hP hD hS hA (va_runV (As := [.int p1, .ref se]) (rest := []) ⟨hx, hb, hml, hown, hts⟩ (r_X0_moveCharge l D ct (fun _ => none) [] (fun _ => True) (fun _ _ _ => True) cl cur pts nom ohm pol tau chg lft cap thr pz1_4 tmp het cun vol bk cin cou ein eou se efc fad hea coo low hig hot amb wlo whi who spa p1 _ ty_V0 ty_C0 ty_y10) (cm_V 2 hts kc_X0_moveCharge ki_RX0 kl_RX0_112 kv_X0_moveCharge kx_X0_moveCharge kd_X0_moveCharge ⟨Nat.le_of_ble_eq_true rfl, Nat.le_of_ble_eq_true rfl⟩) (ty_preE (ci := 0) hP hK hD hS hA hX rfl (ty_app (j := 0) rfl)) rfl rfl hl.1 rfl (lv_room (Nat.le_of_ble_eq_true rfl)) dX0_passCurrent_8 ⟨Nat.le_of_ble_eq_true rfl, Nat.le_of_ble_eq_true rfl⟩) (fun u H locs hw_8 hP hD hS => ?_)
  obtain ⟨ws_9, chg1_10, lft1_11, cin1_12, cou1_13⟩ := u
  obtain ⟨hT9_14, hp_15⟩ := hw_8
  have hp_15 : (a_X0_moveCharge nom chg lft cin cou efc p1 chg1_10 lft1_11 cin1_12 cou1_13) := hp_15
  obtain ⟨hP, hD⟩ := ty_bkPD (E := [(rf_RW ct 0 cur 11 cv), (fn_0 cl cur pts nom ohm pol tau chg1_10 lft1_11 cap thr pz1_4 tmp het cun vol bk), (fn_3 bk cin1_12 cou1_13 ein eou), (fn_7 se efc fad hea coo low hig hot amb wlo whi who spa)]) hP hD rfl
  refine lv_aload_n hx hb dX0_passCurrent_11 rfl (lv_at hl 0 rfl) ?_
  refine lv_iload_n hx hb dX0_passCurrent_12 rfl (lv_at hl 1 rfl) ?_
  refine lv_aload_n hx hb dX0_passCurrent_13 rfl (lv_at hl 2 rfl) ?_
  obtain ⟨hP, hD⟩ := ty_opPD (E1 := [(rf_RW ct 0 cur 11 cv), (fn_3 bk cin1_12 cou1_13 ein eou)]) (E2 := [(fn_0 cl cur pts nom ohm pol tau chg1_10 lft1_11 cap thr pz1_4 tmp het cun vol bk), (fn_7 se efc fad hea coo low hig hot amb wlo whi who spa)]) (n := 4) [0, 2, 1, 3] hP hD rfl rfl (by decide +kernel) ty_mv2
  refine ty_Kv hP hD hS hA (va_runV (As := [.int p1, .ref se]) (rest := []) ⟨hx, hb, hml, hown, hts⟩ (r_X0_wear l D ct (fun _ => none) [] (fun _ => True) (fun _ _ _ => True) cl cur pts nom ohm pol tau chg1_10 lft1_11 cap thr pz1_4 tmp het cun vol bk se efc fad hea coo low hig hot amb wlo whi who spa p1 _ ty_V0 ty_C0 ty_y10) (cm_V 2 hts kc_X0_wear ki_RX0 kl_RX0_116 kv_X0_wear kx_X0_wear kd_X0_wear ⟨Nat.le_of_ble_eq_true rfl, Nat.le_of_ble_eq_true rfl⟩) (ty_preE (ci := 0) hP hK hD hS hA hX rfl (ty_app (j := 0) rfl)) rfl rfl hl.1 rfl (lv_room (Nat.le_of_ble_eq_true rfl)) dX0_passCurrent_14 ⟨Nat.le_of_ble_eq_true rfl, Nat.le_of_ble_eq_true rfl⟩) (fun u H locs hw_17 hP hD hS => ?_)
  obtain ⟨ws_18, cap1_19, thr1_20⟩ := u
  obtain ⟨hT9_21, hp_22⟩ := hw_17
  have hp_22 : (a_X0_wear nom cap thr fad p1 cap1_19 thr1_20) := hp_22
  obtain ⟨hP, hD⟩ := ty_bkPD (E := [(rf_RW ct 0 cur 11 cv), (fn_3 bk cin1_12 cou1_13 ein eou), (fn_0 cl cur pts nom ohm pol tau chg1_10 lft1_11 cap1_19 thr1_20 pz1_4 tmp het cun vol bk), (fn_7 se efc fad hea coo low hig hot amb wlo whi who spa)]) hP hD rfl
  refine lv_aload_n hx hb dX0_passCurrent_17 rfl (lv_at hl 0 rfl) ?_
  refine lv_iload_n hx hb dX0_passCurrent_18 rfl (lv_at hl 1 rfl) ?_
  refine lv_aload_n hx hb dX0_passCurrent_19 rfl (lv_at hl 2 rfl) ?_
  obtain ⟨hP, hD⟩ := ty_ipPD (E1 := [(rf_RW ct 0 cur 11 cv), (fn_3 bk cin1_12 cou1_13 ein eou)]) (E2 := [(fn_0 cl cur pts nom ohm pol tau chg1_10 lft1_11 cap1_19 thr1_20 pz1_4 tmp het cun vol bk), (fn_7 se efc fad hea coo low hig hot amb wlo whi who spa)]) hP hD rfl ty_mv2
  refine ty_Kv hP hD hS hA (va_runV (As := [.int p1, .ref se]) (rest := []) ⟨hx, hb, hml, hown, hts⟩ (r_X0_warm l D ct (fun _ => none) [] (fun _ => True) (fun _ _ _ => True) cl cur pts nom ohm pol tau chg1_10 lft1_11 cap1_19 thr1_20 pz1_4 tmp het cun vol bk se efc fad hea coo low hig hot amb wlo whi who spa p1 _ ty_V0 ty_C0 ty_y10) (cm_V 2 hts kc_X0_warm ki_RX0 kl_RX0_119 kv_X0_warm kx_X0_warm kd_X0_warm ⟨Nat.le_of_ble_eq_true rfl, Nat.le_of_ble_eq_true rfl⟩) (ty_preE (ci := 0) hP hK hD hS hA hX rfl (ty_app (j := 0) rfl)) rfl rfl hl.1 rfl (lv_room (Nat.le_of_ble_eq_true rfl)) dX0_passCurrent_20 ⟨Nat.le_of_ble_eq_true rfl, Nat.le_of_ble_eq_true rfl⟩) (fun u H locs hw_24 hP hD hS => ?_)
  obtain ⟨ws_25, tmp1_26, het1_27⟩ := u
  obtain ⟨hT9_28, hp_29⟩ := hw_24
  have hp_29 : (a_X0_warm ohm tmp het hea coo amb p1 tmp1_26 het1_27) := hp_29
  obtain ⟨hP, hD⟩ := ty_bkPD (E := [(rf_RW ct 0 cur 11 cv), (fn_3 bk cin1_12 cou1_13 ein eou), (fn_0 cl cur pts nom ohm pol tau chg1_10 lft1_11 cap1_19 thr1_20 pz1_4 tmp1_26 het1_27 cun vol bk), (fn_7 se efc fad hea coo low hig hot amb wlo whi who spa)]) hP hD rfl
  refine lv_aload_n hx hb dX0_passCurrent_23 rfl (lv_at hl 0 rfl) ?_
  refine lv_iload_n hx hb dX0_passCurrent_24 rfl (lv_at hl 1 rfl) ?_
  refine va_put (v := .int p1) (ty := .int) (D := D) (ci := 0) (C := RX0) (T := TX0) (N := 16) hx hb hts in_X0 tyX0 tyX0_ok nmX0 hown hK hP hD hS 2 rfl rfl 13 (by decide) (hts _ kl_RX0_66) (fun _ h9 => h9) rfl (by decide +kernel) rfl rfl (Nat.le_of_ble_eq_true rfl) dX0_passCurrent_25 (fun H locs hP hD hS => ?_)
  have hP : va_P D vwCl ([(rf_RW ct 0 cur 11 cv), (fn_3 bk cin1_12 cou1_13 ein eou), (fn_0 cl cur pts nom ohm pol tau chg1_10 lft1_11 cap1_19 thr1_20 pz1_4 tmp1_26 het1_27 p1 vol bk), (fn_7 se efc fad hea coo low hig hot amb wlo whi who spa)] ++ ws) H := hP
  have hD : va_D A ([(rf_RW ct 0 cur 11 cv), (fn_3 bk cin1_12 cou1_13 ein eou), (fn_0 cl cur pts nom ohm pol tau chg1_10 lft1_11 cap1_19 thr1_20 pz1_4 tmp1_26 het1_27 p1 vol bk), (fn_7 se efc fad hea coo low hig hot amb wlo whi who spa)] ++ ws) := hD
  refine lv_aload_n hx hb dX0_passCurrent_28 rfl (lv_at hl 0 rfl) ?_
  refine lv_aload_n hx hb dX0_passCurrent_29 rfl (lv_at hl 0 rfl) ?_
  refine lv_aload_n hx hb dX0_passCurrent_30 rfl (lv_at hl 0 rfl) ?_
  refine va_get (v := .int chg1_10) (D := D) (ci := 0) (C := RX0) (T := TX0) (N := 16) hx hb hts in_X0 hown hK hP 2 rfl rfl 6 (by decide) (hts _ kl_RX0_42) (fun _ h9 => h9) rfl dX0_passCurrent_31 ?_
  obtain ⟨hP, hD⟩ := ty_opPD (E1 := [(fn_3 bk cin1_12 cou1_13 ein eou), (fn_7 se efc fad hea coo low hig hot amb wlo whi who spa)]) (E2 := [(fn_0 cl cur pts nom ohm pol tau chg1_10 lft1_11 cap1_19 thr1_20 pz1_4 tmp1_26 het1_27 p1 vol bk), (rf_RW ct 0 cur 11 cv)]) (n := 4) [1, 3, 2, 0] hP hD rfl rfl (by decide +kernel) ty_mv2
  refine ty_Ki hP hD hS hA (va_runV (As := [.int chg1_10]) (rest := [.ref cl]) ⟨hx, hb, hml, hown, hts⟩ (r_X0_restVoltageAt l D ct (fun _ => none) [] (fun _ => True) (fun _ _ _ => True) cl cur pts nom ohm pol tau chg1_10 lft1_11 cap1_19 thr1_20 pz1_4 tmp1_26 het1_27 p1 vol bk cv chg1_10 _ ty_V0 ty_C0 ty_y10) (cm_V 1 hts kc_X0_restVoltageAt ki_RX0 kl_RX0_84 kv_X0_restVoltageAt kx_X0_restVoltageAt kd_X0_restVoltageAt ⟨Nat.le_of_ble_eq_true rfl, Nat.le_of_ble_eq_true rfl⟩) (ty_preE (ci := 0) hP hK hD hS hA hX rfl (ty_app (j := 0) rfl)) rfl rfl hl.1 rfl (lv_room (Nat.le_of_ble_eq_true rfl)) dX0_passCurrent_34 ⟨Nat.le_of_ble_eq_true rfl, Nat.le_of_ble_eq_true rfl⟩) (fun r_30 u H locs hw_31 hP hD hS => ?_)
  obtain ⟨ws_32, rfl⟩ : ∃ z, z = u := ⟨_, rfl⟩
  obtain ⟨hT9_33, hp_34⟩ := hw_31
  have hp_34 : (a_X0_restVoltageAt pts cap1_19 cv chg1_10 r_30) := hp_34
  obtain ⟨hP, hD⟩ := ty_bkPD (E := [(fn_3 bk cin1_12 cou1_13 ein eou), (fn_7 se efc fad hea coo low hig hot amb wlo whi who spa), (fn_0 cl cur pts nom ohm pol tau chg1_10 lft1_11 cap1_19 thr1_20 pz1_4 tmp1_26 het1_27 p1 vol bk), (rf_RW ct 0 cur 11 cv)]) hP hD rfl
  refine lv_iload_n hx hb dX0_passCurrent_37 rfl (lv_at hl 1 rfl) ?_
  refine lv_aload_n hx hb dX0_passCurrent_38 rfl (lv_at hl 0 rfl) ?_
  refine va_get (v := .int ohm) (D := D) (ci := 0) (C := RX0) (T := TX0) (N := 16) hx hb hts in_X0 hown hK hP 2 rfl rfl 3 (by decide) (hts _ kl_RX0_90) (fun _ h9 => h9) rfl dX0_passCurrent_39 ?_
  refine lv_imul hx hb dX0_passCurrent_42 ?_
  refine lv_sipush (v := 1000) hx hb dX0_passCurrent_43 (by decide) ?_
  refine lv_idiv hx hb dX0_passCurrent_46 (by decide) ?_
  refine lv_iadd hx hb dX0_passCurrent_47 ?_
  refine lv_aload_n hx hb dX0_passCurrent_48 rfl (lv_at hl 0 rfl) ?_
  refine va_get (v := .int pz1_4) (D := D) (ci := 0) (C := RX0) (T := TX0) (N := 16) hx hb hts in_X0 hown hK hP 2 rfl rfl 10 (by decide) (hts _ kl_RX0_57) (fun _ h9 => h9) rfl dX0_passCurrent_49 ?_
  refine lv_iadd hx hb dX0_passCurrent_52 ?_
  refine va_put (v := .int ((r_30 + ((p1 * ohm) / 1000)) + pz1_4)) (ty := .int) (D := D) (ci := 0) (C := RX0) (T := TX0) (N := 16) hx hb hts in_X0 tyX0 tyX0_ok nmX0 hown hK hP hD hS 2 rfl rfl 14 (by decide) (hts _ kl_RX0_69) (fun _ h9 => h9) rfl (by decide +kernel) rfl rfl (Nat.le_of_ble_eq_true rfl) dX0_passCurrent_53 (fun H locs hP hD hS => ?_)
  have hP : va_P D vwCl ([(fn_3 bk cin1_12 cou1_13 ein eou), (fn_7 se efc fad hea coo low hig hot amb wlo whi who spa), (fn_0 cl cur pts nom ohm pol tau chg1_10 lft1_11 cap1_19 thr1_20 pz1_4 tmp1_26 het1_27 p1 ((r_30 + ((p1 * ohm) / 1000)) + pz1_4) bk), (rf_RW ct 0 cur 11 cv)] ++ ws) H := hP
  have hD : va_D A ([(fn_3 bk cin1_12 cou1_13 ein eou), (fn_7 se efc fad hea coo low hig hot amb wlo whi who spa), (fn_0 cl cur pts nom ohm pol tau chg1_10 lft1_11 cap1_19 thr1_20 pz1_4 tmp1_26 het1_27 p1 ((r_30 + ((p1 * ohm) / 1000)) + pz1_4) bk), (rf_RW ct 0 cur 11 cv)] ++ ws) := hD
  refine lv_iload_n hx hb dX0_passCurrent_56 rfl (lv_at hl 1 rfl) ?_
  refine lv_if_le (tgt := 83) hx hb dX0_passCurrent_57 (by decide) (fun hc_35 => ?_) (fun hc_35 => ?_)
  · refine lv_aload_n hx hb dX0_passCurrent_83 rfl (lv_at hl 0 rfl) ?_
    refine va_get (v := .ref bk) (D := D) (ci := 0) (C := RX0) (T := TX0) (N := 16) hx hb hts in_X0 hown hK hP 2 rfl rfl 15 (by decide) (hts _ kl_RX0_18) (fun _ h9 => h9) rfl dX0_passCurrent_84 ?_
    refine lv_dup hx hb dX0_passCurrent_87 rfl ?_
    refine va_getN (v := .long eou) (D := D) (ci := 3) (C := RX3) (T := TX3) (N := 4) hx hb hts in_X3 hown hK hP 0 rfl rfl 3 (by decide) (hts _ kl_RX0_126) (fun _ h9 => h9) rfl dX0_passCurrent_88 ?_
    refine lv_iload_n hx hb dX0_passCurrent_91 rfl (lv_at hl 1 rfl) ?_
    refine lv_i2l hx hb dX0_passCurrent_92 rfl ?_
    refine lv_lneg hx hb dX0_passCurrent_93 ?_
    refine lv_aload_n hx hb dX0_passCurrent_94 rfl (lv_at hl 0 rfl) ?_
    refine va_get (v := .int ((r_30 + ((p1 * ohm) / 1000)) + pz1_4)) (D := D) (ci := 0) (C := RX0) (T := TX0) (N := 16) hx hb hts in_X0 hown hK hP 2 rfl rfl 14 (by decide) (hts _ kl_RX0_69) (fun _ h9 => h9) rfl dX0_passCurrent_95 ?_
    refine lv_i2l hx hb dX0_passCurrent_98 rfl ?_
    refine lv_lmul hx hb dX0_passCurrent_99 ?_
    refine lv_ladd hx hb dX0_passCurrent_100 ?_
    refine va_putN (v := .long (eou + ((- p1.toInt64) * (((r_30 + ((p1 * ohm) / 1000)) + pz1_4).toInt64)))) (ty := .long) (D := D) (ci := 3) (C := RX3) (T := TX3) (N := 4) hx hb hts in_X3 tyX3 tyX3_ok nmX3 hown hK hP hD hS 0 rfl rfl 3 (by decide) (hts _ kl_RX0_126) (fun _ h9 => h9) rfl (by decide +kernel) rfl rfl (Nat.le_of_ble_eq_true rfl) dX0_passCurrent_101 (fun H locs hP hD hS => ?_)
    have hP : va_P D vwCl ([(fn_3 bk cin1_12 cou1_13 ein (eou + ((- p1.toInt64) * (((r_30 + ((p1 * ohm) / 1000)) + pz1_4).toInt64)))), (fn_7 se efc fad hea coo low hig hot amb wlo whi who spa), (fn_0 cl cur pts nom ohm pol tau chg1_10 lft1_11 cap1_19 thr1_20 pz1_4 tmp1_26 het1_27 p1 ((r_30 + ((p1 * ohm) / 1000)) + pz1_4) bk), (rf_RW ct 0 cur 11 cv)] ++ ws) H := hP
    have hD : va_D A ([(fn_3 bk cin1_12 cou1_13 ein (eou + ((- p1.toInt64) * (((r_30 + ((p1 * ohm) / 1000)) + pz1_4).toInt64)))), (fn_7 se efc fad hea coo low hig hot amb wlo whi who spa), (fn_0 cl cur pts nom ohm pol tau chg1_10 lft1_11 cap1_19 thr1_20 pz1_4 tmp1_26 het1_27 p1 ((r_30 + ((p1 * ohm) / 1000)) + pz1_4) bk), (rf_RW ct 0 cur 11 cv)] ++ ws) := hD
    obtain ⟨hP, hD⟩ := ty_ordPD (E2 := [(fn_0 cl cur pts nom ohm pol tau chg1_10 lft1_11 cap1_19 thr1_20 pz1_4 tmp1_26 het1_27 p1 ((r_30 + ((p1 * ohm) / 1000)) + pz1_4) bk), (rf_RW ct 0 cur 11 cv), (fn_3 bk cin1_12 cou1_13 ein (eou + ((- p1.toInt64) * (((r_30 + ((p1 * ohm) / 1000)) + pz1_4).toInt64)))), (fn_7 se efc fad hea coo low hig hot amb wlo whi who spa)]) (n := 4) [2, 3, 0, 1] hP hD rfl rfl (by decide +kernel)
    exact W.vret hx hb hr (fun t ht hW => ⟨⟨(ws, chg1_10, lft1_11, cap1_19, thr1_20, pz1_4, tmp1_26, het1_27, p1, ((r_30 + ((p1 * ohm) / 1000)) + pz1_4), cin1_12, cou1_13, ein, (eou + ((- p1.toInt64) * (((r_30 + ((p1 * ohm) / 1000)) + pz1_4).toInt64)))), rfl, ⟨hT, ⟨pz1_4, hp_6, ⟨chg1_10, lft1_11, cin1_12, cou1_13, hp_15, ⟨cap1_19, thr1_20, hp_22, ⟨tmp1_26, het1_27, hp_29, ⟨r_30, hp_34, (Or.inl ⟨hc_35, ⟨rfl, rfl, rfl, rfl, rfl, rfl, rfl, rfl, rfl, rfl, rfl, rfl, rfl⟩⟩)⟩⟩⟩⟩⟩⟩, by rw [ht]; exact hP, by rw [hAe]; exact hD⟩, hS.F ht⟩) hS.2.2 dX0_passCurrent_104
  · refine lv_aload_n hx hb dX0_passCurrent_60 rfl (lv_at hl 0 rfl) ?_
    refine va_get (v := .ref bk) (D := D) (ci := 0) (C := RX0) (T := TX0) (N := 16) hx hb hts in_X0 hown hK hP 2 rfl rfl 15 (by decide) (hts _ kl_RX0_18) (fun _ h9 => h9) rfl dX0_passCurrent_61 ?_
    refine lv_dup hx hb dX0_passCurrent_64 rfl ?_
    refine va_getN (v := .long ein) (D := D) (ci := 3) (C := RX3) (T := TX3) (N := 4) hx hb hts in_X3 hown hK hP 0 rfl rfl 2 (by decide) (hts _ kl_RX0_122) (fun _ h9 => h9) rfl dX0_passCurrent_65 ?_
    refine lv_iload_n hx hb dX0_passCurrent_68 rfl (lv_at hl 1 rfl) ?_
    refine lv_i2l hx hb dX0_passCurrent_69 rfl ?_
    refine lv_aload_n hx hb dX0_passCurrent_70 rfl (lv_at hl 0 rfl) ?_
    refine va_get (v := .int ((r_30 + ((p1 * ohm) / 1000)) + pz1_4)) (D := D) (ci := 0) (C := RX0) (T := TX0) (N := 16) hx hb hts in_X0 hown hK hP 2 rfl rfl 14 (by decide) (hts _ kl_RX0_69) (fun _ h9 => h9) rfl dX0_passCurrent_71 ?_
    refine lv_i2l hx hb dX0_passCurrent_74 rfl ?_
    refine lv_lmul hx hb dX0_passCurrent_75 ?_
    refine lv_ladd hx hb dX0_passCurrent_76 ?_
    refine va_putN (v := .long (ein + (p1.toInt64 * (((r_30 + ((p1 * ohm) / 1000)) + pz1_4).toInt64)))) (ty := .long) (D := D) (ci := 3) (C := RX3) (T := TX3) (N := 4) hx hb hts in_X3 tyX3 tyX3_ok nmX3 hown hK hP hD hS 0 rfl rfl 2 (by decide) (hts _ kl_RX0_122) (fun _ h9 => h9) rfl (by decide +kernel) rfl rfl (Nat.le_of_ble_eq_true rfl) dX0_passCurrent_77 (fun H locs hP hD hS => ?_)
    have hP : va_P D vwCl ([(fn_3 bk cin1_12 cou1_13 (ein + (p1.toInt64 * (((r_30 + ((p1 * ohm) / 1000)) + pz1_4).toInt64))) eou), (fn_7 se efc fad hea coo low hig hot amb wlo whi who spa), (fn_0 cl cur pts nom ohm pol tau chg1_10 lft1_11 cap1_19 thr1_20 pz1_4 tmp1_26 het1_27 p1 ((r_30 + ((p1 * ohm) / 1000)) + pz1_4) bk), (rf_RW ct 0 cur 11 cv)] ++ ws) H := hP
    have hD : va_D A ([(fn_3 bk cin1_12 cou1_13 (ein + (p1.toInt64 * (((r_30 + ((p1 * ohm) / 1000)) + pz1_4).toInt64))) eou), (fn_7 se efc fad hea coo low hig hot amb wlo whi who spa), (fn_0 cl cur pts nom ohm pol tau chg1_10 lft1_11 cap1_19 thr1_20 pz1_4 tmp1_26 het1_27 p1 ((r_30 + ((p1 * ohm) / 1000)) + pz1_4) bk), (rf_RW ct 0 cur 11 cv)] ++ ws) := hD
    refine lv_goto (tgt := 104) hx hb dX0_passCurrent_80 (by decide) ?_
    obtain ⟨hP, hD⟩ := ty_ordPD (E2 := [(fn_0 cl cur pts nom ohm pol tau chg1_10 lft1_11 cap1_19 thr1_20 pz1_4 tmp1_26 het1_27 p1 ((r_30 + ((p1 * ohm) / 1000)) + pz1_4) bk), (rf_RW ct 0 cur 11 cv), (fn_3 bk cin1_12 cou1_13 (ein + (p1.toInt64 * (((r_30 + ((p1 * ohm) / 1000)) + pz1_4).toInt64))) eou), (fn_7 se efc fad hea coo low hig hot amb wlo whi who spa)]) (n := 4) [2, 3, 0, 1] hP hD rfl rfl (by decide +kernel)
    exact W.vret hx hb hr (fun t ht hW => ⟨⟨(ws, chg1_10, lft1_11, cap1_19, thr1_20, pz1_4, tmp1_26, het1_27, p1, ((r_30 + ((p1 * ohm) / 1000)) + pz1_4), cin1_12, cou1_13, (ein + (p1.toInt64 * (((r_30 + ((p1 * ohm) / 1000)) + pz1_4).toInt64))), eou), rfl, ⟨hT, ⟨pz1_4, hp_6, ⟨chg1_10, lft1_11, cin1_12, cou1_13, hp_15, ⟨cap1_19, thr1_20, hp_22, ⟨tmp1_26, het1_27, hp_29, ⟨r_30, hp_34, (Or.inr ⟨hc_35, ⟨rfl, rfl, rfl, rfl, rfl, rfl, rfl, rfl, rfl, rfl, rfl, rfl, rfl⟩⟩)⟩⟩⟩⟩⟩⟩, by rw [ht]; exact hP, by rw [hAe]; exact hD⟩, hS.F ht⟩) hS.2.2 dX0_passCurrent_104
def a_X10_put_4 (b : Nat → Int32) (p2 : Int32) (p3 : Int32) (b1 : Nat → Int32) : Prop := ((p2 < (0 : Int32) ∧ (b1 = b)) ∨ (¬ p2 < (0 : Int32) ∧ (((4 : Int32) ≤ p2 ∧ (b1 = b)) ∨ (¬ (4 : Int32) ≤ p2 ∧ (b1 = (upd b p2.toNatClampNeg p3))))))
set_option maxRecDepth 100000 in
set_option maxHeartbeats 4000000 in
theorem r_X10_put_4 (l : Launch) (D : va_G) (ct : Nat → ClassId) (S : ty_S) (ws : va_W) (ph : va_W → Prop) (xx : Nat → Nat → Nat → Prop) (p1 : Nat) (b : Nat → Int32) (p2 : Int32) (p3 : Int32) (sz : Nat) (hT : ty_V ct S ph ws) (hph : ty_C ph xx) (hy1 : ty_y1 xx) : Met l yX10_put (ws_ yX10_put cX10_put 3 none) ({ frames := 0, cells := 0, slots := 0, locals := 0 } : Room) (va_Pc [.ref p1, .int p2, .int p3] (cmP D ct sz ([(rf_RW ct 0 p1 4 b)] ++ ws))) (va_Qv (fun (u : va_W × (Nat → Int32)) => match u with | (u9, b1) => ty_V ct S ph u9 ∧ (a_X10_put_4 b p2 p3 b1)) (cmB D ([(rf_RW ct 0 p1 4 b)] ++ ws) sz (fun (u : va_W × (Nat → Int32)) => match u with | (u9, b1) => ([(rf_RW ct 0 p1 4 b1)] ++ u9))) (va_A ([(rf_RW ct 0 p1 4 b)] ++ ws) sz)) 0 0 (va_A ([(rf_RW ct 0 p1 4 b)] ++ ws) sz) := by
  refine Met.ofW (cc := cX10_put) (maxL := 3) (ret := none) (by decide) rfl ?_
  intro p e s m args below meth c s₁ B hml hv
  obtain ⟨rfl, hsz, hP, hK, hD0, hX⟩ := hv
  have hx := B.exec
  have hb := B.bytes
  have hr := B.returns
  have hts := ws_all (atoms_spec (ws := ws_ yX10_put cX10_put 3 none) B.pre)
  have hown : s.vm.findClass RX10 = some m.cls := findClass_of_methodNamed B.named
  have hlocks := B.notSynchronized
  subst hsz
  have hD := hD0.self (sz := s.heap.size)
  generalize hAe : va_A ([(rf_RW ct 0 p1 4 b)] ++ ws) s.heap.size = A at hD hX ⊢
  have hA : ∀ q : Nat, s.heap.size ≤ q → A q := fun q h => by rw [← hAe]; exact Or.inr h
  have hS : va_S A s.heap s.heap [] := va_S.rf
  have hl := lv_entry ([.ref p1, .int p2, .int p3]) (n := 3) (Nat.le_of_ble_eq_true rfl)
  rw [lg_entry_eq]
  generalize (lg_sl ([.ref p1, .int p2, .int p3]) ++ List.replicate (3 - (lg_sl ([.ref p1, .int p2, .int p3])).length) Slot.unset).toArray = ls at hl ⊢
  have hl : lv_has ls 3 [(0, .ref p1), (1, .int p2), (2, .int p3)] := hl
  refine lv_iload_n hx hb dX10_put_0 rfl (lv_at hl 1 rfl) ?_
  refine lv_if_lt (tgt := 14) hx hb dX10_put_1 (by decide) (fun hc_1 => ?_) (fun hc_1 => ?_)
  · exact W.vret hx hb hr (fun t ht hW => ⟨⟨(ws, b), rfl, ⟨hT, (Or.inl ⟨hc_1, rfl⟩)⟩, by rw [ht]; exact hP, by rw [hAe]; exact hD⟩, hS.F ht⟩) hS.2.2 dX10_put_14
  · refine lv_iload_n hx hb dX10_put_4 rfl (lv_at hl 1 rfl) ?_
    refine lv_aload_n hx hb dX10_put_5 rfl (lv_at hl 0 rfl) ?_
    refine va_alen hx hb hK hP 0 0 rfl rfl (v := 4) (show Int32.ofNat 4 = (4 : Int32) from by decide) dX10_put_6 ?_
    refine lv_icmp_ge (tgt := 14) hx hb dX10_put_7 (by decide) (fun hc_2 => ?_) (fun hc_2 => ?_)
    · exact W.vret hx hb hr (fun t ht hW => ⟨⟨(ws, b), rfl, ⟨hT, (Or.inr ⟨hc_1, (Or.inl ⟨hc_2, rfl⟩)⟩)⟩, by rw [ht]; exact hP, by rw [hAe]; exact hD⟩, hS.F ht⟩) hS.2.2 dX10_put_14
    · refine lv_aload_n hx hb dX10_put_10 rfl (lv_at hl 0 rfl) ?_
      refine lv_iload_n hx hb dX10_put_11 rfl (lv_at hl 1 rfl) ?_
      refine lv_iload_n hx hb dX10_put_12 rfl (lv_at hl 2 rfl) ?_
      refine va_iast hx hb hK hP hD hS 0 0 rfl rfl (a_vin2 (k := 4) (by decide) hc_1 hc_2) dX10_put_13 (fun H locs hP hD hS => ?_)
      have hP : va_P D vwCl ([(rf_RW ct 0 p1 4 (upd b p2.toNatClampNeg p3))] ++ ws) H := hP
      have hD : va_D A ([(rf_RW ct 0 p1 4 (upd b p2.toNatClampNeg p3))] ++ ws) := hD
      exact W.vret hx hb hr (fun t ht hW => ⟨⟨(ws, (upd b p2.toNatClampNeg p3)), rfl, ⟨hT, (Or.inr ⟨hc_1, (Or.inr ⟨hc_2, rfl⟩)⟩)⟩, by rw [ht]; exact hP, by rw [hAe]; exact hD⟩, hS.F ht⟩) hS.2.2 dX10_put_14
def a_X10_put_10 (b : Nat → Int32) (p2 : Int32) (p3 : Int32) (b1 : Nat → Int32) : Prop := ((p2 < (0 : Int32) ∧ (b1 = b)) ∨ (¬ p2 < (0 : Int32) ∧ (((10 : Int32) ≤ p2 ∧ (b1 = b)) ∨ (¬ (10 : Int32) ≤ p2 ∧ (b1 = (upd b p2.toNatClampNeg p3))))))
set_option maxRecDepth 100000 in
set_option maxHeartbeats 4000000 in
theorem r_X10_put_10 (l : Launch) (D : va_G) (ct : Nat → ClassId) (S : ty_S) (ws : va_W) (ph : va_W → Prop) (xx : Nat → Nat → Nat → Prop) (p1 : Nat) (b : Nat → Int32) (p2 : Int32) (p3 : Int32) (sz : Nat) (hT : ty_V ct S ph ws) (hph : ty_C ph xx) (hy1 : ty_y1 xx) : Met l yX10_put (ws_ yX10_put cX10_put 3 none) ({ frames := 0, cells := 0, slots := 0, locals := 0 } : Room) (va_Pc [.ref p1, .int p2, .int p3] (cmP D ct sz ([(rf_RW ct 0 p1 10 b)] ++ ws))) (va_Qv (fun (u : va_W × (Nat → Int32)) => match u with | (u9, b1) => ty_V ct S ph u9 ∧ (a_X10_put_10 b p2 p3 b1)) (cmB D ([(rf_RW ct 0 p1 10 b)] ++ ws) sz (fun (u : va_W × (Nat → Int32)) => match u with | (u9, b1) => ([(rf_RW ct 0 p1 10 b1)] ++ u9))) (va_A ([(rf_RW ct 0 p1 10 b)] ++ ws) sz)) 0 0 (va_A ([(rf_RW ct 0 p1 10 b)] ++ ws) sz) := by
  refine Met.ofW (cc := cX10_put) (maxL := 3) (ret := none) (by decide) rfl ?_
  intro p e s m args below meth c s₁ B hml hv
  obtain ⟨rfl, hsz, hP, hK, hD0, hX⟩ := hv
  have hx := B.exec
  have hb := B.bytes
  have hr := B.returns
  have hts := ws_all (atoms_spec (ws := ws_ yX10_put cX10_put 3 none) B.pre)
  have hown : s.vm.findClass RX10 = some m.cls := findClass_of_methodNamed B.named
  have hlocks := B.notSynchronized
  subst hsz
  have hD := hD0.self (sz := s.heap.size)
  generalize hAe : va_A ([(rf_RW ct 0 p1 10 b)] ++ ws) s.heap.size = A at hD hX ⊢
  have hA : ∀ q : Nat, s.heap.size ≤ q → A q := fun q h => by rw [← hAe]; exact Or.inr h
  have hS : va_S A s.heap s.heap [] := va_S.rf
  have hl := lv_entry ([.ref p1, .int p2, .int p3]) (n := 3) (Nat.le_of_ble_eq_true rfl)
  rw [lg_entry_eq]
  generalize (lg_sl ([.ref p1, .int p2, .int p3]) ++ List.replicate (3 - (lg_sl ([.ref p1, .int p2, .int p3])).length) Slot.unset).toArray = ls at hl ⊢
  have hl : lv_has ls 3 [(0, .ref p1), (1, .int p2), (2, .int p3)] := hl
  refine lv_iload_n hx hb dX10_put_0 rfl (lv_at hl 1 rfl) ?_
  refine lv_if_lt (tgt := 14) hx hb dX10_put_1 (by decide) (fun hc_1 => ?_) (fun hc_1 => ?_)
  · exact W.vret hx hb hr (fun t ht hW => ⟨⟨(ws, b), rfl, ⟨hT, (Or.inl ⟨hc_1, rfl⟩)⟩, by rw [ht]; exact hP, by rw [hAe]; exact hD⟩, hS.F ht⟩) hS.2.2 dX10_put_14
  · refine lv_iload_n hx hb dX10_put_4 rfl (lv_at hl 1 rfl) ?_
    refine lv_aload_n hx hb dX10_put_5 rfl (lv_at hl 0 rfl) ?_
    refine va_alen hx hb hK hP 0 0 rfl rfl (v := 10) (show Int32.ofNat 10 = (10 : Int32) from by decide) dX10_put_6 ?_
    refine lv_icmp_ge (tgt := 14) hx hb dX10_put_7 (by decide) (fun hc_2 => ?_) (fun hc_2 => ?_)
    · exact W.vret hx hb hr (fun t ht hW => ⟨⟨(ws, b), rfl, ⟨hT, (Or.inr ⟨hc_1, (Or.inl ⟨hc_2, rfl⟩)⟩)⟩, by rw [ht]; exact hP, by rw [hAe]; exact hD⟩, hS.F ht⟩) hS.2.2 dX10_put_14
    · refine lv_aload_n hx hb dX10_put_10 rfl (lv_at hl 0 rfl) ?_
      refine lv_iload_n hx hb dX10_put_11 rfl (lv_at hl 1 rfl) ?_
      refine lv_iload_n hx hb dX10_put_12 rfl (lv_at hl 2 rfl) ?_
      refine va_iast hx hb hK hP hD hS 0 0 rfl rfl (a_vin2 (k := 10) (by decide) hc_1 hc_2) dX10_put_13 (fun H locs hP hD hS => ?_)
      have hP : va_P D vwCl ([(rf_RW ct 0 p1 10 (upd b p2.toNatClampNeg p3))] ++ ws) H := hP
      have hD : va_D A ([(rf_RW ct 0 p1 10 (upd b p2.toNatClampNeg p3))] ++ ws) := hD
      exact W.vret hx hb hr (fun t ht hW => ⟨⟨(ws, (upd b p2.toNatClampNeg p3)), rfl, ⟨hT, (Or.inr ⟨hc_1, (Or.inr ⟨hc_2, rfl⟩)⟩)⟩, by rw [ht]; exact hP, by rw [hAe]; exact hD⟩, hS.F ht⟩) hS.2.2 dX10_put_14
def a_X10_put_12 (b : Nat → Int32) (p2 : Int32) (p3 : Int32) (b1 : Nat → Int32) : Prop := ((p2 < (0 : Int32) ∧ (b1 = b)) ∨ (¬ p2 < (0 : Int32) ∧ (((12 : Int32) ≤ p2 ∧ (b1 = b)) ∨ (¬ (12 : Int32) ≤ p2 ∧ (b1 = (upd b p2.toNatClampNeg p3))))))
set_option maxRecDepth 100000 in
set_option maxHeartbeats 4000000 in
theorem r_X10_put_12 (l : Launch) (D : va_G) (ct : Nat → ClassId) (S : ty_S) (ws : va_W) (ph : va_W → Prop) (xx : Nat → Nat → Nat → Prop) (p1 : Nat) (b : Nat → Int32) (p2 : Int32) (p3 : Int32) (sz : Nat) (hT : ty_V ct S ph ws) (hph : ty_C ph xx) (hy1 : ty_y1 xx) : Met l yX10_put (ws_ yX10_put cX10_put 3 none) ({ frames := 0, cells := 0, slots := 0, locals := 0 } : Room) (va_Pc [.ref p1, .int p2, .int p3] (cmP D ct sz ([(rf_RW ct 0 p1 12 b)] ++ ws))) (va_Qv (fun (u : va_W × (Nat → Int32)) => match u with | (u9, b1) => ty_V ct S ph u9 ∧ (a_X10_put_12 b p2 p3 b1)) (cmB D ([(rf_RW ct 0 p1 12 b)] ++ ws) sz (fun (u : va_W × (Nat → Int32)) => match u with | (u9, b1) => ([(rf_RW ct 0 p1 12 b1)] ++ u9))) (va_A ([(rf_RW ct 0 p1 12 b)] ++ ws) sz)) 0 0 (va_A ([(rf_RW ct 0 p1 12 b)] ++ ws) sz) := by
  refine Met.ofW (cc := cX10_put) (maxL := 3) (ret := none) (by decide) rfl ?_
  intro p e s m args below meth c s₁ B hml hv
  obtain ⟨rfl, hsz, hP, hK, hD0, hX⟩ := hv
  have hx := B.exec
  have hb := B.bytes
  have hr := B.returns
  have hts := ws_all (atoms_spec (ws := ws_ yX10_put cX10_put 3 none) B.pre)
  have hown : s.vm.findClass RX10 = some m.cls := findClass_of_methodNamed B.named
  have hlocks := B.notSynchronized
  subst hsz
  have hD := hD0.self (sz := s.heap.size)
  generalize hAe : va_A ([(rf_RW ct 0 p1 12 b)] ++ ws) s.heap.size = A at hD hX ⊢
  have hA : ∀ q : Nat, s.heap.size ≤ q → A q := fun q h => by rw [← hAe]; exact Or.inr h
  have hS : va_S A s.heap s.heap [] := va_S.rf
  have hl := lv_entry ([.ref p1, .int p2, .int p3]) (n := 3) (Nat.le_of_ble_eq_true rfl)
  rw [lg_entry_eq]
  generalize (lg_sl ([.ref p1, .int p2, .int p3]) ++ List.replicate (3 - (lg_sl ([.ref p1, .int p2, .int p3])).length) Slot.unset).toArray = ls at hl ⊢
  have hl : lv_has ls 3 [(0, .ref p1), (1, .int p2), (2, .int p3)] := hl
  refine lv_iload_n hx hb dX10_put_0 rfl (lv_at hl 1 rfl) ?_
  refine lv_if_lt (tgt := 14) hx hb dX10_put_1 (by decide) (fun hc_1 => ?_) (fun hc_1 => ?_)
  · exact W.vret hx hb hr (fun t ht hW => ⟨⟨(ws, b), rfl, ⟨hT, (Or.inl ⟨hc_1, rfl⟩)⟩, by rw [ht]; exact hP, by rw [hAe]; exact hD⟩, hS.F ht⟩) hS.2.2 dX10_put_14
  · refine lv_iload_n hx hb dX10_put_4 rfl (lv_at hl 1 rfl) ?_
    refine lv_aload_n hx hb dX10_put_5 rfl (lv_at hl 0 rfl) ?_
    refine va_alen hx hb hK hP 0 0 rfl rfl (v := 12) (show Int32.ofNat 12 = (12 : Int32) from by decide) dX10_put_6 ?_
    refine lv_icmp_ge (tgt := 14) hx hb dX10_put_7 (by decide) (fun hc_2 => ?_) (fun hc_2 => ?_)
    · exact W.vret hx hb hr (fun t ht hW => ⟨⟨(ws, b), rfl, ⟨hT, (Or.inr ⟨hc_1, (Or.inl ⟨hc_2, rfl⟩)⟩)⟩, by rw [ht]; exact hP, by rw [hAe]; exact hD⟩, hS.F ht⟩) hS.2.2 dX10_put_14
    · refine lv_aload_n hx hb dX10_put_10 rfl (lv_at hl 0 rfl) ?_
      refine lv_iload_n hx hb dX10_put_11 rfl (lv_at hl 1 rfl) ?_
      refine lv_iload_n hx hb dX10_put_12 rfl (lv_at hl 2 rfl) ?_
      refine va_iast hx hb hK hP hD hS 0 0 rfl rfl (a_vin2 (k := 12) (by decide) hc_1 hc_2) dX10_put_13 (fun H locs hP hD hS => ?_)
      have hP : va_P D vwCl ([(rf_RW ct 0 p1 12 (upd b p2.toNatClampNeg p3))] ++ ws) H := hP
      have hD : va_D A ([(rf_RW ct 0 p1 12 (upd b p2.toNatClampNeg p3))] ++ ws) := hD
      exact W.vret hx hb hr (fun t ht hW => ⟨⟨(ws, (upd b p2.toNatClampNeg p3)), rfl, ⟨hT, (Or.inr ⟨hc_1, (Or.inr ⟨hc_2, rfl⟩)⟩)⟩, by rw [ht]; exact hP, by rw [hAe]; exact hD⟩, hS.F ht⟩) hS.2.2 dX10_put_14
def a_X10_put_150 (b : Nat → Int32) (p2 : Int32) (p3 : Int32) (b1 : Nat → Int32) : Prop := ((p2 < (0 : Int32) ∧ (b1 = b)) ∨ (¬ p2 < (0 : Int32) ∧ (((150 : Int32) ≤ p2 ∧ (b1 = b)) ∨ (¬ (150 : Int32) ≤ p2 ∧ (b1 = (upd b p2.toNatClampNeg p3))))))
set_option maxRecDepth 100000 in
set_option maxHeartbeats 4000000 in
theorem r_X10_put_150 (l : Launch) (D : va_G) (ct : Nat → ClassId) (S : ty_S) (ws : va_W) (ph : va_W → Prop) (xx : Nat → Nat → Nat → Prop) (p1 : Nat) (b : Nat → Int32) (p2 : Int32) (p3 : Int32) (sz : Nat) (hT : ty_V ct S ph ws) (hph : ty_C ph xx) (hy1 : ty_y1 xx) : Met l yX10_put (ws_ yX10_put cX10_put 3 none) ({ frames := 0, cells := 0, slots := 0, locals := 0 } : Room) (va_Pc [.ref p1, .int p2, .int p3] (cmP D ct sz ([(rf_RW ct 0 p1 150 b)] ++ ws))) (va_Qv (fun (u : va_W × (Nat → Int32)) => match u with | (u9, b1) => ty_V ct S ph u9 ∧ (a_X10_put_150 b p2 p3 b1)) (cmB D ([(rf_RW ct 0 p1 150 b)] ++ ws) sz (fun (u : va_W × (Nat → Int32)) => match u with | (u9, b1) => ([(rf_RW ct 0 p1 150 b1)] ++ u9))) (va_A ([(rf_RW ct 0 p1 150 b)] ++ ws) sz)) 0 0 (va_A ([(rf_RW ct 0 p1 150 b)] ++ ws) sz) := by
  refine Met.ofW (cc := cX10_put) (maxL := 3) (ret := none) (by decide) rfl ?_
  intro p e s m args below meth c s₁ B hml hv
  obtain ⟨rfl, hsz, hP, hK, hD0, hX⟩ := hv
  have hx := B.exec
  have hb := B.bytes
  have hr := B.returns
  have hts := ws_all (atoms_spec (ws := ws_ yX10_put cX10_put 3 none) B.pre)
  have hown : s.vm.findClass RX10 = some m.cls := findClass_of_methodNamed B.named
  have hlocks := B.notSynchronized
  subst hsz
  have hD := hD0.self (sz := s.heap.size)
  generalize hAe : va_A ([(rf_RW ct 0 p1 150 b)] ++ ws) s.heap.size = A at hD hX ⊢
  have hA : ∀ q : Nat, s.heap.size ≤ q → A q := fun q h => by rw [← hAe]; exact Or.inr h
  have hS : va_S A s.heap s.heap [] := va_S.rf
  have hl := lv_entry ([.ref p1, .int p2, .int p3]) (n := 3) (Nat.le_of_ble_eq_true rfl)
  rw [lg_entry_eq]
  generalize (lg_sl ([.ref p1, .int p2, .int p3]) ++ List.replicate (3 - (lg_sl ([.ref p1, .int p2, .int p3])).length) Slot.unset).toArray = ls at hl ⊢
  have hl : lv_has ls 3 [(0, .ref p1), (1, .int p2), (2, .int p3)] := hl
  refine lv_iload_n hx hb dX10_put_0 rfl (lv_at hl 1 rfl) ?_
  refine lv_if_lt (tgt := 14) hx hb dX10_put_1 (by decide) (fun hc_1 => ?_) (fun hc_1 => ?_)
  · exact W.vret hx hb hr (fun t ht hW => ⟨⟨(ws, b), rfl, ⟨hT, (Or.inl ⟨hc_1, rfl⟩)⟩, by rw [ht]; exact hP, by rw [hAe]; exact hD⟩, hS.F ht⟩) hS.2.2 dX10_put_14
  · refine lv_iload_n hx hb dX10_put_4 rfl (lv_at hl 1 rfl) ?_
    refine lv_aload_n hx hb dX10_put_5 rfl (lv_at hl 0 rfl) ?_
    refine va_alen hx hb hK hP 0 0 rfl rfl (v := 150) (show Int32.ofNat 150 = (150 : Int32) from by decide) dX10_put_6 ?_
    refine lv_icmp_ge (tgt := 14) hx hb dX10_put_7 (by decide) (fun hc_2 => ?_) (fun hc_2 => ?_)
    · exact W.vret hx hb hr (fun t ht hW => ⟨⟨(ws, b), rfl, ⟨hT, (Or.inr ⟨hc_1, (Or.inl ⟨hc_2, rfl⟩)⟩)⟩, by rw [ht]; exact hP, by rw [hAe]; exact hD⟩, hS.F ht⟩) hS.2.2 dX10_put_14
    · refine lv_aload_n hx hb dX10_put_10 rfl (lv_at hl 0 rfl) ?_
      refine lv_iload_n hx hb dX10_put_11 rfl (lv_at hl 1 rfl) ?_
      refine lv_iload_n hx hb dX10_put_12 rfl (lv_at hl 2 rfl) ?_
      refine va_iast hx hb hK hP hD hS 0 0 rfl rfl (a_vin2 (k := 150) (by decide) hc_1 hc_2) dX10_put_13 (fun H locs hP hD hS => ?_)
      have hP : va_P D vwCl ([(rf_RW ct 0 p1 150 (upd b p2.toNatClampNeg p3))] ++ ws) H := hP
      have hD : va_D A ([(rf_RW ct 0 p1 150 (upd b p2.toNatClampNeg p3))] ++ ws) := hD
      exact W.vret hx hb hr (fun t ht hW => ⟨⟨(ws, (upd b p2.toNatClampNeg p3)), rfl, ⟨hT, (Or.inr ⟨hc_1, (Or.inr ⟨hc_2, rfl⟩)⟩)⟩, by rw [ht]; exact hP, by rw [hAe]; exact hD⟩, hS.F ht⟩) hS.2.2 dX10_put_14
def a_X10_put_240 (b : Nat → Int32) (p2 : Int32) (p3 : Int32) (b1 : Nat → Int32) : Prop := ((p2 < (0 : Int32) ∧ (b1 = b)) ∨ (¬ p2 < (0 : Int32) ∧ (((240 : Int32) ≤ p2 ∧ (b1 = b)) ∨ (¬ (240 : Int32) ≤ p2 ∧ (b1 = (upd b p2.toNatClampNeg p3))))))
set_option maxRecDepth 100000 in
set_option maxHeartbeats 4000000 in
theorem r_X10_put_240 (l : Launch) (D : va_G) (ct : Nat → ClassId) (S : ty_S) (ws : va_W) (ph : va_W → Prop) (xx : Nat → Nat → Nat → Prop) (p1 : Nat) (b : Nat → Int32) (p2 : Int32) (p3 : Int32) (sz : Nat) (hT : ty_V ct S ph ws) (hph : ty_C ph xx) (hy1 : ty_y1 xx) : Met l yX10_put (ws_ yX10_put cX10_put 3 none) ({ frames := 0, cells := 0, slots := 0, locals := 0 } : Room) (va_Pc [.ref p1, .int p2, .int p3] (cmP D ct sz ([(rf_RW ct 0 p1 240 b)] ++ ws))) (va_Qv (fun (u : va_W × (Nat → Int32)) => match u with | (u9, b1) => ty_V ct S ph u9 ∧ (a_X10_put_240 b p2 p3 b1)) (cmB D ([(rf_RW ct 0 p1 240 b)] ++ ws) sz (fun (u : va_W × (Nat → Int32)) => match u with | (u9, b1) => ([(rf_RW ct 0 p1 240 b1)] ++ u9))) (va_A ([(rf_RW ct 0 p1 240 b)] ++ ws) sz)) 0 0 (va_A ([(rf_RW ct 0 p1 240 b)] ++ ws) sz) := by
  refine Met.ofW (cc := cX10_put) (maxL := 3) (ret := none) (by decide) rfl ?_
  intro p e s m args below meth c s₁ B hml hv
  obtain ⟨rfl, hsz, hP, hK, hD0, hX⟩ := hv
  have hx := B.exec
  have hb := B.bytes
  have hr := B.returns
  have hts := ws_all (atoms_spec (ws := ws_ yX10_put cX10_put 3 none) B.pre)
  have hown : s.vm.findClass RX10 = some m.cls := findClass_of_methodNamed B.named
  have hlocks := B.notSynchronized
  subst hsz
  have hD := hD0.self (sz := s.heap.size)
  generalize hAe : va_A ([(rf_RW ct 0 p1 240 b)] ++ ws) s.heap.size = A at hD hX ⊢
  have hA : ∀ q : Nat, s.heap.size ≤ q → A q := fun q h => by rw [← hAe]; exact Or.inr h
  have hS : va_S A s.heap s.heap [] := va_S.rf
  have hl := lv_entry ([.ref p1, .int p2, .int p3]) (n := 3) (Nat.le_of_ble_eq_true rfl)
  rw [lg_entry_eq]
  generalize (lg_sl ([.ref p1, .int p2, .int p3]) ++ List.replicate (3 - (lg_sl ([.ref p1, .int p2, .int p3])).length) Slot.unset).toArray = ls at hl ⊢
  have hl : lv_has ls 3 [(0, .ref p1), (1, .int p2), (2, .int p3)] := hl
  refine lv_iload_n hx hb dX10_put_0 rfl (lv_at hl 1 rfl) ?_
  refine lv_if_lt (tgt := 14) hx hb dX10_put_1 (by decide) (fun hc_1 => ?_) (fun hc_1 => ?_)
  · exact W.vret hx hb hr (fun t ht hW => ⟨⟨(ws, b), rfl, ⟨hT, (Or.inl ⟨hc_1, rfl⟩)⟩, by rw [ht]; exact hP, by rw [hAe]; exact hD⟩, hS.F ht⟩) hS.2.2 dX10_put_14
  · refine lv_iload_n hx hb dX10_put_4 rfl (lv_at hl 1 rfl) ?_
    refine lv_aload_n hx hb dX10_put_5 rfl (lv_at hl 0 rfl) ?_
    refine va_alen hx hb hK hP 0 0 rfl rfl (v := 240) (show Int32.ofNat 240 = (240 : Int32) from by decide) dX10_put_6 ?_
    refine lv_icmp_ge (tgt := 14) hx hb dX10_put_7 (by decide) (fun hc_2 => ?_) (fun hc_2 => ?_)
    · exact W.vret hx hb hr (fun t ht hW => ⟨⟨(ws, b), rfl, ⟨hT, (Or.inr ⟨hc_1, (Or.inl ⟨hc_2, rfl⟩)⟩)⟩, by rw [ht]; exact hP, by rw [hAe]; exact hD⟩, hS.F ht⟩) hS.2.2 dX10_put_14
    · refine lv_aload_n hx hb dX10_put_10 rfl (lv_at hl 0 rfl) ?_
      refine lv_iload_n hx hb dX10_put_11 rfl (lv_at hl 1 rfl) ?_
      refine lv_iload_n hx hb dX10_put_12 rfl (lv_at hl 2 rfl) ?_
      refine va_iast hx hb hK hP hD hS 0 0 rfl rfl (a_vin2 (k := 240) (by decide) hc_1 hc_2) dX10_put_13 (fun H locs hP hD hS => ?_)
      have hP : va_P D vwCl ([(rf_RW ct 0 p1 240 (upd b p2.toNatClampNeg p3))] ++ ws) H := hP
      have hD : va_D A ([(rf_RW ct 0 p1 240 (upd b p2.toNatClampNeg p3))] ++ ws) := hD
      exact W.vret hx hb hr (fun t ht hW => ⟨⟨(ws, (upd b p2.toNatClampNeg p3)), rfl, ⟨hT, (Or.inr ⟨hc_1, (Or.inr ⟨hc_2, rfl⟩)⟩)⟩, by rw [ht]; exact hP, by rw [hAe]; exact hD⟩, hS.F ht⟩) hS.2.2 dX10_put_14
def a_X5_stepsOf (fsps : Nat → Int32) (p1 : Int32) (r : Int32) : Prop := (∃ (r_1 : Int32), (a_X10_at_4 fsps p1 r_1) ∧ (r = r_1))
set_option maxRecDepth 100000 in
set_option maxHeartbeats 4000000 in
theorem r_X5_stepsOf (l : Launch) (D : va_G) (ct : Nat → ClassId) (S : ty_S) (ws : va_W) (ph : va_W → Prop) (xx : Nat → Nat → Nat → Prop) (pr : Nat) (pcn : Int32) (sps : Nat) (kds : Nat) (fst : Nat) (scs : Nat) (fsps : Nat → Int32) (p1 : Int32) (sz : Nat) (hT : ty_V ct S ph ws) (hph : ty_C ph xx) (hy1 : ty_y1 xx) : Met l yX5_stepsOf (ws_ yX5_stepsOf cX5_stepsOf 2 (some .int)) ({ frames := 1, cells := 0, slots := 0, locals := 21 } : Room) (va_Pc [.ref pr, .int p1] (cmP D ct sz ([(fn_5 pr pcn sps kds fst scs), (rf_RW ct 0 sps 4 fsps)] ++ ws))) (va_Qi (fun (r : Int32) (u9 : va_W) => ty_V ct S ph u9 ∧ (a_X5_stepsOf fsps p1 r)) (cmB D ([(fn_5 pr pcn sps kds fst scs), (rf_RW ct 0 sps 4 fsps)] ++ ws) sz (fun (u9 : va_W) => ([(fn_5 pr pcn sps kds fst scs), (rf_RW ct 0 sps 4 fsps)] ++ u9))) (va_A ([(fn_5 pr pcn sps kds fst scs), (rf_RW ct 0 sps 4 fsps)] ++ ws) sz)) 0 0 (va_A ([(fn_5 pr pcn sps kds fst scs), (rf_RW ct 0 sps 4 fsps)] ++ ws) sz) := by
  refine Met.ofW (cc := cX5_stepsOf) (maxL := 2) (ret := (some .int)) (by decide) rfl ?_
  intro p e s m args below meth c s₁ B hml hv
  obtain ⟨rfl, hsz, hP, hK, hD0, hX⟩ := hv
  have hx := B.exec
  have hb := B.bytes
  have hr := B.returns
  have hts := ws_all (atoms_spec (ws := ws_ yX5_stepsOf cX5_stepsOf 2 (some .int)) B.pre)
  have hown : s.vm.findClass RX5 = some m.cls := findClass_of_methodNamed B.named
  have hlocks := B.notSynchronized
  subst hsz
  have hD := hD0.self (sz := s.heap.size)
  generalize hAe : va_A ([(fn_5 pr pcn sps kds fst scs), (rf_RW ct 0 sps 4 fsps)] ++ ws) s.heap.size = A at hD hX ⊢
  have hA : ∀ q : Nat, s.heap.size ≤ q → A q := fun q h => by rw [← hAe]; exact Or.inr h
  have hS : va_S A s.heap s.heap [] := va_S.rf
  have hl := lv_entry ([.ref pr, .int p1]) (n := 2) (Nat.le_of_ble_eq_true rfl)
  rw [lg_entry_eq]
  generalize (lg_sl ([.ref pr, .int p1]) ++ List.replicate (2 - (lg_sl ([.ref pr, .int p1])).length) Slot.unset).toArray = ls at hl ⊢
  have hl : lv_has ls 2 [(0, .ref pr), (1, .int p1)] := hl
  refine lv_aload_n hx hb dX5_stepsOf_0 rfl (lv_at hl 0 rfl) ?_
  refine va_get (v := .ref sps) (D := D) (ci := 5) (C := RX5) (T := TX5) (N := 5) hx hb hts in_X5 hown hK hP 0 rfl rfl 1 (by decide) (hts _ kl_RX5_9) (fun _ h9 => h9) rfl dX5_stepsOf_1 ?_
  refine lv_iload_n hx hb dX5_stepsOf_4 rfl (lv_at hl 1 rfl) ?_
  obtain ⟨hP, hD⟩ := ty_ipPD (E1 := [(fn_5 pr pcn sps kds fst scs)]) (E2 := [(rf_RW ct 0 sps 4 fsps)]) hP hD rfl ty_mv2
  refine ty_Ki hP hD hS hA (va_runSN (As := [.ref sps, .int p1]) (rest := []) ⟨hx, hb, hml, hown, hts⟩ (r_X10_at_4 l D ct (fun _ => none) [] (fun _ => True) (fun _ _ _ => True) sps fsps p1 _ ty_V0 ty_C0 ty_y10) (cm_SN 2 hts kc_X10_at ki_RX10 kl_RX5_32 ks_X10_at kd_X10_at ⟨Nat.le_of_ble_eq_true rfl, Nat.le_of_ble_eq_true rfl⟩) (ty_preS hP hK hD hS hA hX) rfl rfl hl.1 rfl (lv_room (Nat.le_of_ble_eq_true rfl)) dX5_stepsOf_5 ⟨Nat.le_of_ble_eq_true rfl, Nat.le_of_ble_eq_true rfl⟩) (fun r_1 u H locs hw_2 hP hD hS => ?_)
  obtain ⟨ws_3, rfl⟩ : ∃ z, z = u := ⟨_, rfl⟩
  obtain ⟨hT9_4, hp_5⟩ := hw_2
  have hp_5 : (a_X10_at_4 fsps p1 r_1) := hp_5
  obtain ⟨hP, hD⟩ := ty_bkPD (E := [(fn_5 pr pcn sps kds fst scs), (rf_RW ct 0 sps 4 fsps)]) hP hD rfl
  exact W.iret (v := r_1) hx hb hr (fun t ht hW => ⟨⟨r_1, ws, rfl, ⟨hT, ⟨r_1, hp_5, rfl⟩⟩, by rw [ht]; exact hP, by rw [hAe]; exact hD⟩, hS.F ht⟩) hS.2.2 dX5_stepsOf_8
def a_X5_kindOf (fkds : Nat → Int32) (p1 : Int32) (p2 : Int32) (r : Int32) : Prop := (∃ (r_1 : Int32), (a_X10_at_48 fkds ((p1 * 12) + p2) r_1) ∧ (r = r_1))
set_option maxRecDepth 100000 in
set_option maxHeartbeats 4000000 in
theorem r_X5_kindOf (l : Launch) (D : va_G) (ct : Nat → ClassId) (S : ty_S) (ws : va_W) (ph : va_W → Prop) (xx : Nat → Nat → Nat → Prop) (pr : Nat) (pcn : Int32) (sps : Nat) (kds : Nat) (fst : Nat) (scs : Nat) (fkds : Nat → Int32) (p1 : Int32) (p2 : Int32) (sz : Nat) (hT : ty_V ct S ph ws) (hph : ty_C ph xx) (hy1 : ty_y1 xx) : Met l yX5_kindOf (ws_ yX5_kindOf cX5_kindOf 3 (some .int)) ({ frames := 1, cells := 0, slots := 0, locals := 21 } : Room) (va_Pc [.ref pr, .int p1, .int p2] (cmP D ct sz ([(fn_5 pr pcn sps kds fst scs), (rf_RW ct 0 kds 48 fkds)] ++ ws))) (va_Qi (fun (r : Int32) (u9 : va_W) => ty_V ct S ph u9 ∧ (a_X5_kindOf fkds p1 p2 r)) (cmB D ([(fn_5 pr pcn sps kds fst scs), (rf_RW ct 0 kds 48 fkds)] ++ ws) sz (fun (u9 : va_W) => ([(fn_5 pr pcn sps kds fst scs), (rf_RW ct 0 kds 48 fkds)] ++ u9))) (va_A ([(fn_5 pr pcn sps kds fst scs), (rf_RW ct 0 kds 48 fkds)] ++ ws) sz)) 0 0 (va_A ([(fn_5 pr pcn sps kds fst scs), (rf_RW ct 0 kds 48 fkds)] ++ ws) sz) := by
  refine Met.ofW (cc := cX5_kindOf) (maxL := 3) (ret := (some .int)) (by decide) rfl ?_
  intro p e s m args below meth c s₁ B hml hv
  obtain ⟨rfl, hsz, hP, hK, hD0, hX⟩ := hv
  have hx := B.exec
  have hb := B.bytes
  have hr := B.returns
  have hts := ws_all (atoms_spec (ws := ws_ yX5_kindOf cX5_kindOf 3 (some .int)) B.pre)
  have hown : s.vm.findClass RX5 = some m.cls := findClass_of_methodNamed B.named
  have hlocks := B.notSynchronized
  subst hsz
  have hD := hD0.self (sz := s.heap.size)
  generalize hAe : va_A ([(fn_5 pr pcn sps kds fst scs), (rf_RW ct 0 kds 48 fkds)] ++ ws) s.heap.size = A at hD hX ⊢
  have hA : ∀ q : Nat, s.heap.size ≤ q → A q := fun q h => by rw [← hAe]; exact Or.inr h
  have hS : va_S A s.heap s.heap [] := va_S.rf
  have hl := lv_entry ([.ref pr, .int p1, .int p2]) (n := 3) (Nat.le_of_ble_eq_true rfl)
  rw [lg_entry_eq]
  generalize (lg_sl ([.ref pr, .int p1, .int p2]) ++ List.replicate (3 - (lg_sl ([.ref pr, .int p1, .int p2])).length) Slot.unset).toArray = ls at hl ⊢
  have hl : lv_has ls 3 [(0, .ref pr), (1, .int p1), (2, .int p2)] := hl
  refine lv_aload_n hx hb dX5_kindOf_0 rfl (lv_at hl 0 rfl) ?_
  refine va_get (v := .ref kds) (D := D) (ci := 5) (C := RX5) (T := TX5) (N := 5) hx hb hts in_X5 hown hK hP 0 rfl rfl 2 (by decide) (hts _ kl_RX5_15) (fun _ h9 => h9) rfl dX5_kindOf_1 ?_
  refine lv_iload_n hx hb dX5_kindOf_4 rfl (lv_at hl 1 rfl) ?_
  refine lv_bipush (v := 12) hx hb dX5_kindOf_5 (by decide) ?_
  refine lv_imul hx hb dX5_kindOf_7 ?_
  refine lv_iload_n hx hb dX5_kindOf_8 rfl (lv_at hl 2 rfl) ?_
  refine lv_iadd hx hb dX5_kindOf_9 ?_
  obtain ⟨hP, hD⟩ := ty_ipPD (E1 := [(fn_5 pr pcn sps kds fst scs)]) (E2 := [(rf_RW ct 0 kds 48 fkds)]) hP hD rfl ty_mv2
  refine ty_Ki hP hD hS hA (va_runSN (As := [.ref kds, .int ((p1 * 12) + p2)]) (rest := []) ⟨hx, hb, hml, hown, hts⟩ (r_X10_at_48 l D ct (fun _ => none) [] (fun _ => True) (fun _ _ _ => True) kds fkds ((p1 * 12) + p2) _ ty_V0 ty_C0 ty_y10) (cm_SN 2 hts kc_X10_at ki_RX10 kl_RX5_32 ks_X10_at kd_X10_at ⟨Nat.le_of_ble_eq_true rfl, Nat.le_of_ble_eq_true rfl⟩) (ty_preS hP hK hD hS hA hX) rfl rfl hl.1 rfl (lv_room (Nat.le_of_ble_eq_true rfl)) dX5_kindOf_10 ⟨Nat.le_of_ble_eq_true rfl, Nat.le_of_ble_eq_true rfl⟩) (fun r_1 u H locs hw_2 hP hD hS => ?_)
  obtain ⟨ws_3, rfl⟩ : ∃ z, z = u := ⟨_, rfl⟩
  obtain ⟨hT9_4, hp_5⟩ := hw_2
  have hp_5 : (a_X10_at_48 fkds ((p1 * 12) + p2) r_1) := hp_5
  obtain ⟨hP, hD⟩ := ty_bkPD (E := [(fn_5 pr pcn sps kds fst scs), (rf_RW ct 0 kds 48 fkds)]) hP hD rfl
  exact W.iret (v := r_1) hx hb hr (fun t ht hW => ⟨⟨r_1, ws, rfl, ⟨hT, ⟨r_1, hp_5, rfl⟩⟩, by rw [ht]; exact hP, by rw [hAe]; exact hD⟩, hS.F ht⟩) hS.2.2 dX5_kindOf_13
def a_X5_firstOf (ffst : Nat → Int32) (p1 : Int32) (p2 : Int32) (r : Int32) : Prop := (∃ (r_1 : Int32), (a_X10_at_48 ffst ((p1 * 12) + p2) r_1) ∧ (r = r_1))
set_option maxRecDepth 100000 in
set_option maxHeartbeats 4000000 in
theorem r_X5_firstOf (l : Launch) (D : va_G) (ct : Nat → ClassId) (S : ty_S) (ws : va_W) (ph : va_W → Prop) (xx : Nat → Nat → Nat → Prop) (pr : Nat) (pcn : Int32) (sps : Nat) (kds : Nat) (fst : Nat) (scs : Nat) (ffst : Nat → Int32) (p1 : Int32) (p2 : Int32) (sz : Nat) (hT : ty_V ct S ph ws) (hph : ty_C ph xx) (hy1 : ty_y1 xx) : Met l yX5_firstOf (ws_ yX5_firstOf cX5_firstOf 3 (some .int)) ({ frames := 1, cells := 0, slots := 0, locals := 21 } : Room) (va_Pc [.ref pr, .int p1, .int p2] (cmP D ct sz ([(fn_5 pr pcn sps kds fst scs), (rf_RW ct 0 fst 48 ffst)] ++ ws))) (va_Qi (fun (r : Int32) (u9 : va_W) => ty_V ct S ph u9 ∧ (a_X5_firstOf ffst p1 p2 r)) (cmB D ([(fn_5 pr pcn sps kds fst scs), (rf_RW ct 0 fst 48 ffst)] ++ ws) sz (fun (u9 : va_W) => ([(fn_5 pr pcn sps kds fst scs), (rf_RW ct 0 fst 48 ffst)] ++ u9))) (va_A ([(fn_5 pr pcn sps kds fst scs), (rf_RW ct 0 fst 48 ffst)] ++ ws) sz)) 0 0 (va_A ([(fn_5 pr pcn sps kds fst scs), (rf_RW ct 0 fst 48 ffst)] ++ ws) sz) := by
  refine Met.ofW (cc := cX5_firstOf) (maxL := 3) (ret := (some .int)) (by decide) rfl ?_
  intro p e s m args below meth c s₁ B hml hv
  obtain ⟨rfl, hsz, hP, hK, hD0, hX⟩ := hv
  have hx := B.exec
  have hb := B.bytes
  have hr := B.returns
  have hts := ws_all (atoms_spec (ws := ws_ yX5_firstOf cX5_firstOf 3 (some .int)) B.pre)
  have hown : s.vm.findClass RX5 = some m.cls := findClass_of_methodNamed B.named
  have hlocks := B.notSynchronized
  subst hsz
  have hD := hD0.self (sz := s.heap.size)
  generalize hAe : va_A ([(fn_5 pr pcn sps kds fst scs), (rf_RW ct 0 fst 48 ffst)] ++ ws) s.heap.size = A at hD hX ⊢
  have hA : ∀ q : Nat, s.heap.size ≤ q → A q := fun q h => by rw [← hAe]; exact Or.inr h
  have hS : va_S A s.heap s.heap [] := va_S.rf
  have hl := lv_entry ([.ref pr, .int p1, .int p2]) (n := 3) (Nat.le_of_ble_eq_true rfl)
  rw [lg_entry_eq]
  generalize (lg_sl ([.ref pr, .int p1, .int p2]) ++ List.replicate (3 - (lg_sl ([.ref pr, .int p1, .int p2])).length) Slot.unset).toArray = ls at hl ⊢
  have hl : lv_has ls 3 [(0, .ref pr), (1, .int p1), (2, .int p2)] := hl
  refine lv_aload_n hx hb dX5_firstOf_0 rfl (lv_at hl 0 rfl) ?_
  refine va_get (v := .ref fst) (D := D) (ci := 5) (C := RX5) (T := TX5) (N := 5) hx hb hts in_X5 hown hK hP 0 rfl rfl 3 (by decide) (hts _ kl_RX5_18) (fun _ h9 => h9) rfl dX5_firstOf_1 ?_
  refine lv_iload_n hx hb dX5_firstOf_4 rfl (lv_at hl 1 rfl) ?_
  refine lv_bipush (v := 12) hx hb dX5_firstOf_5 (by decide) ?_
  refine lv_imul hx hb dX5_firstOf_7 ?_
  refine lv_iload_n hx hb dX5_firstOf_8 rfl (lv_at hl 2 rfl) ?_
  refine lv_iadd hx hb dX5_firstOf_9 ?_
  obtain ⟨hP, hD⟩ := ty_ipPD (E1 := [(fn_5 pr pcn sps kds fst scs)]) (E2 := [(rf_RW ct 0 fst 48 ffst)]) hP hD rfl ty_mv2
  refine ty_Ki hP hD hS hA (va_runSN (As := [.ref fst, .int ((p1 * 12) + p2)]) (rest := []) ⟨hx, hb, hml, hown, hts⟩ (r_X10_at_48 l D ct (fun _ => none) [] (fun _ => True) (fun _ _ _ => True) fst ffst ((p1 * 12) + p2) _ ty_V0 ty_C0 ty_y10) (cm_SN 2 hts kc_X10_at ki_RX10 kl_RX5_32 ks_X10_at kd_X10_at ⟨Nat.le_of_ble_eq_true rfl, Nat.le_of_ble_eq_true rfl⟩) (ty_preS hP hK hD hS hA hX) rfl rfl hl.1 rfl (lv_room (Nat.le_of_ble_eq_true rfl)) dX5_firstOf_10 ⟨Nat.le_of_ble_eq_true rfl, Nat.le_of_ble_eq_true rfl⟩) (fun r_1 u H locs hw_2 hP hD hS => ?_)
  obtain ⟨ws_3, rfl⟩ : ∃ z, z = u := ⟨_, rfl⟩
  obtain ⟨hT9_4, hp_5⟩ := hw_2
  have hp_5 : (a_X10_at_48 ffst ((p1 * 12) + p2) r_1) := hp_5
  obtain ⟨hP, hD⟩ := ty_bkPD (E := [(fn_5 pr pcn sps kds fst scs), (rf_RW ct 0 fst 48 ffst)]) hP hD rfl
  exact W.iret (v := r_1) hx hb hr (fun t ht hW => ⟨⟨r_1, ws, rfl, ⟨hT, ⟨r_1, hp_5, rfl⟩⟩, by rw [ht]; exact hP, by rw [hAe]; exact hD⟩, hS.F ht⟩) hS.2.2 dX5_firstOf_13
