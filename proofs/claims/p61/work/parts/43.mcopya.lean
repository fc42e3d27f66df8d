theorem dX11_copies_0 : decode cX11_copies 0 = .ok (.iconst 0, 1) := by decide +kernel
theorem dX11_copies_1 : decode cX11_copies 1 = .ok (.istore_n 2, 1) := by decide +kernel
theorem dX11_copies_2 : decode cX11_copies 2 = .ok (.iload_n 2, 1) := by decide +kernel
theorem dX11_copies_3 : decode cX11_copies 3 = .ok (.sipush 958, 3) := by decide +kernel
theorem dX11_copies_6 : decode cX11_copies 6 = .ok (.if_icmp .ge 15, 3) := by decide +kernel
theorem dX11_copies_9 : decode cX11_copies 9 = .ok (.aload_n 1, 1) := by decide +kernel
theorem dX11_copies_10 : decode cX11_copies 10 = .ok (.iload_n 2, 1) := by decide +kernel
theorem dX11_copies_11 : decode cX11_copies 11 = .ok (.aload_n 0, 1) := by decide +kernel
theorem dX11_copies_12 : decode cX11_copies 12 = .ok (.iload_n 2, 1) := by decide +kernel
theorem dX11_copies_13 : decode cX11_copies 13 = .ok (.iaload, 1) := by decide +kernel
theorem dX11_copies_14 : decode cX11_copies 14 = .ok (.iastore, 1) := by decide +kernel
theorem dX11_copies_15 : decode cX11_copies 15 = .ok (.iinc 2 1, 3) := by decide +kernel
theorem dX11_copies_18 : decode cX11_copies 18 = .ok (.goto (-16), 3) := by decide +kernel
theorem dX11_copies_21 : decode cX11_copies 21 = .ok (.return_, 1) := by decide +kernel
set_option maxRecDepth 100000 in
set_option maxHeartbeats 4000000 in
theorem m_copies (l : Launch) (D : va_G) (ct : Nat → ClassId) (S : ty_S) (ws : va_W) (ph : va_W → Prop) (xx : Nat → Nat → Nat → Prop) (p1 : Nat) (p2 : Nat) (f : Nat → Int32) (g : Nat → Int32) (sz : Nat) (hT : ty_V ct S ph ws) (hph : ty_C ph xx) (hy1 : ty_y1 xx) : Met l yX11_copies (ws_ yX11_copies cX11_copies 3 none) ({ frames := 0, cells := 0, slots := 0, locals := 0 } : Room) (va_Pc [.ref p1, .ref p2] (cmP D ct sz ([(rf_RW ct 0 p1 958 f), (rf_RW ct 0 p2 958 g)] ++ ws))) (va_Qv (fun (u : va_W × (Nat → Int32)) => match u with | (u9, h) => ty_V ct S ph u9 ∧ ∀ j : Nat, j < 958 → h j = f j) (cmB D ([(rf_RW ct 0 p1 958 f), (rf_RW ct 0 p2 958 g)] ++ ws) sz (fun (u : va_W × (Nat → Int32)) => match u with | (u9, h) => ([(rf_RW ct 0 p1 958 f), (rf_RW ct 0 p2 958 h)] ++ u9))) (va_A ([(rf_RW ct 0 p1 958 f), (rf_RW ct 0 p2 958 g)] ++ ws) sz)) 0 0 (va_A ([(rf_RW ct 0 p1 958 f), (rf_RW ct 0 p2 958 g)] ++ ws) sz) := by
  refine Met.ofW (cc := cX11_copies) (maxL := 3) (ret := none) (by decide) rfl ?_
  intro p e s m args below meth c s₁ B hml hv
  obtain ⟨rfl, hsz, hP, hK, hD0, hX⟩ := hv
  have hx := B.exec
  have hb := B.bytes
  have hr := B.returns
  have hts := ws_all (atoms_spec (ws := ws_ yX11_copies cX11_copies 3 none) B.pre)
  have hown : s.vm.findClass RX11 = some m.cls := findClass_of_methodNamed B.named
  have hlocks := B.notSynchronized
  subst hsz
  have hD := hD0.self (sz := s.heap.size)
  generalize hAe : va_A ([(rf_RW ct 0 p1 958 f), (rf_RW ct 0 p2 958 g)] ++ ws) s.heap.size = A at hD hX ⊢
  have hA : ∀ q : Nat, s.heap.size ≤ q → A q := fun q h => by rw [← hAe]; exact Or.inr h
  have hS : va_S A s.heap s.heap [] := va_S.rf
  have hl := lv_entry ([.ref p1, .ref p2]) (n := 3) (Nat.le_of_ble_eq_true rfl)
  rw [lg_entry_eq]
  generalize (lg_sl ([.ref p1, .ref p2]) ++ List.replicate (3 - (lg_sl ([.ref p1, .ref p2])).length) Slot.unset).toArray = ls at hl ⊢
  have hl : lv_has ls 3 [(0, .ref p1), (1, .ref p2)] := hl
  refine lv_iconst (v := 0) hx hb dX11_copies_0 (by decide) ?_
  refine lv_istore_n (lv' := [(2, .int 0), (0, .ref p1), (1, .ref p2)]) hx hb dX11_copies_1 rfl hl (by decide) rfl (fun ls hl => ?_)
  refine ty_loop (I := fun μ H locs ls => ∃ (ws : va_W) (y_1 : Int32) (g_2 : Nat → Int32), μ = (2147483648 - y_1.toInt).toNat ∧ ty_V ct S ph ws ∧ va_P D vwCl ([(rf_RW ct 0 p1 958 f), (rf_RW ct 0 p2 958 g_2)] ++ ws) H ∧ va_D A ([(rf_RW ct 0 p1 958 f), (rf_RW ct 0 p2 958 g_2)] ++ ws) ∧ va_S A s.heap H locs ∧ lv_has ls 3 [(0, .ref p1), (1, .ref p2), (2, .int y_1)] ∧ 0 ≤ y_1.toInt ∧ ∀ j : Nat, (j : Int) < y_1.toInt → g_2 j = f j) ⟨_, ws, (0 : Int32), g, rfl, hT, hP, hD, hS, (lv_sub hl [1, 2, 0] rfl), ⟨by decide, fun j hj => absurd hj (by have z : (0 : Int32).toInt = 0 := (by decide); omega)⟩⟩ (fun μ H locs ls hI ih_2 => ?_)
  obtain ⟨ws, y_1, g_2, rfl, hT, hP, hD, hS, hl, hex_2⟩ := hI
  refine lv_iload_n hx hb dX11_copies_2 rfl (lv_at hl 2 rfl) ?_
  refine lv_sipush (v := 958) hx hb dX11_copies_3 (by decide) ?_
  refine lv_icmp_ge (tgt := 21) hx hb dX11_copies_6 (by decide) (fun hc_3 => ?_) (fun hc_3 => ?_)
  · exact W.vret hx hb hr (fun t ht hW => ⟨⟨(ws, g_2), rfl, ⟨hT, (fun j hj => hex_2.2 j (by have := hex_2.1; have := rf_dn hc_3; omega))⟩, by rw [ht]; exact hP, by rw [hAe]; exact hD⟩, hS.F ht⟩) hS.2.2 dX11_copies_21
  · refine lv_aload_n hx hb dX11_copies_9 rfl (lv_at hl 1 rfl) ?_
    refine lv_iload_n hx hb dX11_copies_10 rfl (lv_at hl 2 rfl) ?_
    refine lv_aload_n hx hb dX11_copies_11 rfl (lv_at hl 0 rfl) ?_
    refine lv_iload_n hx hb dX11_copies_12 rfl (lv_at hl 2 rfl) ?_
    refine va_iald hx hb hK hP 0 0 rfl rfl (rf_in1 (by have := hex_2.1; have := rf_ng (b := 958) (by decide) hc_3; omega)) dX11_copies_13 ?_
    refine va_iast hx hb hK hP hD hS 1 0 rfl rfl (rf_in1 (by have := hex_2.1; have := rf_ng (b := 958) (by decide) hc_3; omega)) dX11_copies_14 (fun H locs hP hD hS => ?_)
    have hP : va_P D vwCl ([(rf_RW ct 0 p1 958 f), (rf_RW ct 0 p2 958 (upd g_2 y_1.toNatClampNeg (f y_1.toNatClampNeg)))] ++ ws) H := hP
    have hD : va_D A ([(rf_RW ct 0 p1 958 f), (rf_RW ct 0 p2 958 (upd g_2 y_1.toNatClampNeg (f y_1.toNatClampNeg)))] ++ ws) := hD
    refine lv_iinc (v := (y_1 + Int32.ofInt 1)) (lv' := [(2, .int (y_1 + Int32.ofInt 1)), (0, .ref p1), (1, .ref p2)]) hx hb dX11_copies_15 hl (k := 2) rfl rfl (by decide) rfl (fun ls hl => ?_)
    refine lv_goto (tgt := 2) hx hb dX11_copies_18 (by decide) ?_
    exact ih_2 _ _ _ _ (ty_inc (cm_lt hc_3)) ⟨ws, (y_1 + Int32.ofInt 1), (upd g_2 y_1.toNatClampNeg (f y_1.toNatClampNeg)), rfl, hT, hP, hD, hS, (lv_sub hl [1, 2, 0] rfl), ⟨ty_nn hex_2.1 (cm_lt hc_3), rf_cpy ⟨hex_2.1, rf_ng (by decide) hc_3⟩ hex_2.2⟩⟩
theorem dX11_copiesSums_0 : decode cX11_copiesSums 0 = .ok (.iconst 0, 1) := by decide +kernel
theorem dX11_copiesSums_1 : decode cX11_copiesSums 1 = .ok (.istore_n 2, 1) := by decide +kernel
theorem dX11_copiesSums_2 : decode cX11_copiesSums 2 = .ok (.iload_n 2, 1) := by decide +kernel
theorem dX11_copiesSums_3 : decode cX11_copiesSums 3 = .ok (.bipush 42, 2) := by decide +kernel
theorem dX11_copiesSums_5 : decode cX11_copiesSums 5 = .ok (.if_icmp .ge 15, 3) := by decide +kernel
theorem dX11_copiesSums_8 : decode cX11_copiesSums 8 = .ok (.aload_n 1, 1) := by decide +kernel
theorem dX11_copiesSums_9 : decode cX11_copiesSums 9 = .ok (.iload_n 2, 1) := by decide +kernel
theorem dX11_copiesSums_10 : decode cX11_copiesSums 10 = .ok (.aload_n 0, 1) := by decide +kernel
theorem dX11_copiesSums_11 : decode cX11_copiesSums 11 = .ok (.iload_n 2, 1) := by decide +kernel
theorem dX11_copiesSums_12 : decode cX11_copiesSums 12 = .ok (.laload, 1) := by decide +kernel
theorem dX11_copiesSums_13 : decode cX11_copiesSums 13 = .ok (.lastore, 1) := by decide +kernel
theorem dX11_copiesSums_14 : decode cX11_copiesSums 14 = .ok (.iinc 2 1, 3) := by decide +kernel
theorem dX11_copiesSums_17 : decode cX11_copiesSums 17 = .ok (.goto (-15), 3) := by decide +kernel
theorem dX11_copiesSums_20 : decode cX11_copiesSums 20 = .ok (.return_, 1) := by decide +kernel
set_option maxRecDepth 100000 in
set_option maxHeartbeats 4000000 in
theorem m_copiesSums (l : Launch) (D : va_G) (ct : Nat → ClassId) (S : ty_S) (ws : va_W) (ph : va_W → Prop) (xx : Nat → Nat → Nat → Prop) (p1 : Nat) (p2 : Nat) (sz : Nat) (hT : ty_V ct S ph ws) (h_p1 : S p1 = some (.inr (1, 42))) (h_p2 : S p2 = some (.inr (1, 42))) (hph : ty_C ph xx) (hy1 : ty_y1 xx) (hy11 : ty_y0 xx 11) : Met l yX11_copiesSums (ws_ yX11_copiesSums cX11_copiesSums 3 none) ({ frames := 0, cells := 0, slots := 0, locals := 0 } : Room) (va_Pc [.ref p1, .ref p2] (cmP D ct sz ([] ++ ws))) (va_Qv (fun (u9 : va_W) => ty_V ct S ph u9) (cmB D ([] ++ ws) sz (fun (u9 : va_W) => ([] ++ u9))) (va_A ([] ++ ws) sz)) 0 0 (va_A ([] ++ ws) sz) := by
  refine Met.ofW (cc := cX11_copiesSums) (maxL := 3) (ret := none) (by decide) rfl ?_
  intro p e s m args below meth c s₁ B hml hv
  obtain ⟨rfl, hsz, hP, hK, hD0, hX⟩ := hv
  have hx := B.exec
  have hb := B.bytes
  have hr := B.returns
  have hts := ws_all (atoms_spec (ws := ws_ yX11_copiesSums cX11_copiesSums 3 none) B.pre)
  have hown : s.vm.findClass RX11 = some m.cls := findClass_of_methodNamed B.named
  have hlocks := B.notSynchronized
  subst hsz
  have hD := hD0.self (sz := s.heap.size)
  generalize hAe : va_A ([] ++ ws) s.heap.size = A at hD hX ⊢
  have hA : ∀ q : Nat, s.heap.size ≤ q → A q := fun q h => by rw [← hAe]; exact Or.inr h
  have hS : va_S A s.heap s.heap [] := va_S.rf
  have hl := lv_entry ([.ref p1, .ref p2]) (n := 3) (Nat.le_of_ble_eq_true rfl)
  rw [lg_entry_eq]
  generalize (lg_sl ([.ref p1, .ref p2]) ++ List.replicate (3 - (lg_sl ([.ref p1, .ref p2])).length) Slot.unset).toArray = ls at hl ⊢
  have hl : lv_has ls 3 [(0, .ref p1), (1, .ref p2)] := hl
  refine lv_iconst (v := 0) hx hb dX11_copiesSums_0 (by decide) ?_
  refine lv_istore_n (lv' := [(2, .int 0), (0, .ref p1), (1, .ref p2)]) hx hb dX11_copiesSums_1 rfl hl (by decide) rfl (fun ls hl => ?_)
  refine ty_loop (I := fun μ H locs ls => ∃ (ws : va_W) (y_1 : Int32), μ = (2147483648 - y_1.toInt).toNat ∧ ty_V ct S ph ws ∧ va_P D vwCl ([] ++ ws) H ∧ va_D A ([] ++ ws) ∧ va_S A s.heap H locs ∧ lv_has ls 3 [(0, .ref p1), (1, .ref p2), (2, .int y_1)] ∧ 0 ≤ y_1.toInt) ⟨_, ws, (0 : Int32), rfl, hT, hP, hD, hS, (lv_sub hl [1, 2, 0] rfl), (by decide)⟩ (fun μ H locs ls hI ih_2 => ?_)
  obtain ⟨ws, y_1, rfl, hT, hP, hD, hS, hl, hex_2⟩ := hI
  refine lv_iload_n hx hb dX11_copiesSums_2 rfl (lv_at hl 2 rfl) ?_
  refine lv_bipush (v := 42) hx hb dX11_copiesSums_3 (by decide) ?_
  refine lv_icmp_ge (tgt := 20) hx hb dX11_copiesSums_5 (by decide) (fun hc_2 => ?_) (fun hc_2 => ?_)
  · exact W.vret hx hb hr (fun t ht hW => ⟨⟨ws, rfl, hT, by rw [ht]; exact hP, by rw [hAe]; exact hD⟩, hS.F ht⟩) hS.2.2 dX11_copiesSums_20
  · refine lv_aload_n hx hb dX11_copiesSums_8 rfl (lv_at hl 1 rfl) ?_
    refine lv_iload_n hx hb dX11_copiesSums_9 rfl (lv_at hl 2 rfl) ?_
    refine lv_aload_n hx hb dX11_copiesSums_10 rfl (lv_at hl 0 rfl) ?_
    refine lv_iload_n hx hb dX11_copiesSums_11 rfl (lv_at hl 2 rfl) ?_
    refine ty_lald (E := []) (ws := ws) hx hb hK hP hT h_p1 (cm_vin2 (by decide) (ty_nneg hex_2) (cm_lt hc_2)) dX11_copiesSums_12 (fun x_3 => ?_)
    refine ty_last (E := []) (ws := ws) hx hb hK hP hD hS hT h_p2 (cm_vin2 (by decide) (ty_nneg hex_2) (cm_lt hc_2)) dX11_copiesSums_13 hph (hy11 p2) (fun ws_4 H locs hT hP hD hS => ?_)
    refine lv_iinc (v := (y_1 + Int32.ofInt 1)) (lv' := [(2, .int (y_1 + Int32.ofInt 1)), (0, .ref p1), (1, .ref p2)]) hx hb dX11_copiesSums_14 hl (k := 2) rfl rfl (by decide) rfl (fun ls hl => ?_)
    refine lv_goto (tgt := 2) hx hb dX11_copiesSums_17 (by decide) ?_
    exact ih_2 _ _ _ _ (ty_inc (cm_lt hc_2)) ⟨ws_4, (y_1 + Int32.ofInt 1), rfl, hT, hP, hD, hS, (lv_sub hl [1, 2, 0] rfl), (ty_nn hex_2 (cm_lt hc_2))⟩
theorem dX11_goesAside_0 : decode cX11_goesAside 0 = .ok (.aload_n 0, 1) := by decide +kernel
theorem dX11_goesAside_1 : decode cX11_goesAside 1 = .ok (.getfield 9, 3) := by decide +kernel
theorem dX11_goesAside_4 : decode cX11_goesAside 4 = .ok (.aload_n 0, 1) := by decide +kernel
theorem dX11_goesAside_5 : decode cX11_goesAside 5 = .ok (.getfield 13, 3) := by decide +kernel
theorem dX11_goesAside_8 : decode cX11_goesAside 8 = .ok (.invokestatic 205, 3) := by decide +kernel
theorem dX11_goesAside_11 : decode cX11_goesAside 11 = .ok (.aload_n 0, 1) := by decide +kernel
theorem dX11_goesAside_12 : decode cX11_goesAside 12 = .ok (.getfield 25, 3) := by decide +kernel
theorem dX11_goesAside_15 : decode cX11_goesAside 15 = .ok (.aload_n 0, 1) := by decide +kernel
theorem dX11_goesAside_16 : decode cX11_goesAside 16 = .ok (.getfield 29, 3) := by decide +kernel
theorem dX11_goesAside_19 : decode cX11_goesAside 19 = .ok (.invokestatic 375, 3) := by decide +kernel
theorem dX11_goesAside_22 : decode cX11_goesAside 22 = .ok (.aload_n 0, 1) := by decide +kernel
theorem dX11_goesAside_23 : decode cX11_goesAside 23 = .ok (.iconst 0, 1) := by decide +kernel
theorem dX11_goesAside_24 : decode cX11_goesAside 24 = .ok (.putfield 300, 3) := by decide +kernel
theorem dX11_goesAside_27 : decode cX11_goesAside 27 = .ok (.return_, 1) := by decide +kernel
set_option maxRecDepth 100000 in
set_option maxHeartbeats 4000000 in
theorem m_X11_goesAside (l : Launch) (D : va_G) (ct : Nat → ClassId) (S : ty_S) (ws : va_W) (ph : va_W → Prop) (xx : Nat → Nat → Nat → Prop) (mo : Nat) (mw : Nat) (ma : Nat) (mf : Nat) (m0 : Nat) (m1 : Nat) (mu : Nat) (mv : Nat) (u0 : Nat) (u1 : Nat) (iz : Nat) (mb : Nat) (th : Int32) (mn : Int32) (mpt : Int32) (mbg : Int32) (mwr : Int32) (mwk : Int32) (mlf : Int32) (men : Int32) (f : Nat → Int32) (G : Nat → Int32) (fa : Nat → Int32) (sz : Nat) (hT : ty_V ct S ph ws) (h_mu : S mu = some (.inr (1, 42))) (h_mv : S mv = some (.inr (1, 42))) (h_u0 : S u0 = some (.inr (1, 42))) (h_u1 : S u1 = some (.inr (1, 42))) (hph : ty_C ph xx) (hy1 : ty_y1 xx) (hy11 : ty_y0 xx 11) (hR : rf_R G (-1) f) : Met l yX11_goesAside (ws_ yX11_goesAside cX11_goesAside 1 none) ({ frames := 1, cells := 0, slots := 0, locals := 22 } : Room) (va_Pc [.ref mo] (cmP D ct sz ([(rf_MO mo mw ma mf m0 m1 mu mv u0 u1 iz th mb mn mpt mbg mwr mwk mlf men), (rf_RW ct 0 mw 958 f), (rf_RW ct 0 ma 958 fa)] ++ ws))) (va_Qv (fun (u : va_W × (Nat → Int32)) => match u with | (u9, fa1) => ty_V ct S ph u9 ∧ rf_R G (-1) fa1 ∧ fa1 8 = f 8) (cmB D ([(rf_MO mo mw ma mf m0 m1 mu mv u0 u1 iz th mb mn mpt mbg mwr mwk mlf men), (rf_RW ct 0 mw 958 f), (rf_RW ct 0 ma 958 fa)] ++ ws) sz (fun (u : va_W × (Nat → Int32)) => match u with | (u9, fa1) => ([(rf_MO mo mw ma mf m0 m1 mu mv u0 u1 iz th mb mn mpt mbg mwr mwk mlf (0)), (rf_RW ct 0 mw 958 f), (rf_RW ct 0 ma 958 fa1)] ++ u9))) (va_A ([(rf_MO mo mw ma mf m0 m1 mu mv u0 u1 iz th mb mn mpt mbg mwr mwk mlf men), (rf_RW ct 0 mw 958 f), (rf_RW ct 0 ma 958 fa)] ++ ws) sz)) 0 0 (va_A ([(rf_MO mo mw ma mf m0 m1 mu mv u0 u1 iz th mb mn mpt mbg mwr mwk mlf men), (rf_RW ct 0 mw 958 f), (rf_RW ct 0 ma 958 fa)] ++ ws) sz) := by
  refine Met.ofW (cc := cX11_goesAside) (maxL := 1) (ret := none) (by decide) rfl ?_
  intro p e s m args below meth c s₁ B hml hv
  obtain ⟨rfl, hsz, hP, hK, hD0, hX⟩ := hv
  have hx := B.exec
  have hb := B.bytes
  have hr := B.returns
  have hts := ws_all (atoms_spec (ws := ws_ yX11_goesAside cX11_goesAside 1 none) B.pre)
  have hown : s.vm.findClass RX11 = some m.cls := findClass_of_methodNamed B.named
  have hlocks := B.notSynchronized
  subst hsz
  have hD := hD0.self (sz := s.heap.size)
  generalize hAe : va_A ([(rf_MO mo mw ma mf m0 m1 mu mv u0 u1 iz th mb mn mpt mbg mwr mwk mlf men), (rf_RW ct 0 mw 958 f), (rf_RW ct 0 ma 958 fa)] ++ ws) s.heap.size = A at hD hX ⊢
  have hA : ∀ q : Nat, s.heap.size ≤ q → A q := fun q h => by rw [← hAe]; exact Or.inr h
  have hS : va_S A s.heap s.heap [] := va_S.rf
  have hl := lv_entry ([.ref mo]) (n := 1) (Nat.le_of_ble_eq_true rfl)
  rw [lg_entry_eq]
  generalize (lg_sl ([.ref mo]) ++ List.replicate (1 - (lg_sl ([.ref mo])).length) Slot.unset).toArray = ls at hl ⊢
  have hl : lv_has ls 1 [(0, .ref mo)] := hl
  refine lv_aload_n hx hb dX11_goesAside_0 rfl (lv_at hl 0 rfl) ?_
  refine va_get (v := .ref mw) (D := D) (ci := 11) (C := RX11) (T := TX11) (N := 19) hx hb hts in_X11 hown hK hP 0 rfl rfl 0 (by decide) (hts _ kl_RX11_9) (fun _ h9 => h9) rfl dX11_goesAside_1 ?_
  refine lv_aload_n hx hb dX11_goesAside_4 rfl (lv_at hl 0 rfl) ?_
  refine va_get (v := .ref ma) (D := D) (ci := 11) (C := RX11) (T := TX11) (N := 19) hx hb hts in_X11 hown hK hP 0 rfl rfl 1 (by decide) (hts _ kl_RX11_13) (fun _ h9 => h9) rfl dX11_goesAside_5 ?_
  refine ty_kv (wr := [(rf_MO mo mw ma mf m0 m1 mu mv u0 u1 iz th mb mn mpt mbg mwr mwk mlf men)]) (wc := ([(rf_RW ct 0 mw 958 f), (rf_RW ct 0 ma 958 fa)] ++ ws)) (va_runS (As := [.ref mw, .ref ma]) (rest := []) ⟨hx, hb, hml, hown, hts⟩ (m_copies l D ct S ws ph xx mw ma f fa _ hT hph hy1) (cm_S 2 hts kc_X11_copies ki_RX11 kl_RX11_205 ks_X11_copies kd_X11_copies ⟨Nat.le_of_ble_eq_true rfl, Nat.le_of_ble_eq_true rfl⟩) (ty_preS (wr := [(rf_MO mo mw ma mf m0 m1 mu mv u0 u1 iz th mb mn mpt mbg mwr mwk mlf men)]) (wc := ([(rf_RW ct 0 mw 958 f), (rf_RW ct 0 ma 958 fa)] ++ ws)) hP hK hD hS hA hX) rfl rfl hl.1 rfl (lv_room (Nat.le_of_ble_eq_true rfl)) dX11_goesAside_8 ⟨Nat.le_of_ble_eq_true rfl, Nat.le_of_ble_eq_true rfl⟩) hP hD hS hA (fun u H locs hw_2 hP hD hS => ?_)
  obtain ⟨ws_3, h_4⟩ := u
  obtain ⟨hT, hp_5⟩ := hw_2
  have hp_5 : ∀ j : Nat, j < 958 → h_4 j = f j := hp_5
  have hP : va_P D vwCl ([(rf_MO mo mw ma mf m0 m1 mu mv u0 u1 iz th mb mn mpt mbg mwr mwk mlf men), (rf_RW ct 0 mw 958 f), (rf_RW ct 0 ma 958 h_4)] ++ ws_3) H := hP
  have hD : va_D A ([(rf_MO mo mw ma mf m0 m1 mu mv u0 u1 iz th mb mn mpt mbg mwr mwk mlf men), (rf_RW ct 0 mw 958 f), (rf_RW ct 0 ma 958 h_4)] ++ ws_3) := hD
  refine lv_aload_n hx hb dX11_goesAside_11 rfl (lv_at hl 0 rfl) ?_
  refine va_get (v := .ref mu) (D := D) (ci := 11) (C := RX11) (T := TX11) (N := 19) hx hb hts in_X11 hown hK hP 0 rfl rfl 5 (by decide) (hts _ kl_RX11_25) (fun _ h9 => h9) rfl dX11_goesAside_12 ?_
  refine lv_aload_n hx hb dX11_goesAside_15 rfl (lv_at hl 0 rfl) ?_
  refine va_get (v := .ref mv) (D := D) (ci := 11) (C := RX11) (T := TX11) (N := 19) hx hb hts in_X11 hown hK hP 0 rfl rfl 6 (by decide) (hts _ kl_RX11_29) (fun _ h9 => h9) rfl dX11_goesAside_16 ?_
  refine ty_kv (wr := [(rf_MO mo mw ma mf m0 m1 mu mv u0 u1 iz th mb mn mpt mbg mwr mwk mlf men), (rf_RW ct 0 mw 958 f), (rf_RW ct 0 ma 958 h_4)]) (wc := ([] ++ ws_3)) (va_runS (As := [.ref mu, .ref mv]) (rest := []) ⟨hx, hb, hml, hown, hts⟩ (m_copiesSums l D ct S ws_3 ph xx mu mv _ hT h_mu h_mv hph hy1 hy11) (cm_S 2 hts kc_X11_copiesSums ki_RX11 kl_RX11_375 ks_X11_copiesSums kd_X11_copiesSums ⟨Nat.le_of_ble_eq_true rfl, Nat.le_of_ble_eq_true rfl⟩) (ty_preS (wr := [(rf_MO mo mw ma mf m0 m1 mu mv u0 u1 iz th mb mn mpt mbg mwr mwk mlf men), (rf_RW ct 0 mw 958 f), (rf_RW ct 0 ma 958 h_4)]) (wc := ([] ++ ws_3)) hP hK hD hS hA hX) rfl rfl hl.1 rfl (lv_room (Nat.le_of_ble_eq_true rfl)) dX11_goesAside_19 ⟨Nat.le_of_ble_eq_true rfl, Nat.le_of_ble_eq_true rfl⟩) hP hD hS hA (fun u H locs hw_7 hP hD hS => ?_)
  obtain ⟨ws_8, rfl⟩ : ∃ z, z = u := ⟨_, rfl⟩
  have hT := hw_7
  have hP : va_P D vwCl ([(rf_MO mo mw ma mf m0 m1 mu mv u0 u1 iz th mb mn mpt mbg mwr mwk mlf men), (rf_RW ct 0 mw 958 f), (rf_RW ct 0 ma 958 h_4)] ++ ws_8) H := hP
  have hD : va_D A ([(rf_MO mo mw ma mf m0 m1 mu mv u0 u1 iz th mb mn mpt mbg mwr mwk mlf men), (rf_RW ct 0 mw 958 f), (rf_RW ct 0 ma 958 h_4)] ++ ws_8) := hD
  refine lv_aload_n hx hb dX11_goesAside_22 rfl (lv_at hl 0 rfl) ?_
  refine lv_iconst (v := 0) hx hb dX11_goesAside_23 (by decide) ?_
  refine va_put (v := .int 0) (ty := .int) (D := D) (ci := 11) (C := RX11) (T := TX11) (N := 19) hx hb hts in_X11 tyX11 tyX11_ok nmX11 hown hK hP hD hS 0 rfl rfl 18 (by decide) (hts _ kl_RX11_300) (fun _ h9 => h9) rfl (by decide +kernel) rfl rfl (Nat.le_of_ble_eq_true rfl) dX11_goesAside_24 (fun H locs hP hD hS => ?_)
  have hP : va_P D vwCl ([(rf_MO mo mw ma mf m0 m1 mu mv u0 u1 iz th mb mn mpt mbg mwr mwk mlf (0)), (rf_RW ct 0 mw 958 f), (rf_RW ct 0 ma 958 h_4)] ++ ws_8) H := hP
  have hD : va_D A ([(rf_MO mo mw ma mf m0 m1 mu mv u0 u1 iz th mb mn mpt mbg mwr mwk mlf (0)), (rf_RW ct 0 mw 958 f), (rf_RW ct 0 ma 958 h_4)] ++ ws_8) := hD
  exact W.vret hx hb hr (fun t ht hW => ⟨⟨(ws_8, h_4), rfl, ⟨hT, ⟨rf_Req hR hp_5, hp_5 8 (by omega)⟩⟩, by rw [ht]; exact hP, by rw [hAe]; exact hD⟩, hS.F ht⟩) hS.2.2 dX11_goesAside_27
theorem dX11_comesBack_0 : decode cX11_comesBack 0 = .ok (.aload_n 0, 1) := by decide +kernel
theorem dX11_comesBack_1 : decode cX11_comesBack 1 = .ok (.getfield 13, 3) := by decide +kernel
theorem dX11_comesBack_4 : decode cX11_comesBack 4 = .ok (.aload_n 0, 1) := by decide +kernel
theorem dX11_comesBack_5 : decode cX11_comesBack 5 = .ok (.getfield 9, 3) := by decide +kernel
theorem dX11_comesBack_8 : decode cX11_comesBack 8 = .ok (.invokestatic 205, 3) := by decide +kernel
theorem dX11_comesBack_11 : decode cX11_comesBack 11 = .ok (.aload_n 0, 1) := by decide +kernel
theorem dX11_comesBack_12 : decode cX11_comesBack 12 = .ok (.getfield 29, 3) := by decide +kernel
theorem dX11_comesBack_15 : decode cX11_comesBack 15 = .ok (.aload_n 0, 1) := by decide +kernel
theorem dX11_comesBack_16 : decode cX11_comesBack 16 = .ok (.getfield 25, 3) := by decide +kernel
theorem dX11_comesBack_19 : decode cX11_comesBack 19 = .ok (.invokestatic 375, 3) := by decide +kernel
theorem dX11_comesBack_22 : decode cX11_comesBack 22 = .ok (.return_, 1) := by decide +kernel
set_option maxRecDepth 100000 in
set_option maxHeartbeats 4000000 in
theorem m_X11_comesBack (l : Launch) (D : va_G) (ct : Nat → ClassId) (S : ty_S) (ws : va_W) (ph : va_W → Prop) (xx : Nat → Nat → Nat → Prop) (mo : Nat) (mw : Nat) (ma : Nat) (mf : Nat) (m0 : Nat) (m1 : Nat) (mu : Nat) (mv : Nat) (u0 : Nat) (u1 : Nat) (iz : Nat) (mb : Nat) (th : Int32) (mn : Int32) (mpt : Int32) (mbg : Int32) (mwr : Int32) (mwk : Int32) (mlf : Int32) (men : Int32) (f : Nat → Int32) (G : Nat → Int32) (fa : Nat → Int32) (sz : Nat) (hT : ty_V ct S ph ws) (h_mu : S mu = some (.inr (1, 42))) (h_mv : S mv = some (.inr (1, 42))) (h_u0 : S u0 = some (.inr (1, 42))) (h_u1 : S u1 = some (.inr (1, 42))) (hph : ty_C ph xx) (hy1 : ty_y1 xx) (hy11 : ty_y0 xx 11) (hRa : rf_R G (-1) fa) : Met l yX11_comesBack (ws_ yX11_comesBack cX11_comesBack 1 none) ({ frames := 1, cells := 0, slots := 0, locals := 22 } : Room) (va_Pc [.ref mo] (cmP D ct sz ([(rf_MO mo mw ma mf m0 m1 mu mv u0 u1 iz th mb mn mpt mbg mwr mwk mlf men), (rf_RW ct 0 mw 958 f), (rf_RW ct 0 ma 958 fa)] ++ ws))) (va_Qv (fun (u : va_W × (Nat → Int32)) => match u with | (u9, f1) => ty_V ct S ph u9 ∧ rf_R G (-1) f1 ∧ f1 8 = fa 8) (cmB D ([(rf_MO mo mw ma mf m0 m1 mu mv u0 u1 iz th mb mn mpt mbg mwr mwk mlf men), (rf_RW ct 0 mw 958 f), (rf_RW ct 0 ma 958 fa)] ++ ws) sz (fun (u : va_W × (Nat → Int32)) => match u with | (u9, f1) => ([(rf_MO mo mw ma mf m0 m1 mu mv u0 u1 iz th mb mn mpt mbg mwr mwk mlf men), (rf_RW ct 0 mw 958 f1), (rf_RW ct 0 ma 958 fa)] ++ u9))) (va_A ([(rf_MO mo mw ma mf m0 m1 mu mv u0 u1 iz th mb mn mpt mbg mwr mwk mlf men), (rf_RW ct 0 mw 958 f), (rf_RW ct 0 ma 958 fa)] ++ ws) sz)) 0 0 (va_A ([(rf_MO mo mw ma mf m0 m1 mu mv u0 u1 iz th mb mn mpt mbg mwr mwk mlf men), (rf_RW ct 0 mw 958 f), (rf_RW ct 0 ma 958 fa)] ++ ws) sz) := by
  refine Met.ofW (cc := cX11_comesBack) (maxL := 1) (ret := none) (by decide) rfl ?_
  intro p e s m args below meth c s₁ B hml hv
  obtain ⟨rfl, hsz, hP, hK, hD0, hX⟩ := hv
  have hx := B.exec
  have hb := B.bytes
  have hr := B.returns
  have hts := ws_all (atoms_spec (ws := ws_ yX11_comesBack cX11_comesBack 1 none) B.pre)
  have hown : s.vm.findClass RX11 = some m.cls := findClass_of_methodNamed B.named
  have hlocks := B.notSynchronized
  subst hsz
  have hD := hD0.self (sz := s.heap.size)
  generalize hAe : va_A ([(rf_MO mo mw ma mf m0 m1 mu mv u0 u1 iz th mb mn mpt mbg mwr mwk mlf men), (rf_RW ct 0 mw 958 f), (rf_RW ct 0 ma 958 fa)] ++ ws) s.heap.size = A at hD hX ⊢
  have hA : ∀ q : Nat, s.heap.size ≤ q → A q := fun q h => by rw [← hAe]; exact Or.inr h
  have hS : va_S A s.heap s.heap [] := va_S.rf
  have hl := lv_entry ([.ref mo]) (n := 1) (Nat.le_of_ble_eq_true rfl)
  rw [lg_entry_eq]
  generalize (lg_sl ([.ref mo]) ++ List.replicate (1 - (lg_sl ([.ref mo])).length) Slot.unset).toArray = ls at hl ⊢
  have hl : lv_has ls 1 [(0, .ref mo)] := hl
  refine lv_aload_n hx hb dX11_comesBack_0 rfl (lv_at hl 0 rfl) ?_
  refine va_get (v := .ref ma) (D := D) (ci := 11) (C := RX11) (T := TX11) (N := 19) hx hb hts in_X11 hown hK hP 0 rfl rfl 1 (by decide) (hts _ kl_RX11_13) (fun _ h9 => h9) rfl dX11_comesBack_1 ?_
  refine lv_aload_n hx hb dX11_comesBack_4 rfl (lv_at hl 0 rfl) ?_
  refine va_get (v := .ref mw) (D := D) (ci := 11) (C := RX11) (T := TX11) (N := 19) hx hb hts in_X11 hown hK hP 0 rfl rfl 0 (by decide) (hts _ kl_RX11_9) (fun _ h9 => h9) rfl dX11_comesBack_5 ?_
  have hP : va_P D vwCl ([(rf_MO mo mw ma mf m0 m1 mu mv u0 u1 iz th mb mn mpt mbg mwr mwk mlf men), (rf_RW ct 0 ma 958 fa), (rf_RW ct 0 mw 958 f)] ++ ws) s.heap := ty_permP hP (ty_ordp (E := [(rf_MO mo mw ma mf m0 m1 mu mv u0 u1 iz th mb mn mpt mbg mwr mwk mlf men), (rf_RW ct 0 mw 958 f), (rf_RW ct 0 ma 958 fa)]) (E2 := [(rf_MO mo mw ma mf m0 m1 mu mv u0 u1 iz th mb mn mpt mbg mwr mwk mlf men), (rf_RW ct 0 ma 958 fa), (rf_RW ct 0 mw 958 f)]) (n := 3) [0, 2, 1] rfl rfl (by decide))
  have hD : va_D A ([(rf_MO mo mw ma mf m0 m1 mu mv u0 u1 iz th mb mn mpt mbg mwr mwk mlf men), (rf_RW ct 0 ma 958 fa), (rf_RW ct 0 mw 958 f)] ++ ws) := ty_permD hD (ty_ordp (E := [(rf_MO mo mw ma mf m0 m1 mu mv u0 u1 iz th mb mn mpt mbg mwr mwk mlf men), (rf_RW ct 0 mw 958 f), (rf_RW ct 0 ma 958 fa)]) (E2 := [(rf_MO mo mw ma mf m0 m1 mu mv u0 u1 iz th mb mn mpt mbg mwr mwk mlf men), (rf_RW ct 0 ma 958 fa), (rf_RW ct 0 mw 958 f)]) (n := 3) [0, 2, 1] rfl rfl (by decide))
  refine ty_kv (wr := [(rf_MO mo mw ma mf m0 m1 mu mv u0 u1 iz th mb mn mpt mbg mwr mwk mlf men)]) (wc := ([(rf_RW ct 0 ma 958 fa), (rf_RW ct 0 mw 958 f)] ++ ws)) (va_runS (As := [.ref ma, .ref mw]) (rest := []) ⟨hx, hb, hml, hown, hts⟩ (m_copies l D ct S ws ph xx ma mw fa f _ hT hph hy1) (cm_S 2 hts kc_X11_copies ki_RX11 kl_RX11_205 ks_X11_copies kd_X11_copies ⟨Nat.le_of_ble_eq_true rfl, Nat.le_of_ble_eq_true rfl⟩) (ty_preS (wr := [(rf_MO mo mw ma mf m0 m1 mu mv u0 u1 iz th mb mn mpt mbg mwr mwk mlf men)]) (wc := ([(rf_RW ct 0 ma 958 fa), (rf_RW ct 0 mw 958 f)] ++ ws)) hP hK hD hS hA hX) rfl rfl hl.1 rfl (lv_room (Nat.le_of_ble_eq_true rfl)) dX11_comesBack_8 ⟨Nat.le_of_ble_eq_true rfl, Nat.le_of_ble_eq_true rfl⟩) hP hD hS hA (fun u H locs hw_2 hP hD hS => ?_)
  obtain ⟨ws_3, h_4⟩ := u
  obtain ⟨hT, hp_5⟩ := hw_2
  have hp_5 : ∀ j : Nat, j < 958 → h_4 j = fa j := hp_5
  have hP : va_P D vwCl ([(rf_MO mo mw ma mf m0 m1 mu mv u0 u1 iz th mb mn mpt mbg mwr mwk mlf men), (rf_RW ct 0 ma 958 fa), (rf_RW ct 0 mw 958 h_4)] ++ ws_3) H := hP
  have hD : va_D A ([(rf_MO mo mw ma mf m0 m1 mu mv u0 u1 iz th mb mn mpt mbg mwr mwk mlf men), (rf_RW ct 0 ma 958 fa), (rf_RW ct 0 mw 958 h_4)] ++ ws_3) := hD
  refine lv_aload_n hx hb dX11_comesBack_11 rfl (lv_at hl 0 rfl) ?_
  refine va_get (v := .ref mv) (D := D) (ci := 11) (C := RX11) (T := TX11) (N := 19) hx hb hts in_X11 hown hK hP 0 rfl rfl 6 (by decide) (hts _ kl_RX11_29) (fun _ h9 => h9) rfl dX11_comesBack_12 ?_
  refine lv_aload_n hx hb dX11_comesBack_15 rfl (lv_at hl 0 rfl) ?_
  refine va_get (v := .ref mu) (D := D) (ci := 11) (C := RX11) (T := TX11) (N := 19) hx hb hts in_X11 hown hK hP 0 rfl rfl 5 (by decide) (hts _ kl_RX11_25) (fun _ h9 => h9) rfl dX11_comesBack_16 ?_
  refine ty_kv (wr := [(rf_MO mo mw ma mf m0 m1 mu mv u0 u1 iz th mb mn mpt mbg mwr mwk mlf men), (rf_RW ct 0 ma 958 fa), (rf_RW ct 0 mw 958 h_4)]) (wc := ([] ++ ws_3)) (va_runS (As := [.ref mv, .ref mu]) (rest := []) ⟨hx, hb, hml, hown, hts⟩ (m_copiesSums l D ct S ws_3 ph xx mv mu _ hT h_mv h_mu hph hy1 hy11) (cm_S 2 hts kc_X11_copiesSums ki_RX11 kl_RX11_375 ks_X11_copiesSums kd_X11_copiesSums ⟨Nat.le_of_ble_eq_true rfl, Nat.le_of_ble_eq_true rfl⟩) (ty_preS (wr := [(rf_MO mo mw ma mf m0 m1 mu mv u0 u1 iz th mb mn mpt mbg mwr mwk mlf men), (rf_RW ct 0 ma 958 fa), (rf_RW ct 0 mw 958 h_4)]) (wc := ([] ++ ws_3)) hP hK hD hS hA hX) rfl rfl hl.1 rfl (lv_room (Nat.le_of_ble_eq_true rfl)) dX11_comesBack_19 ⟨Nat.le_of_ble_eq_true rfl, Nat.le_of_ble_eq_true rfl⟩) hP hD hS hA (fun u H locs hw_7 hP hD hS => ?_)
  obtain ⟨ws_8, rfl⟩ : ∃ z, z = u := ⟨_, rfl⟩
  have hT := hw_7
  have hP : va_P D vwCl ([(rf_MO mo mw ma mf m0 m1 mu mv u0 u1 iz th mb mn mpt mbg mwr mwk mlf men), (rf_RW ct 0 ma 958 fa), (rf_RW ct 0 mw 958 h_4)] ++ ws_8) H := hP
  have hD : va_D A ([(rf_MO mo mw ma mf m0 m1 mu mv u0 u1 iz th mb mn mpt mbg mwr mwk mlf men), (rf_RW ct 0 ma 958 fa), (rf_RW ct 0 mw 958 h_4)] ++ ws_8) := hD
  have hP : va_P D vwCl ([(rf_MO mo mw ma mf m0 m1 mu mv u0 u1 iz th mb mn mpt mbg mwr mwk mlf men), (rf_RW ct 0 mw 958 h_4), (rf_RW ct 0 ma 958 fa)] ++ ws_8) H := ty_permP hP (ty_ordp (E := [(rf_MO mo mw ma mf m0 m1 mu mv u0 u1 iz th mb mn mpt mbg mwr mwk mlf men), (rf_RW ct 0 ma 958 fa), (rf_RW ct 0 mw 958 h_4)]) (E2 := [(rf_MO mo mw ma mf m0 m1 mu mv u0 u1 iz th mb mn mpt mbg mwr mwk mlf men), (rf_RW ct 0 mw 958 h_4), (rf_RW ct 0 ma 958 fa)]) (n := 3) [0, 2, 1] rfl rfl (by decide))
  have hD : va_D A ([(rf_MO mo mw ma mf m0 m1 mu mv u0 u1 iz th mb mn mpt mbg mwr mwk mlf men), (rf_RW ct 0 mw 958 h_4), (rf_RW ct 0 ma 958 fa)] ++ ws_8) := ty_permD hD (ty_ordp (E := [(rf_MO mo mw ma mf m0 m1 mu mv u0 u1 iz th mb mn mpt mbg mwr mwk mlf men), (rf_RW ct 0 ma 958 fa), (rf_RW ct 0 mw 958 h_4)]) (E2 := [(rf_MO mo mw ma mf m0 m1 mu mv u0 u1 iz th mb mn mpt mbg mwr mwk mlf men), (rf_RW ct 0 mw 958 h_4), (rf_RW ct 0 ma 958 fa)]) (n := 3) [0, 2, 1] rfl rfl (by decide))
  exact W.vret hx hb hr (fun t ht hW => ⟨⟨(ws_8, h_4), rfl, ⟨hT, ⟨rf_Req hRa hp_5, hp_5 8 (by omega)⟩⟩, by rw [ht]; exact hP, by rw [hAe]; exact hD⟩, hS.F ht⟩) hS.2.2 dX11_comesBack_22
