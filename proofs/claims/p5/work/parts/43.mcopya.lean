def q_copies (f : Nat → Int32) (h : Nat → Int32) : Prop := (∃ (y_1 : Int32) (g_2 : Nat → Int32), (0 ≤ y_1.toInt ∧ ∀ j : Nat, (j : Int) < y_1.toInt → g_2 j = f j) ∧ ((958 : Int32) ≤ y_1 ∧ (h = g_2)))
set_option maxRecDepth 100000 in
set_option maxHeartbeats 4000000 in
theorem m_copies (l : Launch) (D : va_G) (ct : Nat → ClassId) (S : ty_S) (ws : va_W) (ph : va_W → Prop) (xx : Nat → Nat → Nat → Prop) (p1 : Nat) (p2 : Nat) (f : Nat → Int32) (g : Nat → Int32) (sz : Nat) (hT : ty_V ct S ph ws) (hph : ty_C ph xx) (hy1 : ty_y1 xx) : Met l yX11_copies (ws_ yX11_copies cX11_copies 3 none) ({ frames := 0, cells := 0, slots := 0, locals := 0 } : Room) (va_Pc [.ref p1, .ref p2] (cmP D ct sz ([(rf_RW ct 0 p1 958 f), (rf_RW ct 0 p2 958 g)] ++ ws))) (va_Qv (fun (u : va_W × (Nat → Int32)) => match u with | (u9, h) => ty_V ct S ph u9 ∧ (q_copies f h) ∧ ∀ j : Nat, j < 958 → h j = f j) (cmB D ([(rf_RW ct 0 p1 958 f), (rf_RW ct 0 p2 958 g)] ++ ws) sz (fun (u : va_W × (Nat → Int32)) => match u with | (u9, h) => ([(rf_RW ct 0 p1 958 f), (rf_RW ct 0 p2 958 h)] ++ u9))) (va_A ([(rf_RW ct 0 p1 958 f), (rf_RW ct 0 p2 958 g)] ++ ws) sz)) 0 0 (va_A ([(rf_RW ct 0 p1 958 f), (rf_RW ct 0 p2 958 g)] ++ ws) sz) := by
  refine Met.ofW (cc := cX11_copies) (maxL := 3) (ret := none) (by decide) rfl ?_
  intro p e s m args below meth c s₁ B hml hv
  obtain ⟨rfl, hsz, hP, hK, hD0, hX⟩ := hv
  have hx := B.exec
  have hb := B.bytes
  have hr := B.returns
  have hts := ws_all (atoms_spec (ws := ws_ yX11_copies cX11_copies 3 none) B.pre)
  have hown : s.vm.findClass RX11 = some m.cls := findClass_of_methodNamed B.named
  have hlocks := B.notSynchronized
  subst hsz
  have hD := hD0.self (sz := s.heap.size)
  generalize hAe : va_A ([(rf_RW ct 0 p1 958 f), (rf_RW ct 0 p2 958 g)] ++ ws) s.heap.size = A at hD hX ⊢
  have hA : ∀ q : Nat, s.heap.size ≤ q → A q := fun q h => by rw [← hAe]; exact Or.inr h
  have hS : va_S A s.heap s.heap [] := va_S.rf
  have hl := lv_entry ([.ref p1, .ref p2]) (n := 3) (Nat.le_of_ble_eq_true rfl)
  rw [lg_entry_eq]
  generalize (lg_sl ([.ref p1, .ref p2]) ++ List.replicate (3 - (lg_sl ([.ref p1, .ref p2])).length) Slot.unset).toArray = ls at hl ⊢
  have hl : lv_has ls 3 [(0, .ref p1), (1, .ref p2)] := hl
  refine lv_iconst (v := 0) hx hb dX11_copies_0 (by decide) ?_
  refine lv_istore_n (lv' := [(2, .int 0), (0, .ref p1), (1, .ref p2)]) hx hb dX11_copies_1 rfl hl (by decide) rfl (fun ls hl => ?_)
  refine ty_loop (I := fun μ H locs ls => ∃ (ws : va_W) (y_1 : Int32) (g_2 : Nat → Int32), μ = (2147483648 - y_1.toInt).toNat ∧ ty_V ct S ph ws ∧ va_P D vwCl ([(rf_RW ct 0 p1 958 f), (rf_RW ct 0 p2 958 g_2)] ++ ws) H ∧ va_D A ([(rf_RW ct 0 p1 958 f), (rf_RW ct 0 p2 958 g_2)] ++ ws) ∧ va_S A s.heap H locs ∧ lv_has ls 3 [(0, .ref p1), (1, .ref p2), (2, .int y_1)] ∧ 0 ≤ y_1.toInt ∧ ∀ j : Nat, (j : Int) < y_1.toInt → g_2 j = f j) ⟨_, ws, (0 : Int32), g, rfl, hT, hP, hD, hS, (lv_sub hl [1, 2, 0] rfl), ⟨by decide, fun j hj => absurd hj (by have z : (0 : Int32).toInt = 0 := (by decide); omega)⟩⟩ (fun μ H locs ls hI ih_2 => ?_)
  obtain ⟨ws, y_1, g_2, rfl, hT, hP, hD, hS, hl, hex_2⟩ := hI
  refine lv_iload_n hx hb dX11_copies_2 rfl (lv_at hl 2 rfl) ?_
  refine lv_sipush (v := 958) hx hb dX11_copies_3 (by decide) ?_
  refine lv_icmp_ge (tgt := 21) hx hb dX11_copies_6 (by decide) (fun hc_3 => ?_) (fun hc_3 => ?_)
  · exact W.vret hx hb hr (fun t ht hW => ⟨⟨(ws, g_2), rfl, ⟨hT, ⟨⟨y_1, g_2, hex_2, ⟨hc_3, rfl⟩⟩, (fun j hj => hex_2.2 j (by have := hex_2.1; have := rf_dn hc_3; omega))⟩⟩, by rw [ht]; exact hP, by rw [hAe]; exact hD⟩, hS.F ht⟩) hS.2.2 dX11_copies_21
  · refine lv_aload_n hx hb dX11_copies_9 rfl (lv_at hl 1 rfl) ?_
    refine lv_iload_n hx hb dX11_copies_10 rfl (lv_at hl 2 rfl) ?_
    refine lv_aload_n hx hb dX11_copies_11 rfl (lv_at hl 0 rfl) ?_
    refine lv_iload_n hx hb dX11_copies_12 rfl (lv_at hl 2 rfl) ?_
    refine va_iald hx hb hK hP 0 0 rfl rfl (rf_in1 (by have := hex_2.1; have := rf_ng (b := 958) (by decide) hc_3; omega)) dX11_copies_13 ?_
    refine va_iast hx hb hK hP hD hS 1 0 rfl rfl (rf_in1 (by have := hex_2.1; have := rf_ng (b := 958) (by decide) hc_3; omega)) dX11_copies_14 (fun H locs hP hD hS => ?_)
    have hP : va_P D vwCl ([(rf_RW ct 0 p1 958 f), (rf_RW ct 0 p2 958 (upd g_2 y_1.toNatClampNeg (f y_1.toNatClampNeg)))] ++ ws) H := hP
    have hD : va_D A ([(rf_RW ct 0 p1 958 f), (rf_RW ct 0 p2 958 (upd g_2 y_1.toNatClampNeg (f y_1.toNatClampNeg)))] ++ ws) := hD
    refine lv_iinc (v := (y_1 + Int32.ofInt 1)) (lv' := [(2, .int (y_1 + Int32.ofInt 1)), (0, .ref p1), (1, .ref p2)]) hx hb dX11_copies_15 hl (k := 2) rfl rfl (by decide) rfl (fun ls hl => ?_)
    refine lv_goto (tgt := 2) hx hb dX11_copies_18 (by decide) ?_
    exact ih_2 _ _ _ _ (ty_inc (cm_lt hc_3)) ⟨ws, (y_1 + Int32.ofInt 1), (upd g_2 y_1.toNatClampNeg (f y_1.toNatClampNeg)), rfl, hT, hP, hD, hS, (lv_sub hl [1, 2, 0] rfl), ⟨ty_nn hex_2.1 (cm_lt hc_3), rf_cpy ⟨hex_2.1, rf_ng (by decide) hc_3⟩ hex_2.2⟩⟩
def q_cs (a b : Nat → Int64) : Prop := ∀ j : Nat, j < 42 → b j = a j
theorem q_css {a b : Nat → Int64} {y : Int32} (hy : 0 ≤ y.toInt ∧ y.toInt < 42) (h : ∀ j : Nat, (j : Int) < y.toInt → b j = a j) : ∀ j : Nat, (j : Int) < (y + Int32.ofInt 1).toInt → vp_updL b y.toNatClampNeg (a y.toNatClampNeg) j = a j := by
  have e : (y + Int32.ofInt 1).toInt = y.toInt + 1 := rf_p1 (by omega)
  intro j hj
  show (if j = y.toInt.toNat then a y.toInt.toNat else b j) = a j
  by_cases q : j = y.toInt.toNat
  · rw [if_pos q, q]
  · rw [if_neg q]
    exact h j (by omega)
set_option maxRecDepth 100000 in
set_option maxHeartbeats 4000000 in
theorem m_copiesSums (l : Launch) (D : va_G) (ct : Nat → ClassId) (S : ty_S) (ws : va_W) (ph : va_W → Prop) (xx : Nat → Nat → Nat → Prop) (p1 : Nat) (p2 : Nat) (sf : Nat → Int64) (sg : Nat → Int64) (sz : Nat) (hT : ty_V ct S ph ws) (hph : ty_C ph xx) (hy1 : ty_y1 xx) (hy11 : ty_y0 xx 11) : Met l yX11_copiesSums (ws_ yX11_copiesSums cX11_copiesSums 3 none) ({ frames := 0, cells := 0, slots := 0, locals := 0 } : Room) (va_Pc [.ref p1, .ref p2] (cmP D ct sz ([(p1, .inl (ct 1, 42, .inr (.inl sf))), (p2, .inl (ct 1, 42, .inr (.inl sg)))] ++ ws))) (va_Qv (fun (u : va_W × (Nat → Int64)) => match u with | (u9, sh) => ty_V ct S ph u9 ∧ q_cs sf sh) (cmB D ([(p1, .inl (ct 1, 42, .inr (.inl sf))), (p2, .inl (ct 1, 42, .inr (.inl sg)))] ++ ws) sz (fun (u : va_W × (Nat → Int64)) => match u with | (u9, sh) => ([(p1, .inl (ct 1, 42, .inr (.inl sf))), (p2, .inl (ct 1, 42, .inr (.inl sh)))] ++ u9))) (va_A ([(p1, .inl (ct 1, 42, .inr (.inl sf))), (p2, .inl (ct 1, 42, .inr (.inl sg)))] ++ ws) sz)) 0 0 (va_A ([(p1, .inl (ct 1, 42, .inr (.inl sf))), (p2, .inl (ct 1, 42, .inr (.inl sg)))] ++ ws) sz) := by
  refine Met.ofW (cc := cX11_copiesSums) (maxL := 3) (ret := none) (by decide) rfl ?_
  intro p e s m args below meth c s₁ B hml hv
  obtain ⟨rfl, hsz, hP, hK, hD0, hX⟩ := hv
  have hx := B.exec
  have hb := B.bytes
  have hr := B.returns
  have hts := ws_all (atoms_spec (ws := ws_ yX11_copiesSums cX11_copiesSums 3 none) B.pre)
  have hown : s.vm.findClass RX11 = some m.cls := findClass_of_methodNamed B.named
  have hlocks := B.notSynchronized
  subst hsz
  have hD := hD0.self (sz := s.heap.size)
  generalize hAe : va_A ([(p1, .inl (ct 1, 42, .inr (.inl sf))), (p2, .inl (ct 1, 42, .inr (.inl sg)))] ++ ws) s.heap.size = A at hD hX ⊢
  have hA : ∀ q : Nat, s.heap.size ≤ q → A q := fun q h => by rw [← hAe]; exact Or.inr h
  have hS : va_S A s.heap s.heap [] := va_S.rf
  have hl := lv_entry ([.ref p1, .ref p2]) (n := 3) (Nat.le_of_ble_eq_true rfl)
  rw [lg_entry_eq]
  generalize (lg_sl ([.ref p1, .ref p2]) ++ List.replicate (3 - (lg_sl ([.ref p1, .ref p2])).length) Slot.unset).toArray = ls at hl ⊢
  have hl : lv_has ls 3 [(0, .ref p1), (1, .ref p2)] := hl
  refine lv_iconst (v := 0) hx hb dX11_copiesSums_0 (by decide) ?_
  refine lv_istore_n (lv' := [(2, .int 0), (0, .ref p1), (1, .ref p2)]) hx hb dX11_copiesSums_1 rfl hl (by decide) rfl (fun ls hl => ?_)
  refine ty_loop (I := fun μ H locs ls => ∃ (ws : va_W) (y_1 : Int32) (g_2 : Nat → Int64), μ = (2147483648 - y_1.toInt).toNat ∧ ty_V ct S ph ws ∧ va_P D vwCl ([(p1, .inl (ct 1, 42, .inr (.inl sf))), (p2, .inl (ct 1, 42, .inr (.inl g_2)))] ++ ws) H ∧ va_D A ([(p1, .inl (ct 1, 42, .inr (.inl sf))), (p2, .inl (ct 1, 42, .inr (.inl g_2)))] ++ ws) ∧ va_S A s.heap H locs ∧ lv_has ls 3 [(0, .ref p1), (1, .ref p2), (2, .int y_1)] ∧ (0 ≤ y_1.toInt ∧ y_1.toInt ≤ 42) ∧ ∀ j : Nat, (j : Int) < y_1.toInt → g_2 j = sf j) ⟨_, ws, (0 : Int32), sg, rfl, hT, hP, hD, hS, (lv_sub hl [1, 2, 0] rfl), ⟨by decide, by decide⟩, fun j hj => absurd hj (by have z : (0 : Int32).toInt = 0 := (by decide); omega)⟩ (fun μ H locs ls hI ih_2 => ?_)
  obtain ⟨ws, y_1, g_2, rfl, hT, hP, hD, hS, hl, hex_2⟩ := hI
  refine lv_iload_n hx hb dX11_copiesSums_2 rfl (lv_at hl 2 rfl) ?_
  refine lv_bipush (v := 42) hx hb dX11_copiesSums_3 (by decide) ?_
  refine lv_icmp_ge (tgt := 20) hx hb dX11_copiesSums_5 (by decide) (fun hc_3 => ?_) (fun hc_3 => ?_)
  · exact W.vret hx hb hr (fun t ht hW => ⟨⟨(ws, g_2), rfl, ⟨hT, (fun j hj => hex_2.2 j (by have q := hc_3; rw [Int32.le_iff_toInt_le, show (42 : Int32).toInt = 42 from by decide] at q; omega))⟩, by rw [ht]; exact hP, by rw [hAe]; exact hD⟩, hS.F ht⟩) hS.2.2 dX11_copiesSums_20
  · refine lv_aload_n hx hb dX11_copiesSums_8 rfl (lv_at hl 1 rfl) ?_
    refine lv_iload_n hx hb dX11_copiesSums_9 rfl (lv_at hl 2 rfl) ?_
    refine lv_aload_n hx hb dX11_copiesSums_10 rfl (lv_at hl 0 rfl) ?_
    refine lv_iload_n hx hb dX11_copiesSums_11 rfl (lv_at hl 2 rfl) ?_
    refine va_lald hx hb hK hP 0 1 rfl rfl (rf_vin (by have := hex_2.1; have := (by have q := hc_3; rw [Int32.le_iff_toInt_le, show (42 : Int32).toInt = 42 from by decide] at q; exact q); omega)) dX11_copiesSums_12 ?_
    refine va_last hx hb hK hP hD hS 1 1 rfl rfl (rf_vin (by have := hex_2.1; have := (by have q := hc_3; rw [Int32.le_iff_toInt_le, show (42 : Int32).toInt = 42 from by decide] at q; exact q); omega)) dX11_copiesSums_13 (fun H locs hP hD hS => ?_)
    have hP : va_P D vwCl ([(p1, .inl (ct 1, 42, .inr (.inl sf))), (p2, .inl (ct 1, 42, .inr (.inl (vp_updL g_2 y_1.toNatClampNeg (sf y_1.toNatClampNeg)))))] ++ ws) H := hP
    have hD : va_D A ([(p1, .inl (ct 1, 42, .inr (.inl sf))), (p2, .inl (ct 1, 42, .inr (.inl (vp_updL g_2 y_1.toNatClampNeg (sf y_1.toNatClampNeg)))))] ++ ws) := hD
    refine lv_iinc (v := (y_1 + Int32.ofInt 1)) (lv' := [(2, .int (y_1 + Int32.ofInt 1)), (0, .ref p1), (1, .ref p2)]) hx hb dX11_copiesSums_14 hl (k := 2) rfl rfl (by decide) rfl (fun ls hl => ?_)
    refine lv_goto (tgt := 2) hx hb dX11_copiesSums_17 (by decide) ?_
    exact ih_2 _ _ _ _ (ty_inc (cm_lt hc_3)) ⟨ws, (y_1 + Int32.ofInt 1), (vp_updL g_2 y_1.toNatClampNeg (sf y_1.toNatClampNeg)), rfl, hT, hP, hD, hS, (lv_sub hl [1, 2, 0] rfl), (by have := hex_2.1; have := (by have q := hc_3; rw [Int32.le_iff_toInt_le, show (42 : Int32).toInt = 42 from by decide] at q; exact q); have := rf_oi (n := y_1) (by omega); omega), q_css (by have := hex_2.1; have := (by have q := hc_3; rw [Int32.le_iff_toInt_le, show (42 : Int32).toInt = 42 from by decide] at q; exact q); omega) hex_2.2⟩
set_option maxRecDepth 100000 in
set_option maxHeartbeats 4000000 in
theorem m_X11_goesAside (l : Launch) (D : va_G) (ct : Nat → ClassId) (S : ty_S) (ws : va_W) (ph : va_W → Prop) (xx : Nat → Nat → Nat → Prop) (mo : Nat) (mw : Nat) (ma : Nat) (mf : Nat) (m0 : Nat) (m1 : Nat) (mu : Nat) (mv : Nat) (u0 : Nat) (u1 : Nat) (iz : Nat) (mb : Nat) (th : Int32) (mn : Int32) (mpt : Int32) (mbg : Int32) (mwr : Int32) (mwk : Int32) (mlf : Int32) (men : Int32) (f : Nat → Int32) (G : Nat → Int32) (fa : Nat → Int32) (su : Nat → Int64) (sv : Nat → Int64) (sz : Nat) (hT : ty_V ct S ph ws) (hph : ty_C ph xx) (hy1 : ty_y1 xx) (hy11 : ty_y0 xx 11) (hR : rf_R G (-1) f) : Met l yX11_goesAside (ws_ yX11_goesAside cX11_goesAside 1 none) ({ frames := 1, cells := 0, slots := 0, locals := 22 } : Room) (va_Pc [.ref mo] (cmP D ct sz ([(rf_MO mo mw ma mf m0 m1 mu mv u0 u1 iz th mb mn mpt mbg mwr mwk mlf men), (rf_RW ct 0 mw 958 f), (rf_RW ct 0 ma 958 fa), (mu, .inl (ct 1, 42, .inr (.inl su))), (mv, .inl (ct 1, 42, .inr (.inl sv)))] ++ ws))) (va_Qv (fun (u : va_W × (Nat → Int32) × (Nat → Int64)) => match u with | (u9, fa1, sv1) => ty_V ct S ph u9 ∧ (rf_R G (-1) fa1 ∧ rf_d (f 8) f fa1) ∧ q_eq 958 f fa1 ∧ q_cs su sv1) (cmB D ([(rf_MO mo mw ma mf m0 m1 mu mv u0 u1 iz th mb mn mpt mbg mwr mwk mlf men), (rf_RW ct 0 mw 958 f), (rf_RW ct 0 ma 958 fa), (mu, .inl (ct 1, 42, .inr (.inl su))), (mv, .inl (ct 1, 42, .inr (.inl sv)))] ++ ws) sz (fun (u : va_W × (Nat → Int32) × (Nat → Int64)) => match u with | (u9, fa1, sv1) => ([(rf_MO mo mw ma mf m0 m1 mu mv u0 u1 iz th mb mn mpt mbg mwr mwk mlf (0)), (rf_RW ct 0 mw 958 f), (rf_RW ct 0 ma 958 fa1), (mu, .inl (ct 1, 42, .inr (.inl su))), (mv, .inl (ct 1, 42, .inr (.inl sv1)))] ++ u9))) (va_A ([(rf_MO mo mw ma mf m0 m1 mu mv u0 u1 iz th mb mn mpt mbg mwr mwk mlf men), (rf_RW ct 0 mw 958 f), (rf_RW ct 0 ma 958 fa), (mu, .inl (ct 1, 42, .inr (.inl su))), (mv, .inl (ct 1, 42, .inr (.inl sv)))] ++ ws) sz)) 0 0 (va_A ([(rf_MO mo mw ma mf m0 m1 mu mv u0 u1 iz th mb mn mpt mbg mwr mwk mlf men), (rf_RW ct 0 mw 958 f), (rf_RW ct 0 ma 958 fa), (mu, .inl (ct 1, 42, .inr (.inl su))), (mv, .inl (ct 1, 42, .inr (.inl sv)))] ++ ws) sz) := by
  refine Met.ofW (cc := cX11_goesAside) (maxL := 1) (ret := none) (by decide) rfl ?_
  intro p e s m args below meth c s₁ B hml hv
  obtain ⟨rfl, hsz, hP, hK, hD0, hX⟩ := hv
  have hx := B.exec
  have hb := B.bytes
  have hr := B.returns
  have hts := ws_all (atoms_spec (ws := ws_ yX11_goesAside cX11_goesAside 1 none) B.pre)
  have hown : s.vm.findClass RX11 = some m.cls := findClass_of_methodNamed B.named
  have hlocks := B.notSynchronized
  subst hsz
  have hD := hD0.self (sz := s.heap.size)
  generalize hAe : va_A ([(rf_MO mo mw ma mf m0 m1 mu mv u0 u1 iz th mb mn mpt mbg mwr mwk mlf men), (rf_RW ct 0 mw 958 f), (rf_RW ct 0 ma 958 fa), (mu, .inl (ct 1, 42, .inr (.inl su))), (mv, .inl (ct 1, 42, .inr (.inl sv)))] ++ ws) s.heap.size = A at hD hX ⊢
  have hA : ∀ q : Nat, s.heap.size ≤ q → A q := fun q h => by rw [← hAe]; exact Or.inr h
  have hS : va_S A s.heap s.heap [] := va_S.rf
  have hl := lv_entry ([.ref mo]) (n := 1) (Nat.le_of_ble_eq_true rfl)
  rw [lg_entry_eq]
  generalize (lg_sl ([.ref mo]) ++ List.replicate (1 - (lg_sl ([.ref mo])).length) Slot.unset).toArray = ls at hl ⊢
  have hl : lv_has ls 1 [(0, .ref mo)] := hl
  refine lv_aload_n hx hb dX11_goesAside_0 rfl (lv_at hl 0 rfl) ?_
  refine va_get (v := .ref mw) (D := D) (ci := 11) (C := RX11) (T := TX11) (N := 19) hx hb hts in_X11 hown hK hP 0 rfl rfl 0 (by decide) (hts _ kl_RX11_9) (fun _ h9 => h9) rfl dX11_goesAside_1 ?_
  refine lv_aload_n hx hb dX11_goesAside_4 rfl (lv_at hl 0 rfl) ?_
  refine va_get (v := .ref ma) (D := D) (ci := 11) (C := RX11) (T := TX11) (N := 19) hx hb hts in_X11 hown hK hP 0 rfl rfl 1 (by decide) (hts _ kl_RX11_13) (fun _ h9 => h9) rfl dX11_goesAside_5 ?_
  obtain ⟨hP, hD⟩ := ty_opPD (E1 := [(rf_MO mo mw ma mf m0 m1 mu mv u0 u1 iz th mb mn mpt mbg mwr mwk mlf men), (mu, .inl (ct 1, 42, .inr (.inl su))), (mv, .inl (ct 1, 42, .inr (.inl sv)))]) (E2 := [(rf_RW ct 0 mw 958 f), (rf_RW ct 0 ma 958 fa)]) (n := 5) [0, 3, 4, 1, 2] hP hD rfl rfl (by decide +kernel) ty_mva
  refine ty_Kv hP hD hS hA (va_runS (As := [.ref mw, .ref ma]) (rest := []) ⟨hx, hb, hml, hown, hts⟩ (m_copies l D ct S ws ph xx mw ma f fa _ hT hph hy1) (cm_S 2 hts kc_X11_copies ki_RX11 kl_RX11_205 ks_X11_copies kd_X11_copies ⟨Nat.le_of_ble_eq_true rfl, Nat.le_of_ble_eq_true rfl⟩) (ty_preS hP hK hD hS hA hX) rfl rfl hl.1 rfl (lv_room (Nat.le_of_ble_eq_true rfl)) dX11_goesAside_8 ⟨Nat.le_of_ble_eq_true rfl, Nat.le_of_ble_eq_true rfl⟩) (fun u H locs hw_2 hP hD hS => ?_)
  obtain ⟨ws_3, h_4⟩ := u
  obtain ⟨hT, hp_5⟩ := hw_2
  have hp_5 : (q_copies f h_4) ∧ ∀ j : Nat, j < 958 → h_4 j = f j := hp_5
  obtain ⟨hq_6, hp_7⟩ := hp_5
  obtain ⟨hP, hD⟩ := ty_shPD (w2 := ([(rf_MO mo mw ma mf m0 m1 mu mv u0 u1 iz th mb mn mpt mbg mwr mwk mlf men), (mu, .inl (ct 1, 42, .inr (.inl su))), (mv, .inl (ct 1, 42, .inr (.inl sv))), (rf_RW ct 0 mw 958 f), (rf_RW ct 0 ma 958 h_4)] ++ ws_3)) hP hD rfl
  refine lv_aload_n hx hb dX11_goesAside_11 rfl (lv_at hl 0 rfl) ?_
  refine va_get (v := .ref mu) (D := D) (ci := 11) (C := RX11) (T := TX11) (N := 19) hx hb hts in_X11 hown hK hP 0 rfl rfl 5 (by decide) (hts _ kl_RX11_25) (fun _ h9 => h9) rfl dX11_goesAside_12 ?_
  refine lv_aload_n hx hb dX11_goesAside_15 rfl (lv_at hl 0 rfl) ?_
  refine va_get (v := .ref mv) (D := D) (ci := 11) (C := RX11) (T := TX11) (N := 19) hx hb hts in_X11 hown hK hP 0 rfl rfl 6 (by decide) (hts _ kl_RX11_29) (fun _ h9 => h9) rfl dX11_goesAside_16 ?_
  obtain ⟨hP, hD⟩ := ty_opPD (E1 := [(rf_MO mo mw ma mf m0 m1 mu mv u0 u1 iz th mb mn mpt mbg mwr mwk mlf men), (rf_RW ct 0 mw 958 f), (rf_RW ct 0 ma 958 h_4)]) (E2 := [(mu, .inl (ct 1, 42, .inr (.inl su))), (mv, .inl (ct 1, 42, .inr (.inl sv)))]) (n := 5) [0, 3, 4, 1, 2] hP hD rfl rfl (by decide +kernel) ty_mva
  refine ty_Kv hP hD hS hA (va_runS (As := [.ref mu, .ref mv]) (rest := []) ⟨hx, hb, hml, hown, hts⟩ (m_copiesSums l D ct S ws_3 ph xx mu mv su sv _ hT hph hy1 hy11) (cm_S 2 hts kc_X11_copiesSums ki_RX11 kl_RX11_375 ks_X11_copiesSums kd_X11_copiesSums ⟨Nat.le_of_ble_eq_true rfl, Nat.le_of_ble_eq_true rfl⟩) (ty_preS hP hK hD hS hA hX) rfl rfl hl.1 rfl (lv_room (Nat.le_of_ble_eq_true rfl)) dX11_goesAside_19 ⟨Nat.le_of_ble_eq_true rfl, Nat.le_of_ble_eq_true rfl⟩) (fun u H locs hw_9 hP hD hS => ?_)
  obtain ⟨ws_10, sh_11⟩ := u
  obtain ⟨hT, hp_12⟩ := hw_9
  have hp_12 : q_cs su sh_11 := hp_12
  obtain ⟨hP, hD⟩ := ty_shPD (w2 := ([(rf_MO mo mw ma mf m0 m1 mu mv u0 u1 iz th mb mn mpt mbg mwr mwk mlf men), (rf_RW ct 0 mw 958 f), (rf_RW ct 0 ma 958 h_4), (mu, .inl (ct 1, 42, .inr (.inl su))), (mv, .inl (ct 1, 42, .inr (.inl sh_11)))] ++ ws_10)) hP hD rfl
  refine lv_aload_n hx hb dX11_goesAside_22 rfl (lv_at hl 0 rfl) ?_
  refine lv_iconst (v := 0) hx hb dX11_goesAside_23 (by decide) ?_
  refine va_put (v := .int 0) (ty := .int) (D := D) (ci := 11) (C := RX11) (T := TX11) (N := 19) hx hb hts in_X11 tyX11 tyX11_ok nmX11 hown hK hP hD hS 0 rfl rfl 18 (by decide) (hts _ kl_RX11_300) (fun _ h9 => h9) rfl (by decide +kernel) rfl rfl (Nat.le_of_ble_eq_true rfl) dX11_goesAside_24 (fun H locs hP hD hS => ?_)
  have hP : va_P D vwCl ([(rf_MO mo mw ma mf m0 m1 mu mv u0 u1 iz th mb mn mpt mbg mwr mwk mlf (0)), (rf_RW ct 0 mw 958 f), (rf_RW ct 0 ma 958 h_4), (mu, .inl (ct 1, 42, .inr (.inl su))), (mv, .inl (ct 1, 42, .inr (.inl sh_11)))] ++ ws_10) H := hP
  have hD : va_D A ([(rf_MO mo mw ma mf m0 m1 mu mv u0 u1 iz th mb mn mpt mbg mwr mwk mlf (0)), (rf_RW ct 0 mw 958 f), (rf_RW ct 0 ma 958 h_4), (mu, .inl (ct 1, 42, .inr (.inl su))), (mv, .inl (ct 1, 42, .inr (.inl sh_11)))] ++ ws_10) := hD
  exact W.vret hx hb hr (fun t ht hW => ⟨⟨(ws_10, h_4, sh_11), rfl, ⟨hT, ⟨⟨rf_Req hR hp_7, rf_dse hp_7⟩, hp_7, hp_12⟩⟩, by rw [ht]; exact hP, by rw [hAe]; exact hD⟩, hS.F ht⟩) hS.2.2 dX11_goesAside_27
set_option maxRecDepth 100000 in
set_option maxHeartbeats 4000000 in
theorem m_X11_comesBack (l : Launch) (D : va_G) (ct : Nat → ClassId) (S : ty_S) (ws : va_W) (ph : va_W → Prop) (xx : Nat → Nat → Nat → Prop) (mo : Nat) (mw : Nat) (ma : Nat) (mf : Nat) (m0 : Nat) (m1 : Nat) (mu : Nat) (mv : Nat) (u0 : Nat) (u1 : Nat) (iz : Nat) (mb : Nat) (th : Int32) (mn : Int32) (mpt : Int32) (mbg : Int32) (mwr : Int32) (mwk : Int32) (mlf : Int32) (men : Int32) (f : Nat → Int32) (G : Nat → Int32) (fa : Nat → Int32) (su : Nat → Int64) (sv : Nat → Int64) (sz : Nat) (hT : ty_V ct S ph ws) (hph : ty_C ph xx) (hy1 : ty_y1 xx) (hy11 : ty_y0 xx 11) (hRa : rf_R G (-1) fa) : Met l yX11_comesBack (ws_ yX11_comesBack cX11_comesBack 1 none) ({ frames := 1, cells := 0, slots := 0, locals := 22 } : Room) (va_Pc [.ref mo] (cmP D ct sz ([(rf_MO mo mw ma mf m0 m1 mu mv u0 u1 iz th mb mn mpt mbg mwr mwk mlf men), (rf_RW ct 0 mw 958 f), (rf_RW ct 0 ma 958 fa), (mu, .inl (ct 1, 42, .inr (.inl su))), (mv, .inl (ct 1, 42, .inr (.inl sv)))] ++ ws))) (va_Qv (fun (u : va_W × (Nat → Int32) × (Nat → Int64)) => match u with | (u9, f1, su1) => ty_V ct S ph u9 ∧ rf_R G (-1) f1 ∧ (rf_d (fa 8) fa f1 ∧ q_eq 958 fa f1 ∧ q_cs sv su1)) (cmB D ([(rf_MO mo mw ma mf m0 m1 mu mv u0 u1 iz th mb mn mpt mbg mwr mwk mlf men), (rf_RW ct 0 mw 958 f), (rf_RW ct 0 ma 958 fa), (mu, .inl (ct 1, 42, .inr (.inl su))), (mv, .inl (ct 1, 42, .inr (.inl sv)))] ++ ws) sz (fun (u : va_W × (Nat → Int32) × (Nat → Int64)) => match u with | (u9, f1, su1) => ([(rf_MO mo mw ma mf m0 m1 mu mv u0 u1 iz th mb mn mpt mbg mwr mwk mlf men), (rf_RW ct 0 mw 958 f1), (rf_RW ct 0 ma 958 fa), (mu, .inl (ct 1, 42, .inr (.inl su1))), (mv, .inl (ct 1, 42, .inr (.inl sv)))] ++ u9))) (va_A ([(rf_MO mo mw ma mf m0 m1 mu mv u0 u1 iz th mb mn mpt mbg mwr mwk mlf men), (rf_RW ct 0 mw 958 f), (rf_RW ct 0 ma 958 fa), (mu, .inl (ct 1, 42, .inr (.inl su))), (mv, .inl (ct 1, 42, .inr (.inl sv)))] ++ ws) sz)) 0 0 (va_A ([(rf_MO mo mw ma mf m0 m1 mu mv u0 u1 iz th mb mn mpt mbg mwr mwk mlf men), (rf_RW ct 0 mw 958 f), (rf_RW ct 0 ma 958 fa), (mu, .inl (ct 1, 42, .inr (.inl su))), (mv, .inl (ct 1, 42, .inr (.inl sv)))] ++ ws) sz) := by
  refine Met.ofW (cc := cX11_comesBack) (maxL := 1) (ret := none) (by decide) rfl ?_
  intro p e s m args below meth c s₁ B hml hv
  obtain ⟨rfl, hsz, hP, hK, hD0, hX⟩ := hv
  have hx := B.exec
  have hb := B.bytes
  have hr := B.returns
  have hts := ws_all (atoms_spec (ws := ws_ yX11_comesBack cX11_comesBack 1 none) B.pre)
  have hown : s.vm.findClass RX11 = some m.cls := findClass_of_methodNamed B.named
  have hlocks := B.notSynchronized
  subst hsz
  have hD := hD0.self (sz := s.heap.size)
  generalize hAe : va_A ([(rf_MO mo mw ma mf m0 m1 mu mv u0 u1 iz th mb mn mpt mbg mwr mwk mlf men), (rf_RW ct 0 mw 958 f), (rf_RW ct 0 ma 958 fa), (mu, .inl (ct 1, 42, .inr (.inl su))), (mv, .inl (ct 1, 42, .inr (.inl sv)))] ++ ws) s.heap.size = A at hD hX ⊢
  have hA : ∀ q : Nat, s.heap.size ≤ q → A q := fun q h => by rw [← hAe]; exact Or.inr h
  have hS : va_S A s.heap s.heap [] := va_S.rf
  have hl := lv_entry ([.ref mo]) (n := 1) (Nat.le_of_ble_eq_true rfl)
  rw [lg_entry_eq]
  generalize (lg_sl ([.ref mo]) ++ List.replicate (1 - (lg_sl ([.ref mo])).length) Slot.unset).toArray = ls at hl ⊢
  have hl : lv_has ls 1 [(0, .ref mo)] := hl
  refine lv_aload_n hx hb dX11_comesBack_0 rfl (lv_at hl 0 rfl) ?_
  refine va_get (v := .ref ma) (D := D) (ci := 11) (C := RX11) (T := TX11) (N := 19) hx hb hts in_X11 hown hK hP 0 rfl rfl 1 (by decide) (hts _ kl_RX11_13) (fun _ h9 => h9) rfl dX11_comesBack_1 ?_
  refine lv_aload_n hx hb dX11_comesBack_4 rfl (lv_at hl 0 rfl) ?_
  refine va_get (v := .ref mw) (D := D) (ci := 11) (C := RX11) (T := TX11) (N := 19) hx hb hts in_X11 hown hK hP 0 rfl rfl 0 (by decide) (hts _ kl_RX11_9) (fun _ h9 => h9) rfl dX11_comesBack_5 ?_
  obtain ⟨hP, hD⟩ := ty_opPD (E1 := [(rf_MO mo mw ma mf m0 m1 mu mv u0 u1 iz th mb mn mpt mbg mwr mwk mlf men), (mu, .inl (ct 1, 42, .inr (.inl su))), (mv, .inl (ct 1, 42, .inr (.inl sv)))]) (E2 := [(rf_RW ct 0 ma 958 fa), (rf_RW ct 0 mw 958 f)]) (n := 5) [0, 3, 4, 2, 1] hP hD rfl rfl (by decide +kernel) ty_mva
  refine ty_Kv hP hD hS hA (va_runS (As := [.ref ma, .ref mw]) (rest := []) ⟨hx, hb, hml, hown, hts⟩ (m_copies l D ct S ws ph xx ma mw fa f _ hT hph hy1) (cm_S 2 hts kc_X11_copies ki_RX11 kl_RX11_205 ks_X11_copies kd_X11_copies ⟨Nat.le_of_ble_eq_true rfl, Nat.le_of_ble_eq_true rfl⟩) (ty_preS hP hK hD hS hA hX) rfl rfl hl.1 rfl (lv_room (Nat.le_of_ble_eq_true rfl)) dX11_comesBack_8 ⟨Nat.le_of_ble_eq_true rfl, Nat.le_of_ble_eq_true rfl⟩) (fun u H locs hw_2 hP hD hS => ?_)
  obtain ⟨ws_3, h_4⟩ := u
  obtain ⟨hT, hp_5⟩ := hw_2
  have hp_5 : (q_copies fa h_4) ∧ ∀ j : Nat, j < 958 → h_4 j = fa j := hp_5
  obtain ⟨hq_6, hp_7⟩ := hp_5
  obtain ⟨hP, hD⟩ := ty_shPD (w2 := ([(rf_MO mo mw ma mf m0 m1 mu mv u0 u1 iz th mb mn mpt mbg mwr mwk mlf men), (mu, .inl (ct 1, 42, .inr (.inl su))), (mv, .inl (ct 1, 42, .inr (.inl sv))), (rf_RW ct 0 ma 958 fa), (rf_RW ct 0 mw 958 h_4)] ++ ws_3)) hP hD rfl
  refine lv_aload_n hx hb dX11_comesBack_11 rfl (lv_at hl 0 rfl) ?_
  refine va_get (v := .ref mv) (D := D) (ci := 11) (C := RX11) (T := TX11) (N := 19) hx hb hts in_X11 hown hK hP 0 rfl rfl 6 (by decide) (hts _ kl_RX11_29) (fun _ h9 => h9) rfl dX11_comesBack_12 ?_
  refine lv_aload_n hx hb dX11_comesBack_15 rfl (lv_at hl 0 rfl) ?_
  refine va_get (v := .ref mu) (D := D) (ci := 11) (C := RX11) (T := TX11) (N := 19) hx hb hts in_X11 hown hK hP 0 rfl rfl 5 (by decide) (hts _ kl_RX11_25) (fun _ h9 => h9) rfl dX11_comesBack_16 ?_
  obtain ⟨hP, hD⟩ := ty_opPD (E1 := [(rf_MO mo mw ma mf m0 m1 mu mv u0 u1 iz th mb mn mpt mbg mwr mwk mlf men), (rf_RW ct 0 ma 958 fa), (rf_RW ct 0 mw 958 h_4)]) (E2 := [(mv, .inl (ct 1, 42, .inr (.inl sv))), (mu, .inl (ct 1, 42, .inr (.inl su)))]) (n := 5) [0, 3, 4, 2, 1] hP hD rfl rfl (by decide +kernel) ty_mva
  refine ty_Kv hP hD hS hA (va_runS (As := [.ref mv, .ref mu]) (rest := []) ⟨hx, hb, hml, hown, hts⟩ (m_copiesSums l D ct S ws_3 ph xx mv mu sv su _ hT hph hy1 hy11) (cm_S 2 hts kc_X11_copiesSums ki_RX11 kl_RX11_375 ks_X11_copiesSums kd_X11_copiesSums ⟨Nat.le_of_ble_eq_true rfl, Nat.le_of_ble_eq_true rfl⟩) (ty_preS hP hK hD hS hA hX) rfl rfl hl.1 rfl (lv_room (Nat.le_of_ble_eq_true rfl)) dX11_comesBack_19 ⟨Nat.le_of_ble_eq_true rfl, Nat.le_of_ble_eq_true rfl⟩) (fun u H locs hw_9 hP hD hS => ?_)
  obtain ⟨ws_10, sh_11⟩ := u
  obtain ⟨hT, hp_12⟩ := hw_9
  have hp_12 : q_cs sv sh_11 := hp_12
  obtain ⟨hP, hD⟩ := ty_shPD (w2 := ([(rf_MO mo mw ma mf m0 m1 mu mv u0 u1 iz th mb mn mpt mbg mwr mwk mlf men), (rf_RW ct 0 ma 958 fa), (rf_RW ct 0 mw 958 h_4), (mv, .inl (ct 1, 42, .inr (.inl sv))), (mu, .inl (ct 1, 42, .inr (.inl sh_11)))] ++ ws_10)) hP hD rfl
  obtain ⟨hP, hD⟩ := ty_ordPD (E2 := [(rf_MO mo mw ma mf m0 m1 mu mv u0 u1 iz th mb mn mpt mbg mwr mwk mlf men), (rf_RW ct 0 mw 958 h_4), (rf_RW ct 0 ma 958 fa), (mu, .inl (ct 1, 42, .inr (.inl sh_11))), (mv, .inl (ct 1, 42, .inr (.inl sv)))]) (n := 5) [0, 2, 1, 4, 3] hP hD rfl rfl (by decide +kernel)
  exact W.vret hx hb hr (fun t ht hW => ⟨⟨(ws_10, h_4, sh_11), rfl, ⟨hT, ⟨rf_Req hRa hp_7, rf_dse hp_7, hp_7, hp_12⟩⟩, by rw [ht]; exact hP, by rw [hAe]; exact hD⟩, hS.F ht⟩) hS.2.2 dX11_comesBack_22
