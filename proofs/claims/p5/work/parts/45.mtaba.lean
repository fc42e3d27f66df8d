set_option maxRecDepth 100000 in
set_option maxHeartbeats 4000000 in
theorem m_X11_recorded (l : Launch) (D : va_G) (ct : Nat → ClassId) (S : ty_S) (ws : va_W) (ph : va_W → Prop) (xx : Nat → Nat → Nat → Prop) (mo : Nat) (mw : Nat) (ma : Nat) (mf : Nat) (m0 : Nat) (m1 : Nat) (mu : Nat) (mv : Nat) (u0 : Nat) (u1 : Nat) (iz : Nat) (mb : Nat) (th : Int32) (mn : Int32) (mpt : Int32) (mbg : Int32) (mwr : Int32) (mwk : Int32) (mlf : Int32) (men : Int32) (f : Nat → Int32) (G : Nat → Int32) (cx : Int) (p1 : Int32) (p2 : Int32) (sz : Nat) (hT : ty_V ct S ph ws) (hph : ty_C ph xx) (hy1 : ty_y1 xx) (hR : rf_R G cx f) (hi0 : 0 ≤ p1.toInt ∧ p1.toInt ≤ 29) (hw : 0 ≤ p2.toInt ∧ p2.toInt ≤ 4) : Met l yX11_recorded (ws_ yX11_recorded cX11_recorded 3 (some .int)) ({ frames := 0, cells := 0, slots := 0, locals := 0 } : Room) (va_Pc [.ref mo, .int p1, .int p2] (cmP D ct sz ([(rf_MO mo mw ma mf m0 m1 mu mv u0 u1 iz th mb mn mpt mbg mwr mwk mlf men), (rf_RW ct 0 mw 958 f)] ++ ws))) (va_Qi (fun (r : Int32) (u9 : va_W) => ty_V ct S ph u9 ∧ r = (f (568 + 5 * p1.toInt.toNat + p2.toInt.toNat))) (cmB D ([(rf_MO mo mw ma mf m0 m1 mu mv u0 u1 iz th mb mn mpt mbg mwr mwk mlf men), (rf_RW ct 0 mw 958 f)] ++ ws) sz (fun (u9 : va_W) => ([(rf_MO mo mw ma mf m0 m1 mu mv u0 u1 iz th mb mn mpt mbg mwr mwk mlf men), (rf_RW ct 0 mw 958 f)] ++ u9))) (va_A ([(rf_MO mo mw ma mf m0 m1 mu mv u0 u1 iz th mb mn mpt mbg mwr mwk mlf men), (rf_RW ct 0 mw 958 f)] ++ ws) sz)) 0 0 (va_A ([(rf_MO mo mw ma mf m0 m1 mu mv u0 u1 iz th mb mn mpt mbg mwr mwk mlf men), (rf_RW ct 0 mw 958 f)] ++ ws) sz) := by
  refine Met.ofW (cc := cX11_recorded) (maxL := 3) (ret := (some .int)) (by decide) rfl ?_
  intro p e s m args below meth c s₁ B hml hv
  obtain ⟨rfl, hsz, hP, hK, hD0, hX⟩ := hv
  have hx := B.exec
  have hb := B.bytes
  have hr := B.returns
  have hts := ws_all (atoms_spec (ws := ws_ yX11_recorded cX11_recorded 3 (some .int)) B.pre)
  have hown : s.vm.findClass RX11 = some m.cls := findClass_of_methodNamed B.named
  have hlocks := B.notSynchronized
  subst hsz
  have hD := hD0.self (sz := s.heap.size)
  generalize hAe : va_A ([(rf_MO mo mw ma mf m0 m1 mu mv u0 u1 iz th mb mn mpt mbg mwr mwk mlf men), (rf_RW ct 0 mw 958 f)] ++ ws) s.heap.size = A at hD hX ⊢
  have hA : ∀ q : Nat, s.heap.size ≤ q → A q := fun q h => by rw [← hAe]; exact Or.inr h
  have hS : va_S A s.heap s.heap [] := va_S.rf
  have hl := lv_entry ([.ref mo, .int p1, .int p2]) (n := 3) (Nat.le_of_ble_eq_true rfl)
  rw [lg_entry_eq]
  generalize (lg_sl ([.ref mo, .int p1, .int p2]) ++ List.replicate (3 - (lg_sl ([.ref mo, .int p1, .int p2])).length) Slot.unset).toArray = ls at hl ⊢
  have hl : lv_has ls 3 [(0, .ref mo), (1, .int p1), (2, .int p2)] := hl
  refine lv_aload_n hx hb dX11_recorded_0 rfl (lv_at hl 0 rfl) ?_
  refine va_get (v := .ref mw) (D := D) (ci := 11) (C := RX11) (T := TX11) (N := 19) hx hb hts in_X11 hown hK hP 0 rfl rfl 0 (by decide) (hts _ kl_RX11_9) (fun _ h9 => h9) rfl dX11_recorded_1 ?_
  refine lv_sipush (v := 568) hx hb dX11_recorded_4 (by decide) ?_
  refine lv_iconst (v := 5) hx hb dX11_recorded_7 (by decide) ?_
  refine lv_iload_n hx hb dX11_recorded_8 rfl (lv_at hl 1 rfl) ?_
  refine lv_imul hx hb dX11_recorded_9 ?_
  refine lv_iadd hx hb dX11_recorded_10 ?_
  refine lv_iload_n hx hb dX11_recorded_11 rfl (lv_at hl 2 rfl) ?_
  refine lv_iadd hx hb dX11_recorded_12 ?_
  refine va_iald hx hb hK hP 1 0 rfl rfl (rf_rix (A := 568) (B := 5) (N := 29) (by decide) (by decide) hi0 (by omega) (by omega) (by omega) (by omega) (by omega) (by omega)) dX11_recorded_13 ?_
  exact W.iret (v := (f ((568 + (5 * p1)) + p2).toNatClampNeg)) hx hb hr (fun t ht hW => ⟨⟨(f ((568 + (5 * p1)) + p2).toNatClampNeg), ws, rfl, ⟨hT, (congrArg f (rf_nat (rf_rixe hi0 hw)))⟩, by rw [ht]; exact hP, by rw [hAe]; exact hD⟩, hS.F ht⟩) hS.2.2 dX11_recorded_14
def q_X11_isCounting (f : Nat → Int32) (p1 : Int32) (p2 : Int32) (r : Int32) : Prop := ((¬ (f (568 + 5 * p1.toInt.toNat + (0 : Int32).toInt.toNat)) = p2 ∧ (r = 0)) ∨ ((f (568 + 5 * p1.toInt.toNat + (0 : Int32).toInt.toNat)) = p2 ∧ ((¬ (f (568 + 5 * p1.toInt.toNat + (4 : Int32).toInt.toNat)) = (1 : Int32) ∧ (r = 0)) ∨ ((f (568 + 5 * p1.toInt.toNat + (4 : Int32).toInt.toNat)) = (1 : Int32) ∧ (r = 1)))))
set_option maxRecDepth 100000 in
set_option maxHeartbeats 4000000 in
theorem m_X11_isCounting (l : Launch) (D : va_G) (ct : Nat → ClassId) (S : ty_S) (ws : va_W) (ph : va_W → Prop) (xx : Nat → Nat → Nat → Prop) (mo : Nat) (mw : Nat) (ma : Nat) (mf : Nat) (m0 : Nat) (m1 : Nat) (mu : Nat) (mv : Nat) (u0 : Nat) (u1 : Nat) (iz : Nat) (mb : Nat) (th : Int32) (mn : Int32) (mpt : Int32) (mbg : Int32) (mwr : Int32) (mwk : Int32) (mlf : Int32) (men : Int32) (f : Nat → Int32) (G : Nat → Int32) (cx : Int) (p1 : Int32) (p2 : Int32) (sz : Nat) (hT : ty_V ct S ph ws) (hph : ty_C ph xx) (hy1 : ty_y1 xx) (hR : rf_R G cx f) (hi0 : 0 ≤ p1.toInt ∧ p1.toInt ≤ 29) : Met l yX11_isCounting (ws_ yX11_isCounting cX11_isCounting 3 (some .boolean)) ({ frames := 1, cells := 0, slots := 0, locals := 22 } : Room) (va_Pc [.ref mo, .int p1, .int p2] (cmP D ct sz ([(rf_MO mo mw ma mf m0 m1 mu mv u0 u1 iz th mb mn mpt mbg mwr mwk mlf men), (rf_RW ct 0 mw 958 f)] ++ ws))) (va_Qi (fun (r : Int32) (u9 : va_W) => ty_V ct S ph u9 ∧ (q_X11_isCounting f p1 p2 r)) (cmB D ([(rf_MO mo mw ma mf m0 m1 mu mv u0 u1 iz th mb mn mpt mbg mwr mwk mlf men), (rf_RW ct 0 mw 958 f)] ++ ws) sz (fun (u9 : va_W) => ([(rf_MO mo mw ma mf m0 m1 mu mv u0 u1 iz th mb mn mpt mbg mwr mwk mlf men), (rf_RW ct 0 mw 958 f)] ++ u9))) (va_A ([(rf_MO mo mw ma mf m0 m1 mu mv u0 u1 iz th mb mn mpt mbg mwr mwk mlf men), (rf_RW ct 0 mw 958 f)] ++ ws) sz)) 0 0 (va_A ([(rf_MO mo mw ma mf m0 m1 mu mv u0 u1 iz th mb mn mpt mbg mwr mwk mlf men), (rf_RW ct 0 mw 958 f)] ++ ws) sz) := by
  refine Met.ofW (cc := cX11_isCounting) (maxL := 3) (ret := (some .boolean)) (by decide) rfl ?_
  intro p e s m args below meth c s₁ B hml hv
  obtain ⟨rfl, hsz, hP, hK, hD0, hX⟩ := hv
  have hx := B.exec
  have hb := B.bytes
  have hr := B.returns
  have hts := ws_all (atoms_spec (ws := ws_ yX11_isCounting cX11_isCounting 3 (some .boolean)) B.pre)
  have hown : s.vm.findClass RX11 = some m.cls := findClass_of_methodNamed B.named
  have hlocks := B.notSynchronized
  subst hsz
  have hD := hD0.self (sz := s.heap.size)
  generalize hAe : va_A ([(rf_MO mo mw ma mf m0 m1 mu mv u0 u1 iz th mb mn mpt mbg mwr mwk mlf men), (rf_RW ct 0 mw 958 f)] ++ ws) s.heap.size = A at hD hX ⊢
  have hA : ∀ q : Nat, s.heap.size ≤ q → A q := fun q h => by rw [← hAe]; exact Or.inr h
  have hS : va_S A s.heap s.heap [] := va_S.rf
  have hl := lv_entry ([.ref mo, .int p1, .int p2]) (n := 3) (Nat.le_of_ble_eq_true rfl)
  rw [lg_entry_eq]
  generalize (lg_sl ([.ref mo, .int p1, .int p2]) ++ List.replicate (3 - (lg_sl ([.ref mo, .int p1, .int p2])).length) Slot.unset).toArray = ls at hl ⊢
  have hl : lv_has ls 3 [(0, .ref mo), (1, .int p1), (2, .int p2)] := hl
  refine lv_aload_n hx hb dX11_isCounting_0 rfl (lv_at hl 0 rfl) ?_
  refine lv_iload_n hx hb dX11_isCounting_1 rfl (lv_at hl 1 rfl) ?_
  refine lv_iconst (v := 0) hx hb dX11_isCounting_2 (by decide) ?_
  obtain ⟨hP, hD⟩ := ty_ipPD (E1 := []) (E2 := [(rf_MO mo mw ma mf m0 m1 mu mv u0 u1 iz th mb mn mpt mbg mwr mwk mlf men), (rf_RW ct 0 mw 958 f)]) hP hD rfl ty_mva
  refine ty_Ki hP hD hS hA (va_runV (As := [.int p1, .int 0]) (rest := []) ⟨hx, hb, hml, hown, hts⟩ (m_X11_recorded l D ct S ws ph xx mo mw ma mf m0 m1 mu mv u0 u1 iz mb th mn mpt mbg mwr mwk mlf men f G cx p1 (0 : Int32) _ hT hph hy1 hR hi0 (by decide)) (cm_V 2 hts kc_X11_recorded ki_RX11 kl_RX11_369 kv_X11_recorded kx_X11_recorded kd_X11_recorded ⟨Nat.le_of_ble_eq_true rfl, Nat.le_of_ble_eq_true rfl⟩) (ty_preE (ci := 11) (q0 := 0) hP hK hD hS hA hX rfl rfl) rfl rfl hl.1 rfl (lv_room (Nat.le_of_ble_eq_true rfl)) dX11_isCounting_3 ⟨Nat.le_of_ble_eq_true rfl, Nat.le_of_ble_eq_true rfl⟩) (fun r_1 u H locs hw_2 hP hD hS => ?_)
  obtain ⟨ws_3, rfl⟩ : ∃ z, z = u := ⟨_, rfl⟩
  obtain ⟨hT, rfl⟩ := hw_2
  obtain ⟨hP, hD⟩ := ty_shPD (w2 := ([(rf_MO mo mw ma mf m0 m1 mu mv u0 u1 iz th mb mn mpt mbg mwr mwk mlf men), (rf_RW ct 0 mw 958 f)] ++ ws_3)) hP hD rfl
  refine lv_iload_n hx hb dX11_isCounting_6 rfl (lv_at hl 2 rfl) ?_
  refine lv_icmp_ne (tgt := 24) hx hb dX11_isCounting_7 (by decide) (fun hc_4 => ?_) (fun hc_4 => ?_)
  · refine lv_iconst (v := 0) hx hb dX11_isCounting_24 (by decide) ?_
    exact W.zret (v := 0) hx hb hr (by decide) (fun t ht hW => ⟨⟨0, ws_3, rfl, ⟨hT, (Or.inl ⟨hc_4, rfl⟩)⟩, by rw [ht]; exact hP, by rw [hAe]; exact hD⟩, hS.F ht⟩) hS.2.2 dX11_isCounting_25
  · refine lv_aload_n hx hb dX11_isCounting_10 rfl (lv_at hl 0 rfl) ?_
    refine lv_iload_n hx hb dX11_isCounting_11 rfl (lv_at hl 1 rfl) ?_
    refine lv_iconst (v := 4) hx hb dX11_isCounting_12 (by decide) ?_
    obtain ⟨hP, hD⟩ := ty_ipPD (E1 := []) (E2 := [(rf_MO mo mw ma mf m0 m1 mu mv u0 u1 iz th mb mn mpt mbg mwr mwk mlf men), (rf_RW ct 0 mw 958 f)]) hP hD rfl ty_mva
    refine ty_Ki hP hD hS hA (va_runV (As := [.int p1, .int 4]) (rest := []) ⟨hx, hb, hml, hown, hts⟩ (m_X11_recorded l D ct S ws_3 ph xx mo mw ma mf m0 m1 mu mv u0 u1 iz mb th mn mpt mbg mwr mwk mlf men f G cx p1 (4 : Int32) _ hT hph hy1 hR hi0 (by decide)) (cm_V 2 hts kc_X11_recorded ki_RX11 kl_RX11_369 kv_X11_recorded kx_X11_recorded kd_X11_recorded ⟨Nat.le_of_ble_eq_true rfl, Nat.le_of_ble_eq_true rfl⟩) (ty_preE (ci := 11) (q0 := 0) hP hK hD hS hA hX rfl rfl) rfl rfl hl.1 rfl (lv_room (Nat.le_of_ble_eq_true rfl)) dX11_isCounting_13 ⟨Nat.le_of_ble_eq_true rfl, Nat.le_of_ble_eq_true rfl⟩) (fun r_5 u H locs hw_6 hP hD hS => ?_)
    obtain ⟨ws_7, rfl⟩ : ∃ z, z = u := ⟨_, rfl⟩
    obtain ⟨hT, rfl⟩ := hw_6
    obtain ⟨hP, hD⟩ := ty_shPD (w2 := ([(rf_MO mo mw ma mf m0 m1 mu mv u0 u1 iz th mb mn mpt mbg mwr mwk mlf men), (rf_RW ct 0 mw 958 f)] ++ ws_7)) hP hD rfl
    refine lv_iconst (v := 1) hx hb dX11_isCounting_16 (by decide) ?_
    refine lv_icmp_ne (tgt := 24) hx hb dX11_isCounting_17 (by decide) (fun hc_8 => ?_) (fun hc_8 => ?_)
    · refine lv_iconst (v := 0) hx hb dX11_isCounting_24 (by decide) ?_
      exact W.zret (v := 0) hx hb hr (by decide) (fun t ht hW => ⟨⟨0, ws_7, rfl, ⟨hT, (Or.inr ⟨hc_4, (Or.inl ⟨hc_8, rfl⟩)⟩)⟩, by rw [ht]; exact hP, by rw [hAe]; exact hD⟩, hS.F ht⟩) hS.2.2 dX11_isCounting_25
    · refine lv_iconst (v := 1) hx hb dX11_isCounting_20 (by decide) ?_
      refine lv_goto (tgt := 25) hx hb dX11_isCounting_21 (by decide) ?_
      exact W.zret (v := 1) hx hb hr (by decide) (fun t ht hW => ⟨⟨1, ws_7, rfl, ⟨hT, (Or.inr ⟨hc_4, (Or.inr ⟨hc_8, rfl⟩)⟩)⟩, by rw [ht]; exact hP, by rw [hAe]; exact hD⟩, hS.F ht⟩) hS.2.2 dX11_isCounting_25
def q_cg (f : Nat → Int32) (c : Int32) : Nat → Int32 → Prop
  | 0, m => m = 0
  | n + 1, m => ∃ m2 r : Int32, q_cg f c n m2 ∧ q_X11_isCounting f (Int32.ofNat n) c r ∧ ((r = 0 ∧ m = m2 + 0) ∨ (¬ r = 0 ∧ m = m2 + 1))
theorem q_cgs {f : Nat → Int32} {c y m p m1 r : Int32} (h0 : 0 ≤ y.toInt) (h : ¬ p ≤ y) (e : q_cg f c y.toInt.toNat m) (q : q_X11_isCounting f y c r) (d : (r = 0 ∧ m1 = m + 0) ∨ (¬ r = 0 ∧ m1 = m + 1)) : q_cg f c (y + Int32.ofInt 1).toInt.toNat m1 := by
  rw [q_y1 h0 h]
  exact ⟨m, r, e, by rw [q_ofn h0]; exact q, d⟩
def q_ls (f : Nat → Int32) (c : Int32) : Nat → Int32 → Int32 → Prop
  | 0, a, b => a = -1 ∧ b = -1
  | n + 1, a, b => ∃ a2 b2 r : Int32, q_ls f c n a2 b2 ∧ q_X11_isCounting f (Int32.ofNat n) c r ∧ ((r = 0 ∧ a = a2 ∧ b = b2) ∨ (¬ r = 0 ∧ ((a2 = -1 ∧ a = Int32.ofNat n) ∨ (¬ a2 = -1 ∧ a = a2)) ∧ b = Int32.ofNat n))
theorem q_lss {f : Nat → Int32} {c y p a b a1 b1 r : Int32} (h0 : 0 ≤ y.toInt) (h : ¬ p ≤ y) (e : q_ls f c y.toInt.toNat a b) (q : q_X11_isCounting f y c r) (d : (r = 0 ∧ a1 = a ∧ b1 = b) ∨ (¬ r = 0 ∧ ((a = -1 ∧ a1 = y) ∨ (¬ a = -1 ∧ a1 = a)) ∧ b1 = y)) : q_ls f c (y + Int32.ofInt 1).toInt.toNat a1 b1 := by
  rw [q_y1 h0 h]
  refine ⟨a, b, r, e, by rw [q_ofn h0]; exact q, ?_⟩
  rw [q_ofn h0]
  exact d
def q_wk (f : Nat → Int32) : Nat → Int32 → Prop
  | 0, b => b = -1
  | n + 1, b => ∃ b2 : Int32, q_wk f n b2 ∧ ((b2 = -1 ∧ b = Int32.ofNat n) ∨ (¬ b2 = -1 ∧ ∃ r1 r2 : Int32, q_X11_share f (Int32.ofNat n) r1 ∧ q_X11_share f b2 r2 ∧ ((r1 < r2 ∧ b = Int32.ofNat n) ∨ (r2 ≤ r1 ∧ b = b2))))
theorem q_wks {f : Nat → Int32} {y p b b1 : Int32} (h0 : 0 ≤ y.toInt) (h : ¬ p ≤ y) (e : q_wk f y.toInt.toNat b) (d : (b = -1 ∧ b1 = y) ∨ (¬ b = -1 ∧ ∃ r1 r2 : Int32, q_X11_share f y r1 ∧ q_X11_share f b r2 ∧ ((r1 < r2 ∧ b1 = y) ∨ (r2 ≤ r1 ∧ b1 = b)))) : q_wk f (y + Int32.ofInt 1).toInt.toNat b1 := by
  rw [q_y1 h0 h]
  refine ⟨b, e, ?_⟩
  rw [q_ofn h0]
  exact d
def q_ht (f : Nat → Int32) : Nat → Int32 → Prop
  | 0, b => b = -1
  | n + 1, b => ∃ b2 : Int32, q_ht f n b2 ∧ ((b2 = -1 ∧ b = Int32.ofNat n) ∨ (¬ b2 = -1 ∧ ((¬ rf_of f (Int32.ofNat n) 9 ≤ rf_of f b2 9 ∧ b = Int32.ofNat n) ∨ (rf_of f (Int32.ofNat n) 9 ≤ rf_of f b2 9 ∧ b = b2))))
theorem q_hts {f : Nat → Int32} {y p b b1 : Int32} (h0 : 0 ≤ y.toInt) (h : ¬ p ≤ y) (e : q_ht f y.toInt.toNat b) (d : (b = -1 ∧ b1 = y) ∨ (¬ b = -1 ∧ ((¬ rf_of f y 9 ≤ rf_of f b 9 ∧ b1 = y) ∨ (rf_of f y 9 ≤ rf_of f b 9 ∧ b1 = b)))) : q_ht f (y + Int32.ofInt 1).toInt.toNat b1 := by
  rw [q_y1 h0 h]
  refine ⟨b, e, ?_⟩
  rw [q_ofn h0]
  exact d
def q_X11_counting (f : Nat → Int32) (G : Nat → Int32) (p1 : Int32) (r : Int32) (th1 : Int32) : Prop := (∃ (th1_4 : Int32), True ∧ ((((0 ≤ p1.toInt ∧ p1.toInt < (G 9).toInt) ∧ th1_4 = 0) ∧ (∃ (y_9 : Int32) (y_10 : Int32), ((0 ≤ y_10.toInt ∧ y_10.toInt ≤ (f 12).toInt) ∧ q_cg f p1 y_10.toInt.toNat y_9) ∧ ((f 12) ≤ y_10 ∧ (r = y_9 ∧ th1 = 0)))) ∨ ((¬ (0 ≤ p1.toInt ∧ p1.toInt < (G 9).toInt) ∧ th1_4 = 1) ∧ (r = 0 ∧ th1 = 1))))
set_option maxRecDepth 100000 in
set_option maxHeartbeats 4000000 in
theorem m_X11_counting (l : Launch) (D : va_G) (ct : Nat → ClassId) (S : ty_S) (ws : va_W) (ph : va_W → Prop) (xx : Nat → Nat → Nat → Prop) (mo : Nat) (mw : Nat) (ma : Nat) (mf : Nat) (m0 : Nat) (m1 : Nat) (mu : Nat) (mv : Nat) (u0 : Nat) (u1 : Nat) (iz : Nat) (mb : Nat) (th : Int32) (mn : Int32) (mpt : Int32) (mbg : Int32) (mwr : Int32) (mwk : Int32) (mlf : Int32) (men : Int32) (f : Nat → Int32) (G : Nat → Int32) (cx : Int) (p1 : Int32) (sz : Nat) (hT : ty_V ct S ph ws) (hph : ty_C ph xx) (hy1 : ty_y1 xx) (hR : rf_R G cx f) : Met l yX11_counting (ws_ yX11_counting cX11_counting 4 (some .int)) ({ frames := 2, cells := 0, slots := 0, locals := 46 } : Room) (va_Pc [.ref mo, .int p1] (cmP D ct sz ([(rf_MO mo mw ma mf m0 m1 mu mv u0 u1 iz th mb mn mpt mbg mwr mwk mlf men), (rf_RW ct 0 mw 958 f)] ++ ws))) (va_Qi (fun (r : Int32) (u : va_W × Int32) => match u with | (u9, th1) => ty_V ct S ph u9 ∧ (q_X11_counting f G p1 r th1)) (cmB D ([(rf_MO mo mw ma mf m0 m1 mu mv u0 u1 iz th mb mn mpt mbg mwr mwk mlf men), (rf_RW ct 0 mw 958 f)] ++ ws) sz (fun (u : va_W × Int32) => match u with | (u9, th1) => ([(rf_MO mo mw ma mf m0 m1 mu mv u0 u1 iz th1 mb mn mpt mbg mwr mwk mlf men), (rf_RW ct 0 mw 958 f)] ++ u9))) (va_A ([(rf_MO mo mw ma mf m0 m1 mu mv u0 u1 iz th mb mn mpt mbg mwr mwk mlf men), (rf_RW ct 0 mw 958 f)] ++ ws) sz)) 0 0 (va_A ([(rf_MO mo mw ma mf m0 m1 mu mv u0 u1 iz th mb mn mpt mbg mwr mwk mlf men), (rf_RW ct 0 mw 958 f)] ++ ws) sz) := by
  refine Met.ofW (cc := cX11_counting) (maxL := 4) (ret := (some .int)) (by decide) rfl ?_
  intro p e s m args below meth c s₁ B hml hv
  obtain ⟨rfl, hsz, hP, hK, hD0, hX⟩ := hv
  have hx := B.exec
  have hb := B.bytes
  have hr := B.returns
  have hts := ws_all (atoms_spec (ws := ws_ yX11_counting cX11_counting 4 (some .int)) B.pre)
  have hown : s.vm.findClass RX11 = some m.cls := findClass_of_methodNamed B.named
  have hlocks := B.notSynchronized
  subst hsz
  have hD := hD0.self (sz := s.heap.size)
  generalize hAe : va_A ([(rf_MO mo mw ma mf m0 m1 mu mv u0 u1 iz th mb mn mpt mbg mwr mwk mlf men), (rf_RW ct 0 mw 958 f)] ++ ws) s.heap.size = A at hD hX ⊢
  have hA : ∀ q : Nat, s.heap.size ≤ q → A q := fun q h => by rw [← hAe]; exact Or.inr h
  have hS : va_S A s.heap s.heap [] := va_S.rf
  have hl := lv_entry ([.ref mo, .int p1]) (n := 4) (Nat.le_of_ble_eq_true rfl)
  rw [lg_entry_eq]
  generalize (lg_sl ([.ref mo, .int p1]) ++ List.replicate (4 - (lg_sl ([.ref mo, .int p1])).length) Slot.unset).toArray = ls at hl ⊢
  have hl : lv_has ls 4 [(0, .ref mo), (1, .int p1)] := hl
  refine lv_aload_n hx hb dX11_counting_0 rfl (lv_at hl 0 rfl) ?_
  refine lv_iload_n hx hb dX11_counting_1 rfl (lv_at hl 1 rfl) ?_
  obtain ⟨hP, hD⟩ := ty_ipPD (E1 := []) (E2 := [(rf_MO mo mw ma mf m0 m1 mu mv u0 u1 iz th mb mn mpt mbg mwr mwk mlf men), (rf_RW ct 0 mw 958 f)]) hP hD rfl ty_mva
  refine ty_Ki hP hD hS hA (va_runV (As := [.int p1]) (rest := []) ⟨hx, hb, hml, hown, hts⟩ (m_X11_noChannel l D ct S ws ph xx mo mw ma mf m0 m1 mu mv u0 u1 iz mb th mn mpt mbg mwr mwk mlf men f G cx p1 _ hT hph hy1 hR) (cm_V 1 hts kc_X11_noChannel ki_RX11 kl_RX11_344 kv_X11_noChannel kx_X11_noChannel kd_X11_noChannel ⟨Nat.le_of_ble_eq_true rfl, Nat.le_of_ble_eq_true rfl⟩) (ty_preE (ci := 11) (q0 := 0) hP hK hD hS hA hX rfl rfl) rfl rfl hl.1 rfl (lv_room (Nat.le_of_ble_eq_true rfl)) dX11_counting_2 ⟨Nat.le_of_ble_eq_true rfl, Nat.le_of_ble_eq_true rfl⟩) (fun r_1 u H locs hw_2 hP hD hS => ?_)
  obtain ⟨ws_3, th1_4⟩ := u
  obtain ⟨hT, hp_5⟩ := hw_2
  have hp_5 : ((r_1 = 0 ∧ (0 ≤ p1.toInt ∧ p1.toInt < (G 9).toInt) ∧ th1_4 = 0) ∨ (r_1 = 1 ∧ ¬ (0 ≤ p1.toInt ∧ p1.toInt < (G 9).toInt) ∧ th1_4 = 1)) := hp_5
  obtain ⟨hP, hD⟩ := ty_shPD (w2 := ([(rf_MO mo mw ma mf m0 m1 mu mv u0 u1 iz th1_4 mb mn mpt mbg mwr mwk mlf men), (rf_RW ct 0 mw 958 f)] ++ ws_3)) hP hD rfl
  rcases hp_5 with ⟨rfl, hz_6⟩ | ⟨rfl, hz_7⟩
  · have he_8 := hz_6.2
    have hP : va_P D vwCl ([(rf_MO mo mw ma mf m0 m1 mu mv u0 u1 iz (0) mb mn mpt mbg mwr mwk mlf men), (rf_RW ct 0 mw 958 f)] ++ ws_3) H := by rw [he_8] at hP; exact hP
    have hD : va_D A ([(rf_MO mo mw ma mf m0 m1 mu mv u0 u1 iz (0) mb mn mpt mbg mwr mwk mlf men), (rf_RW ct 0 mw 958 f)] ++ ws_3) := by rw [he_8] at hD; exact hD
    refine lv_if_eq (tgt := 10) hx hb dX11_counting_5 (by decide) (fun _ => ?_) (fun hc => absurd (by decide) hc)
    refine lv_iconst (v := 0) hx hb dX11_counting_10 (by decide) ?_
    refine lv_istore_n (lv' := [(2, .int 0), (0, .ref mo), (1, .int p1)]) hx hb dX11_counting_11 rfl hl (by decide) rfl (fun ls hl => ?_)
    refine lv_iconst (v := 0) hx hb dX11_counting_12 (by decide) ?_
    refine lv_istore_n (lv' := [(3, .int 0), (2, .int 0), (0, .ref mo), (1, .int p1)]) hx hb dX11_counting_13 rfl hl (by decide) rfl (fun ls hl => ?_)
    refine ty_loop (I := fun μ H locs ls => ∃ (ws : va_W) (y_9 : Int32) (y_10 : Int32), μ = (2147483648 - y_10.toInt).toNat ∧ ty_V ct S ph ws ∧ va_P D vwCl ([(rf_MO mo mw ma mf m0 m1 mu mv u0 u1 iz (0) mb mn mpt mbg mwr mwk mlf men), (rf_RW ct 0 mw 958 f)] ++ ws) H ∧ va_D A ([(rf_MO mo mw ma mf m0 m1 mu mv u0 u1 iz (0) mb mn mpt mbg mwr mwk mlf men), (rf_RW ct 0 mw 958 f)] ++ ws) ∧ va_S A s.heap H locs ∧ lv_has ls 4 [(0, .ref mo), (1, .int p1), (2, .int y_9), (3, .int y_10)] ∧ (0 ≤ y_10.toInt ∧ y_10.toInt ≤ (f 12).toInt) ∧ q_cg f p1 y_10.toInt.toNat y_9) ⟨_, ws_3, (0 : Int32), (0 : Int32), rfl, hT, hP, hD, hS, (lv_sub hl [2, 3, 1, 0] rfl), ⟨⟨by decide, (by have := hR.2.2.1.1; have z : (0 : Int32).toInt = 0 := (by decide); omega)⟩, rfl⟩⟩ (fun μ H locs ls hI ih_14 => ?_)
    obtain ⟨ws, y_9, y_10, rfl, hT, hP, hD, hS, hl, hex_14⟩ := hI
    refine lv_iload_n hx hb dX11_counting_14 rfl (lv_at hl 3 rfl) ?_
    refine lv_aload_n hx hb dX11_counting_15 rfl (lv_at hl 0 rfl) ?_
    refine va_get (v := .ref mw) (D := D) (ci := 11) (C := RX11) (T := TX11) (N := 19) hx hb hts in_X11 hown hK hP 0 rfl rfl 0 (by decide) (hts _ kl_RX11_9) (fun _ h9 => h9) rfl dX11_counting_16 ?_
    refine lv_bipush (v := 12) hx hb dX11_counting_19 (by decide) ?_
    refine va_iald hx hb hK hP 1 0 rfl rfl (cm_vin (by decide)) dX11_counting_21 ?_
    refine cm_cst (y := (f 12)) (by first | rfl | decide +kernel) ?_
    refine lv_icmp_ge (tgt := 48) hx hb dX11_counting_22 (by decide) (fun hc_11 => ?_) (fun hc_11 => ?_)
    · refine lv_iload_n hx hb dX11_counting_48 rfl (lv_at hl 2 rfl) ?_
      exact W.iret (v := y_9) hx hb hr (fun t ht hW => ⟨⟨y_9, (ws, (0 : Int32)), rfl, ⟨hT, ⟨th1_4, trivial, (Or.inl ⟨hz_6, ⟨y_9, y_10, hex_14, ⟨hc_11, ⟨rfl, rfl⟩⟩⟩⟩)⟩⟩, by rw [ht]; exact hP, by rw [hAe]; exact hD⟩, hS.F ht⟩) hS.2.2 dX11_counting_49
    · refine lv_iload_n hx hb dX11_counting_25 rfl (lv_at hl 2 rfl) ?_
      refine lv_aload_n hx hb dX11_counting_26 rfl (lv_at hl 0 rfl) ?_
      refine lv_iload_n hx hb dX11_counting_27 rfl (lv_at hl 3 rfl) ?_
      refine lv_iload_n hx hb dX11_counting_28 rfl (lv_at hl 1 rfl) ?_
      obtain ⟨hP, hD⟩ := ty_ipPD (E1 := []) (E2 := [(rf_MO mo mw ma mf m0 m1 mu mv u0 u1 iz (0) mb mn mpt mbg mwr mwk mlf men), (rf_RW ct 0 mw 958 f)]) hP hD rfl ty_mva
      refine ty_Ki hP hD hS hA (va_runV (As := [.int y_10, .int p1]) (rest := [.int y_9]) ⟨hx, hb, hml, hown, hts⟩ (m_X11_isCounting l D ct S ws ph xx mo mw ma mf m0 m1 mu mv u0 u1 iz mb (0 : Int32) mn mpt mbg mwr mwk mlf men f G cx y_10 p1 _ hT hph hy1 hR (by have := hex_14.1; have := hR.2.2.1.1; have := rf_ylt rfl hc_11; omega)) (cm_V 2 hts kc_X11_isCounting ki_RX11 kl_RX11_372 kv_X11_isCounting kx_X11_isCounting kd_X11_isCounting ⟨Nat.le_of_ble_eq_true rfl, Nat.le_of_ble_eq_true rfl⟩) (ty_preE (ci := 11) (q0 := 0) hP hK hD hS hA hX rfl rfl) rfl rfl hl.1 rfl (lv_room (Nat.le_of_ble_eq_true rfl)) dX11_counting_29 ⟨Nat.le_of_ble_eq_true rfl, Nat.le_of_ble_eq_true rfl⟩) (fun r_12 u H locs hw_13 hP hD hS => ?_)
      obtain ⟨ws_14, rfl⟩ : ∃ z, z = u := ⟨_, rfl⟩
      obtain ⟨hT, hp_15⟩ := hw_13
      have hp_15 : (q_X11_isCounting f y_10 p1 r_12) := hp_15
      obtain ⟨hP, hD⟩ := ty_shPD (w2 := ([(rf_MO mo mw ma mf m0 m1 mu mv u0 u1 iz (0) mb mn mpt mbg mwr mwk mlf men), (rf_RW ct 0 mw 958 f)] ++ ws_14)) hP hD rfl
      refine lv_if_eq (tgt := 39) hx hb dX11_counting_32 (by decide) (fun hc_18 => ?_) (fun hc_18 => ?_)
      · refine lv_iconst (v := 0) hx hb dX11_counting_39 (by decide) ?_
        refine lv_iadd hx hb dX11_counting_40 ?_
        refine lv_istore_n (lv' := [(2, .int (y_9 + 0)), (0, .ref mo), (1, .int p1), (3, .int y_10)]) hx hb dX11_counting_41 rfl hl (by decide) rfl (fun ls hl => ?_)
        refine lv_iinc (v := (y_10 + Int32.ofInt 1)) (lv' := [(3, .int (y_10 + Int32.ofInt 1)), (2, .int (y_9 + 0)), (0, .ref mo), (1, .int p1)]) hx hb dX11_counting_42 hl (k := 3) rfl rfl (by decide) rfl (fun ls hl => ?_)
        refine lv_goto (tgt := 14) hx hb dX11_counting_45 (by decide) ?_
        exact ih_14 _ _ _ _ (ty_inc (cm_lt hc_11)) ⟨ws_14, (y_9 + 0), (y_10 + Int32.ofInt 1), rfl, hT, hP, hD, hS, (lv_sub hl [2, 3, 1, 0] rfl), ⟨⟨ty_nn hex_14.1.1 (cm_lt hc_11), (by have := hex_14.1; have := rf_ylt rfl hc_11; have := hR.2.2.1.1; have e9 := rf_oi (n := y_10) (by omega); omega)⟩, q_cgs hex_14.1.1 hc_11 hex_14.2 hp_15 (Or.inl ⟨hc_18, rfl⟩)⟩⟩
      · refine lv_iconst (v := 1) hx hb dX11_counting_35 (by decide) ?_
        refine lv_goto (tgt := 40) hx hb dX11_counting_36 (by decide) ?_
        refine lv_iadd hx hb dX11_counting_40 ?_
        refine lv_istore_n (lv' := [(2, .int (y_9 + 1)), (0, .ref mo), (1, .int p1), (3, .int y_10)]) hx hb dX11_counting_41 rfl hl (by decide) rfl (fun ls hl => ?_)
        refine lv_iinc (v := (y_10 + Int32.ofInt 1)) (lv' := [(3, .int (y_10 + Int32.ofInt 1)), (2, .int (y_9 + 1)), (0, .ref mo), (1, .int p1)]) hx hb dX11_counting_42 hl (k := 3) rfl rfl (by decide) rfl (fun ls hl => ?_)
        refine lv_goto (tgt := 14) hx hb dX11_counting_45 (by decide) ?_
        exact ih_14 _ _ _ _ (ty_inc (cm_lt hc_11)) ⟨ws_14, (y_9 + 1), (y_10 + Int32.ofInt 1), rfl, hT, hP, hD, hS, (lv_sub hl [2, 3, 1, 0] rfl), ⟨⟨ty_nn hex_14.1.1 (cm_lt hc_11), (by have := hex_14.1; have := rf_ylt rfl hc_11; have := hR.2.2.1.1; have e9 := rf_oi (n := y_10) (by omega); omega)⟩, q_cgs hex_14.1.1 hc_11 hex_14.2 hp_15 (Or.inr ⟨hc_18, rfl⟩)⟩⟩
  · have he_19 := hz_7.2
    have hP : va_P D vwCl ([(rf_MO mo mw ma mf m0 m1 mu mv u0 u1 iz (1) mb mn mpt mbg mwr mwk mlf men), (rf_RW ct 0 mw 958 f)] ++ ws_3) H := by rw [he_19] at hP; exact hP
    have hD : va_D A ([(rf_MO mo mw ma mf m0 m1 mu mv u0 u1 iz (1) mb mn mpt mbg mwr mwk mlf men), (rf_RW ct 0 mw 958 f)] ++ ws_3) := by rw [he_19] at hD; exact hD
    refine lv_if_eq (tgt := 10) hx hb dX11_counting_5 (by decide) (fun hc => absurd hc (by decide)) (fun _ => ?_)
    refine lv_iconst (v := 0) hx hb dX11_counting_8 (by decide) ?_
    exact W.iret (v := 0) hx hb hr (fun t ht hW => ⟨⟨0, (ws_3, (1 : Int32)), rfl, ⟨hT, ⟨th1_4, trivial, (Or.inr ⟨hz_7, ⟨rfl, rfl⟩⟩)⟩⟩, by rw [ht]; exact hP, by rw [hAe]; exact hD⟩, hS.F ht⟩) hS.2.2 dX11_counting_9
def q_X11_recordCount (f : Nat → Int32) (r : Int32) (th1 : Int32) : Prop := (r = (f 12) ∧ th1 = 0)
set_option maxRecDepth 100000 in
set_option maxHeartbeats 4000000 in
theorem m_X11_recordCount (l : Launch) (D : va_G) (ct : Nat → ClassId) (S : ty_S) (ws : va_W) (ph : va_W → Prop) (xx : Nat → Nat → Nat → Prop) (mo : Nat) (mw : Nat) (ma : Nat) (mf : Nat) (m0 : Nat) (m1 : Nat) (mu : Nat) (mv : Nat) (u0 : Nat) (u1 : Nat) (iz : Nat) (mb : Nat) (th : Int32) (mn : Int32) (mpt : Int32) (mbg : Int32) (mwr : Int32) (mwk : Int32) (mlf : Int32) (men : Int32) (f : Nat → Int32) (G : Nat → Int32) (cx : Int) (sz : Nat) (hT : ty_V ct S ph ws) (hph : ty_C ph xx) (hy1 : ty_y1 xx) (hR : rf_R G cx f) : Met l yX11_recordCount (ws_ yX11_recordCount cX11_recordCount 1 (some .int)) ({ frames := 0, cells := 0, slots := 0, locals := 0 } : Room) (va_Pc [.ref mo] (cmP D ct sz ([(rf_MO mo mw ma mf m0 m1 mu mv u0 u1 iz th mb mn mpt mbg mwr mwk mlf men), (rf_RW ct 0 mw 958 f)] ++ ws))) (va_Qi (fun (r : Int32) (u : va_W × Int32) => match u with | (u9, th1) => ty_V ct S ph u9 ∧ (q_X11_recordCount f r th1)) (cmB D ([(rf_MO mo mw ma mf m0 m1 mu mv u0 u1 iz th mb mn mpt mbg mwr mwk mlf men), (rf_RW ct 0 mw 958 f)] ++ ws) sz (fun (u : va_W × Int32) => match u with | (u9, th1) => ([(rf_MO mo mw ma mf m0 m1 mu mv u0 u1 iz th1 mb mn mpt mbg mwr mwk mlf men), (rf_RW ct 0 mw 958 f)] ++ u9))) (va_A ([(rf_MO mo mw ma mf m0 m1 mu mv u0 u1 iz th mb mn mpt mbg mwr mwk mlf men), (rf_RW ct 0 mw 958 f)] ++ ws) sz)) 0 0 (va_A ([(rf_MO mo mw ma mf m0 m1 mu mv u0 u1 iz th mb mn mpt mbg mwr mwk mlf men), (rf_RW ct 0 mw 958 f)] ++ ws) sz) := by
  refine Met.ofW (cc := cX11_recordCount) (maxL := 1) (ret := (some .int)) (by decide) rfl ?_
  intro p e s m args below meth c s₁ B hml hv
  obtain ⟨rfl, hsz, hP, hK, hD0, hX⟩ := hv
  have hx := B.exec
  have hb := B.bytes
  have hr := B.returns
  have hts := ws_all (atoms_spec (ws := ws_ yX11_recordCount cX11_recordCount 1 (some .int)) B.pre)
  have hown : s.vm.findClass RX11 = some m.cls := findClass_of_methodNamed B.named
  have hlocks := B.notSynchronized
  subst hsz
  have hD := hD0.self (sz := s.heap.size)
  generalize hAe : va_A ([(rf_MO mo mw ma mf m0 m1 mu mv u0 u1 iz th mb mn mpt mbg mwr mwk mlf men), (rf_RW ct 0 mw 958 f)] ++ ws) s.heap.size = A at hD hX ⊢
  have hA : ∀ q : Nat, s.heap.size ≤ q → A q := fun q h => by rw [← hAe]; exact Or.inr h
  have hS : va_S A s.heap s.heap [] := va_S.rf
  have hl := lv_entry ([.ref mo]) (n := 1) (Nat.le_of_ble_eq_true rfl)
  rw [lg_entry_eq]
  generalize (lg_sl ([.ref mo]) ++ List.replicate (1 - (lg_sl ([.ref mo])).length) Slot.unset).toArray = ls at hl ⊢
  have hl : lv_has ls 1 [(0, .ref mo)] := hl
  refine lv_aload_n hx hb dX11_recordCount_0 rfl (lv_at hl 0 rfl) ?_
  refine lv_iconst (v := 0) hx hb dX11_recordCount_1 (by decide) ?_
  refine va_put (v := .int 0) (ty := .int) (D := D) (ci := 11) (C := RX11) (T := TX11) (N := 19) hx hb hts in_X11 tyX11 tyX11_ok nmX11 hown hK hP hD hS 0 rfl rfl 10 (by decide) (hts _ kl_RX11_49) (fun _ h9 => h9) rfl (by decide +kernel) rfl rfl (Nat.le_of_ble_eq_true rfl) dX11_recordCount_2 (fun H locs hP hD hS => ?_)
  have hP : va_P D vwCl ([(rf_MO mo mw ma mf m0 m1 mu mv u0 u1 iz (0) mb mn mpt mbg mwr mwk mlf men), (rf_RW ct 0 mw 958 f)] ++ ws) H := hP
  have hD : va_D A ([(rf_MO mo mw ma mf m0 m1 mu mv u0 u1 iz (0) mb mn mpt mbg mwr mwk mlf men), (rf_RW ct 0 mw 958 f)] ++ ws) := hD
  refine lv_aload_n hx hb dX11_recordCount_5 rfl (lv_at hl 0 rfl) ?_
  refine va_get (v := .ref mw) (D := D) (ci := 11) (C := RX11) (T := TX11) (N := 19) hx hb hts in_X11 hown hK hP 0 rfl rfl 0 (by decide) (hts _ kl_RX11_9) (fun _ h9 => h9) rfl dX11_recordCount_6 ?_
  refine lv_bipush (v := 12) hx hb dX11_recordCount_9 (by decide) ?_
  refine va_iald hx hb hK hP 1 0 rfl rfl (cm_vin (by decide)) dX11_recordCount_11 ?_
  refine cm_cst (y := (f 12)) (by first | rfl | decide +kernel) ?_
  exact W.iret (v := (f 12)) hx hb hr (fun t ht hW => ⟨⟨(f 12), (ws, (0 : Int32)), rfl, ⟨hT, ⟨rfl, rfl⟩⟩, by rw [ht]; exact hP, by rw [hAe]; exact hD⟩, hS.F ht⟩) hS.2.2 dX11_recordCount_12
def q_X11_logSize (f : Nat → Int32) (r : Int32) (th1 : Int32) : Prop := (r = (f 17) ∧ th1 = 0)
set_option maxRecDepth 100000 in
set_option maxHeartbeats 4000000 in
theorem m_X11_logSize (l : Launch) (D : va_G) (ct : Nat → ClassId) (S : ty_S) (ws : va_W) (ph : va_W → Prop) (xx : Nat → Nat → Nat → Prop) (mo : Nat) (mw : Nat) (ma : Nat) (mf : Nat) (m0 : Nat) (m1 : Nat) (mu : Nat) (mv : Nat) (u0 : Nat) (u1 : Nat) (iz : Nat) (mb : Nat) (th : Int32) (mn : Int32) (mpt : Int32) (mbg : Int32) (mwr : Int32) (mwk : Int32) (mlf : Int32) (men : Int32) (f : Nat → Int32) (G : Nat → Int32) (cx : Int) (sz : Nat) (hT : ty_V ct S ph ws) (hph : ty_C ph xx) (hy1 : ty_y1 xx) (hR : rf_R G cx f) : Met l yX11_logSize (ws_ yX11_logSize cX11_logSize 1 (some .int)) ({ frames := 0, cells := 0, slots := 0, locals := 0 } : Room) (va_Pc [.ref mo] (cmP D ct sz ([(rf_MO mo mw ma mf m0 m1 mu mv u0 u1 iz th mb mn mpt mbg mwr mwk mlf men), (rf_RW ct 0 mw 958 f)] ++ ws))) (va_Qi (fun (r : Int32) (u : va_W × Int32) => match u with | (u9, th1) => ty_V ct S ph u9 ∧ (q_X11_logSize f r th1)) (cmB D ([(rf_MO mo mw ma mf m0 m1 mu mv u0 u1 iz th mb mn mpt mbg mwr mwk mlf men), (rf_RW ct 0 mw 958 f)] ++ ws) sz (fun (u : va_W × Int32) => match u with | (u9, th1) => ([(rf_MO mo mw ma mf m0 m1 mu mv u0 u1 iz th1 mb mn mpt mbg mwr mwk mlf men), (rf_RW ct 0 mw 958 f)] ++ u9))) (va_A ([(rf_MO mo mw ma mf m0 m1 mu mv u0 u1 iz th mb mn mpt mbg mwr mwk mlf men), (rf_RW ct 0 mw 958 f)] ++ ws) sz)) 0 0 (va_A ([(rf_MO mo mw ma mf m0 m1 mu mv u0 u1 iz th mb mn mpt mbg mwr mwk mlf men), (rf_RW ct 0 mw 958 f)] ++ ws) sz) := by
  refine Met.ofW (cc := cX11_logSize) (maxL := 1) (ret := (some .int)) (by decide) rfl ?_
  intro p e s m args below meth c s₁ B hml hv
  obtain ⟨rfl, hsz, hP, hK, hD0, hX⟩ := hv
  have hx := B.exec
  have hb := B.bytes
  have hr := B.returns
  have hts := ws_all (atoms_spec (ws := ws_ yX11_logSize cX11_logSize 1 (some .int)) B.pre)
  have hown : s.vm.findClass RX11 = some m.cls := findClass_of_methodNamed B.named
  have hlocks := B.notSynchronized
  subst hsz
  have hD := hD0.self (sz := s.heap.size)
  generalize hAe : va_A ([(rf_MO mo mw ma mf m0 m1 mu mv u0 u1 iz th mb mn mpt mbg mwr mwk mlf men), (rf_RW ct 0 mw 958 f)] ++ ws) s.heap.size = A at hD hX ⊢
  have hA : ∀ q : Nat, s.heap.size ≤ q → A q := fun q h => by rw [← hAe]; exact Or.inr h
  have hS : va_S A s.heap s.heap [] := va_S.rf
  have hl := lv_entry ([.ref mo]) (n := 1) (Nat.le_of_ble_eq_true rfl)
  rw [lg_entry_eq]
  generalize (lg_sl ([.ref mo]) ++ List.replicate (1 - (lg_sl ([.ref mo])).length) Slot.unset).toArray = ls at hl ⊢
  have hl : lv_has ls 1 [(0, .ref mo)] := hl
  refine lv_aload_n hx hb dX11_logSize_0 rfl (lv_at hl 0 rfl) ?_
  refine lv_iconst (v := 0) hx hb dX11_logSize_1 (by decide) ?_
  refine va_put (v := .int 0) (ty := .int) (D := D) (ci := 11) (C := RX11) (T := TX11) (N := 19) hx hb hts in_X11 tyX11 tyX11_ok nmX11 hown hK hP hD hS 0 rfl rfl 10 (by decide) (hts _ kl_RX11_49) (fun _ h9 => h9) rfl (by decide +kernel) rfl rfl (Nat.le_of_ble_eq_true rfl) dX11_logSize_2 (fun H locs hP hD hS => ?_)
  have hP : va_P D vwCl ([(rf_MO mo mw ma mf m0 m1 mu mv u0 u1 iz (0) mb mn mpt mbg mwr mwk mlf men), (rf_RW ct 0 mw 958 f)] ++ ws) H := hP
  have hD : va_D A ([(rf_MO mo mw ma mf m0 m1 mu mv u0 u1 iz (0) mb mn mpt mbg mwr mwk mlf men), (rf_RW ct 0 mw 958 f)] ++ ws) := hD
  refine lv_aload_n hx hb dX11_logSize_5 rfl (lv_at hl 0 rfl) ?_
  refine va_get (v := .ref mw) (D := D) (ci := 11) (C := RX11) (T := TX11) (N := 19) hx hb hts in_X11 hown hK hP 0 rfl rfl 0 (by decide) (hts _ kl_RX11_9) (fun _ h9 => h9) rfl dX11_logSize_6 ?_
  refine lv_bipush (v := 17) hx hb dX11_logSize_9 (by decide) ?_
  refine va_iald hx hb hK hP 1 0 rfl rfl (cm_vin (by decide)) dX11_logSize_11 ?_
  refine cm_cst (y := (f 17)) (by first | rfl | decide +kernel) ?_
  exact W.iret (v := (f 17)) hx hb hr (fun t ht hW => ⟨⟨(f 17), (ws, (0 : Int32)), rfl, ⟨hT, ⟨rfl, rfl⟩⟩, by rw [ht]; exact hP, by rw [hAe]; exact hD⟩, hS.F ht⟩) hS.2.2 dX11_logSize_12
def q_X11_loss (f : Nat → Int32) (G : Nat → Int32) (p1 : Int32) (r : Int32) (th1 : Int32) : Prop := (∃ (th1_4 : Int32), True ∧ ((((0 ≤ p1.toInt ∧ p1.toInt < (G 9).toInt) ∧ th1_4 = 0) ∧ (∃ (y_9 : Int32) (y_10 : Int32) (y_11 : Int32), (((0 ≤ y_11.toInt ∧ y_11.toInt ≤ (f 12).toInt) ∧ q_ls f p1 y_11.toInt.toNat y_9 y_10) ∧ (y_9 = -1 ∨ (0 ≤ y_9.toInt ∧ y_9.toInt ≤ 29) ∧ 0 ≤ y_10.toInt ∧ y_10.toInt ≤ 29)) ∧ ((f 12) ≤ y_11 ∧ ((¬ y_9 = ((-1) : Int32) ∧ (r = ((f (568 + 5 * y_9.toInt.toNat + (2 : Int32).toInt.toNat)) - (f (568 + 5 * y_10.toInt.toNat + (2 : Int32).toInt.toNat))) ∧ th1 = 0)) ∨ (y_9 = ((-1) : Int32) ∧ (r = 0 ∧ th1 = 0)))))) ∨ ((¬ (0 ≤ p1.toInt ∧ p1.toInt < (G 9).toInt) ∧ th1_4 = 1) ∧ (r = 0 ∧ th1 = 1))))
set_option maxRecDepth 100000 in
set_option maxHeartbeats 4000000 in
theorem m_X11_loss (l : Launch) (D : va_G) (ct : Nat → ClassId) (S : ty_S) (ws : va_W) (ph : va_W → Prop) (xx : Nat → Nat → Nat → Prop) (mo : Nat) (mw : Nat) (ma : Nat) (mf : Nat) (m0 : Nat) (m1 : Nat) (mu : Nat) (mv : Nat) (u0 : Nat) (u1 : Nat) (iz : Nat) (mb : Nat) (th : Int32) (mn : Int32) (mpt : Int32) (mbg : Int32) (mwr : Int32) (mwk : Int32) (mlf : Int32) (men : Int32) (f : Nat → Int32) (G : Nat → Int32) (cx : Int) (p1 : Int32) (sz : Nat) (hT : ty_V ct S ph ws) (hph : ty_C ph xx) (hy1 : ty_y1 xx) (hR : rf_R G cx f) : Met l yX11_loss (ws_ yX11_loss cX11_loss 5 (some .int)) ({ frames := 2, cells := 0, slots := 0, locals := 46 } : Room) (va_Pc [.ref mo, .int p1] (cmP D ct sz ([(rf_MO mo mw ma mf m0 m1 mu mv u0 u1 iz th mb mn mpt mbg mwr mwk mlf men), (rf_RW ct 0 mw 958 f)] ++ ws))) (va_Qi (fun (r : Int32) (u : va_W × Int32) => match u with | (u9, th1) => ty_V ct S ph u9 ∧ (q_X11_loss f G p1 r th1)) (cmB D ([(rf_MO mo mw ma mf m0 m1 mu mv u0 u1 iz th mb mn mpt mbg mwr mwk mlf men), (rf_RW ct 0 mw 958 f)] ++ ws) sz (fun (u : va_W × Int32) => match u with | (u9, th1) => ([(rf_MO mo mw ma mf m0 m1 mu mv u0 u1 iz th1 mb mn mpt mbg mwr mwk mlf men), (rf_RW ct 0 mw 958 f)] ++ u9))) (va_A ([(rf_MO mo mw ma mf m0 m1 mu mv u0 u1 iz th mb mn mpt mbg mwr mwk mlf men), (rf_RW ct 0 mw 958 f)] ++ ws) sz)) 0 0 (va_A ([(rf_MO mo mw ma mf m0 m1 mu mv u0 u1 iz th mb mn mpt mbg mwr mwk mlf men), (rf_RW ct 0 mw 958 f)] ++ ws) sz) := by
  refine Met.ofW (cc := cX11_loss) (maxL := 5) (ret := (some .int)) (by decide) rfl ?_
  intro p e s m args below meth c s₁ B hml hv
  obtain ⟨rfl, hsz, hP, hK, hD0, hX⟩ := hv
  have hx := B.exec
  have hb := B.bytes
  have hr := B.returns
  have hts := ws_all (atoms_spec (ws := ws_ yX11_loss cX11_loss 5 (some .int)) B.pre)
  have hown : s.vm.findClass RX11 = some m.cls := findClass_of_methodNamed B.named
  have hlocks := B.notSynchronized
  subst hsz
  have hD := hD0.self (sz := s.heap.size)
  generalize hAe : va_A ([(rf_MO mo mw ma mf m0 m1 mu mv u0 u1 iz th mb mn mpt mbg mwr mwk mlf men), (rf_RW ct 0 mw 958 f)] ++ ws) s.heap.size = A at hD hX ⊢
  have hA : ∀ q : Nat, s.heap.size ≤ q → A q := fun q h => by rw [← hAe]; exact Or.inr h
  have hS : va_S A s.heap s.heap [] := va_S.rf
  have hl := lv_entry ([.ref mo, .int p1]) (n := 5) (Nat.le_of_ble_eq_true rfl)
  rw [lg_entry_eq]
  generalize (lg_sl ([.ref mo, .int p1]) ++ List.replicate (5 - (lg_sl ([.ref mo, .int p1])).length) Slot.unset).toArray = ls at hl ⊢
  have hl : lv_has ls 5 [(0, .ref mo), (1, .int p1)] := hl
  refine lv_aload_n hx hb dX11_loss_0 rfl (lv_at hl 0 rfl) ?_
  refine lv_iload_n hx hb dX11_loss_1 rfl (lv_at hl 1 rfl) ?_
  obtain ⟨hP, hD⟩ := ty_ipPD (E1 := []) (E2 := [(rf_MO mo mw ma mf m0 m1 mu mv u0 u1 iz th mb mn mpt mbg mwr mwk mlf men), (rf_RW ct 0 mw 958 f)]) hP hD rfl ty_mva
  refine ty_Ki hP hD hS hA (va_runV (As := [.int p1]) (rest := []) ⟨hx, hb, hml, hown, hts⟩ (m_X11_noChannel l D ct S ws ph xx mo mw ma mf m0 m1 mu mv u0 u1 iz mb th mn mpt mbg mwr mwk mlf men f G cx p1 _ hT hph hy1 hR) (cm_V 1 hts kc_X11_noChannel ki_RX11 kl_RX11_344 kv_X11_noChannel kx_X11_noChannel kd_X11_noChannel ⟨Nat.le_of_ble_eq_true rfl, Nat.le_of_ble_eq_true rfl⟩) (ty_preE (ci := 11) (q0 := 0) hP hK hD hS hA hX rfl rfl) rfl rfl hl.1 rfl (lv_room (Nat.le_of_ble_eq_true rfl)) dX11_loss_2 ⟨Nat.le_of_ble_eq_true rfl, Nat.le_of_ble_eq_true rfl⟩) (fun r_1 u H locs hw_2 hP hD hS => ?_)
  obtain ⟨ws_3, th1_4⟩ := u
  obtain ⟨hT, hp_5⟩ := hw_2
  have hp_5 : ((r_1 = 0 ∧ (0 ≤ p1.toInt ∧ p1.toInt < (G 9).toInt) ∧ th1_4 = 0) ∨ (r_1 = 1 ∧ ¬ (0 ≤ p1.toInt ∧ p1.toInt < (G 9).toInt) ∧ th1_4 = 1)) := hp_5
  obtain ⟨hP, hD⟩ := ty_shPD (w2 := ([(rf_MO mo mw ma mf m0 m1 mu mv u0 u1 iz th1_4 mb mn mpt mbg mwr mwk mlf men), (rf_RW ct 0 mw 958 f)] ++ ws_3)) hP hD rfl
  rcases hp_5 with ⟨rfl, hz_6⟩ | ⟨rfl, hz_7⟩
  · have he_8 := hz_6.2
    have hP : va_P D vwCl ([(rf_MO mo mw ma mf m0 m1 mu mv u0 u1 iz (0) mb mn mpt mbg mwr mwk mlf men), (rf_RW ct 0 mw 958 f)] ++ ws_3) H := by rw [he_8] at hP; exact hP
    have hD : va_D A ([(rf_MO mo mw ma mf m0 m1 mu mv u0 u1 iz (0) mb mn mpt mbg mwr mwk mlf men), (rf_RW ct 0 mw 958 f)] ++ ws_3) := by rw [he_8] at hD; exact hD
    refine lv_if_eq (tgt := 10) hx hb dX11_loss_5 (by decide) (fun _ => ?_) (fun hc => absurd (by decide) hc)
    refine lv_iconst (v := (-1)) hx hb dX11_loss_10 (by decide) ?_
    refine lv_istore_n (lv' := [(2, .int (-1)), (0, .ref mo), (1, .int p1)]) hx hb dX11_loss_11 rfl hl (by decide) rfl (fun ls hl => ?_)
    refine lv_iconst (v := (-1)) hx hb dX11_loss_12 (by decide) ?_
    refine lv_istore_n (lv' := [(3, .int (-1)), (2, .int (-1)), (0, .ref mo), (1, .int p1)]) hx hb dX11_loss_13 rfl hl (by decide) rfl (fun ls hl => ?_)
    refine lv_iconst (v := 0) hx hb dX11_loss_14 (by decide) ?_
    refine lv_istore (lv' := [(4, .int 0), (3, .int (-1)), (2, .int (-1)), (0, .ref mo), (1, .int p1)]) hx hb dX11_loss_15 hl (by decide) rfl (fun ls hl => ?_)
    refine ty_loop (I := fun μ H locs ls => ∃ (ws : va_W) (y_9 : Int32) (y_10 : Int32) (y_11 : Int32), μ = (2147483648 - y_11.toInt).toNat ∧ ty_V ct S ph ws ∧ va_P D vwCl ([(rf_MO mo mw ma mf m0 m1 mu mv u0 u1 iz (0) mb mn mpt mbg mwr mwk mlf men), (rf_RW ct 0 mw 958 f)] ++ ws) H ∧ va_D A ([(rf_MO mo mw ma mf m0 m1 mu mv u0 u1 iz (0) mb mn mpt mbg mwr mwk mlf men), (rf_RW ct 0 mw 958 f)] ++ ws) ∧ va_S A s.heap H locs ∧ lv_has ls 5 [(0, .ref mo), (1, .int p1), (2, .int y_9), (3, .int y_10), (4, .int y_11)] ∧ ((0 ≤ y_11.toInt ∧ y_11.toInt ≤ (f 12).toInt) ∧ q_ls f p1 y_11.toInt.toNat y_9 y_10) ∧ (y_9 = -1 ∨ (0 ≤ y_9.toInt ∧ y_9.toInt ≤ 29) ∧ 0 ≤ y_10.toInt ∧ y_10.toInt ≤ 29)) ⟨_, ws_3, ((-1) : Int32), ((-1) : Int32), (0 : Int32), rfl, hT, hP, hD, hS, (lv_sub hl [3, 4, 2, 1, 0] rfl), ⟨⟨⟨by decide, (by have := hR.2.2.1.1; have z : (0 : Int32).toInt = 0 := (by decide); omega)⟩, ⟨rfl, rfl⟩⟩, Or.inl rfl⟩⟩ (fun μ H locs ls hI ih_17 => ?_)
    obtain ⟨ws, y_9, y_10, y_11, rfl, hT, hP, hD, hS, hl, hex_17⟩ := hI
    refine lv_iload hx hb dX11_loss_17 (lv_at hl 4 rfl) ?_
    refine lv_aload_n hx hb dX11_loss_19 rfl (lv_at hl 0 rfl) ?_
    refine va_get (v := .ref mw) (D := D) (ci := 11) (C := RX11) (T := TX11) (N := 19) hx hb hts in_X11 hown hK hP 0 rfl rfl 0 (by decide) (hts _ kl_RX11_9) (fun _ h9 => h9) rfl dX11_loss_20 ?_
    refine lv_bipush (v := 12) hx hb dX11_loss_23 (by decide) ?_
    refine va_iald hx hb hK hP 1 0 rfl rfl (cm_vin (by decide)) dX11_loss_25 ?_
    refine cm_cst (y := (f 12)) (by first | rfl | decide +kernel) ?_
    refine lv_icmp_ge (tgt := 59) hx hb dX11_loss_26 (by decide) (fun hc_12 => ?_) (fun hc_12 => ?_)
    · refine lv_iload_n hx hb dX11_loss_59 rfl (lv_at hl 2 rfl) ?_
      refine lv_iconst (v := (-1)) hx hb dX11_loss_60 (by decide) ?_
      refine lv_icmp_ne (tgt := 68) hx hb dX11_loss_61 (by decide) (fun hc_13 => ?_) (fun hc_13 => ?_)
      · refine lv_aload_n hx hb dX11_loss_68 rfl (lv_at hl 0 rfl) ?_
        refine lv_iload_n hx hb dX11_loss_69 rfl (lv_at hl 2 rfl) ?_
        refine lv_iconst (v := 2) hx hb dX11_loss_70 (by decide) ?_
        obtain ⟨hP, hD⟩ := ty_ipPD (E1 := []) (E2 := [(rf_MO mo mw ma mf m0 m1 mu mv u0 u1 iz (0) mb mn mpt mbg mwr mwk mlf men), (rf_RW ct 0 mw 958 f)]) hP hD rfl ty_mva
        refine ty_Ki hP hD hS hA (va_runV (As := [.int y_9, .int 2]) (rest := []) ⟨hx, hb, hml, hown, hts⟩ (m_X11_recorded l D ct S ws ph xx mo mw ma mf m0 m1 mu mv u0 u1 iz mb (0 : Int32) mn mpt mbg mwr mwk mlf men f G cx y_9 (2 : Int32) _ hT hph hy1 hR (hex_17.2.elim (fun q => absurd q hc_13) (fun q => q.1)) (by decide)) (cm_V 2 hts kc_X11_recorded ki_RX11 kl_RX11_369 kv_X11_recorded kx_X11_recorded kd_X11_recorded ⟨Nat.le_of_ble_eq_true rfl, Nat.le_of_ble_eq_true rfl⟩) (ty_preE (ci := 11) (q0 := 0) hP hK hD hS hA hX rfl rfl) rfl rfl hl.1 rfl (lv_room (Nat.le_of_ble_eq_true rfl)) dX11_loss_71 ⟨Nat.le_of_ble_eq_true rfl, Nat.le_of_ble_eq_true rfl⟩) (fun r_14 u H locs hw_15 hP hD hS => ?_)
        obtain ⟨ws_16, rfl⟩ : ∃ z, z = u := ⟨_, rfl⟩
        obtain ⟨hT, rfl⟩ := hw_15
        obtain ⟨hP, hD⟩ := ty_shPD (w2 := ([(rf_MO mo mw ma mf m0 m1 mu mv u0 u1 iz (0) mb mn mpt mbg mwr mwk mlf men), (rf_RW ct 0 mw 958 f)] ++ ws_16)) hP hD rfl
        refine lv_aload_n hx hb dX11_loss_74 rfl (lv_at hl 0 rfl) ?_
        refine lv_iload_n hx hb dX11_loss_75 rfl (lv_at hl 3 rfl) ?_
        refine lv_iconst (v := 2) hx hb dX11_loss_76 (by decide) ?_
        obtain ⟨hP, hD⟩ := ty_ipPD (E1 := []) (E2 := [(rf_MO mo mw ma mf m0 m1 mu mv u0 u1 iz (0) mb mn mpt mbg mwr mwk mlf men), (rf_RW ct 0 mw 958 f)]) hP hD rfl ty_mva
        refine ty_Ki hP hD hS hA (va_runV (As := [.int y_10, .int 2]) (rest := [.int (f (568 + 5 * y_9.toInt.toNat + (2 : Int32).toInt.toNat))]) ⟨hx, hb, hml, hown, hts⟩ (m_X11_recorded l D ct S ws_16 ph xx mo mw ma mf m0 m1 mu mv u0 u1 iz mb (0 : Int32) mn mpt mbg mwr mwk mlf men f G cx y_10 (2 : Int32) _ hT hph hy1 hR (hex_17.2.elim (fun q => absurd q hc_13) (fun q => q.2)) (by decide)) (cm_V 2 hts kc_X11_recorded ki_RX11 kl_RX11_369 kv_X11_recorded kx_X11_recorded kd_X11_recorded ⟨Nat.le_of_ble_eq_true rfl, Nat.le_of_ble_eq_true rfl⟩) (ty_preE (ci := 11) (q0 := 0) hP hK hD hS hA hX rfl rfl) rfl rfl hl.1 rfl (lv_room (Nat.le_of_ble_eq_true rfl)) dX11_loss_77 ⟨Nat.le_of_ble_eq_true rfl, Nat.le_of_ble_eq_true rfl⟩) (fun r_17 u H locs hw_18 hP hD hS => ?_)
        obtain ⟨ws_19, rfl⟩ : ∃ z, z = u := ⟨_, rfl⟩
        obtain ⟨hT, rfl⟩ := hw_18
        obtain ⟨hP, hD⟩ := ty_shPD (w2 := ([(rf_MO mo mw ma mf m0 m1 mu mv u0 u1 iz (0) mb mn mpt mbg mwr mwk mlf men), (rf_RW ct 0 mw 958 f)] ++ ws_19)) hP hD rfl
        refine lv_isub hx hb dX11_loss_80 ?_
        exact W.iret (v := ((f (568 + 5 * y_9.toInt.toNat + (2 : Int32).toInt.toNat)) - (f (568 + 5 * y_10.toInt.toNat + (2 : Int32).toInt.toNat)))) hx hb hr (fun t ht hW => ⟨⟨((f (568 + 5 * y_9.toInt.toNat + (2 : Int32).toInt.toNat)) - (f (568 + 5 * y_10.toInt.toNat + (2 : Int32).toInt.toNat))), (ws_19, (0 : Int32)), rfl, ⟨hT, ⟨th1_4, trivial, (Or.inl ⟨hz_6, ⟨y_9, y_10, y_11, hex_17, ⟨hc_12, (Or.inl ⟨hc_13, ⟨rfl, rfl⟩⟩)⟩⟩⟩)⟩⟩, by rw [ht]; exact hP, by rw [hAe]; exact hD⟩, hS.F ht⟩) hS.2.2 dX11_loss_81
      · refine lv_iconst (v := 0) hx hb dX11_loss_64 (by decide) ?_
        refine lv_goto (tgt := 81) hx hb dX11_loss_65 (by decide) ?_
        exact W.iret (v := 0) hx hb hr (fun t ht hW => ⟨⟨0, (ws, (0 : Int32)), rfl, ⟨hT, ⟨th1_4, trivial, (Or.inl ⟨hz_6, ⟨y_9, y_10, y_11, hex_17, ⟨hc_12, (Or.inr ⟨hc_13, ⟨rfl, rfl⟩⟩)⟩⟩⟩)⟩⟩, by rw [ht]; exact hP, by rw [hAe]; exact hD⟩, hS.F ht⟩) hS.2.2 dX11_loss_81
    · refine lv_aload_n hx hb dX11_loss_29 rfl (lv_at hl 0 rfl) ?_
      refine lv_iload hx hb dX11_loss_30 (lv_at hl 4 rfl) ?_
      refine lv_iload_n hx hb dX11_loss_32 rfl (lv_at hl 1 rfl) ?_
      obtain ⟨hP, hD⟩ := ty_ipPD (E1 := []) (E2 := [(rf_MO mo mw ma mf m0 m1 mu mv u0 u1 iz (0) mb mn mpt mbg mwr mwk mlf men), (rf_RW ct 0 mw 958 f)]) hP hD rfl ty_mva
      refine ty_Ki hP hD hS hA (va_runV (As := [.int y_11, .int p1]) (rest := []) ⟨hx, hb, hml, hown, hts⟩ (m_X11_isCounting l D ct S ws ph xx mo mw ma mf m0 m1 mu mv u0 u1 iz mb (0 : Int32) mn mpt mbg mwr mwk mlf men f G cx y_11 p1 _ hT hph hy1 hR (by have := hex_17.1.1; have := hR.2.2.1.1; have := rf_ylt rfl hc_12; omega)) (cm_V 2 hts kc_X11_isCounting ki_RX11 kl_RX11_372 kv_X11_isCounting kx_X11_isCounting kd_X11_isCounting ⟨Nat.le_of_ble_eq_true rfl, Nat.le_of_ble_eq_true rfl⟩) (ty_preE (ci := 11) (q0 := 0) hP hK hD hS hA hX rfl rfl) rfl rfl hl.1 rfl (lv_room (Nat.le_of_ble_eq_true rfl)) dX11_loss_33 ⟨Nat.le_of_ble_eq_true rfl, Nat.le_of_ble_eq_true rfl⟩) (fun r_20 u H locs hw_21 hP hD hS => ?_)
      obtain ⟨ws_22, rfl⟩ : ∃ z, z = u := ⟨_, rfl⟩
      obtain ⟨hT, hp_23⟩ := hw_21
      have hp_23 : (q_X11_isCounting f y_11 p1 r_20) := hp_23
      obtain ⟨hP, hD⟩ := ty_shPD (w2 := ([(rf_MO mo mw ma mf m0 m1 mu mv u0 u1 iz (0) mb mn mpt mbg mwr mwk mlf men), (rf_RW ct 0 mw 958 f)] ++ ws_22)) hP hD rfl
      refine lv_if_ne (tgt := 42) hx hb dX11_loss_36 (by decide) (fun hc_26 => ?_) (fun hc_26 => ?_)
      · refine lv_iload_n hx hb dX11_loss_42 rfl (lv_at hl 2 rfl) ?_
        refine lv_iconst (v := (-1)) hx hb dX11_loss_43 (by decide) ?_
        refine lv_icmp_ne (tgt := 50) hx hb dX11_loss_44 (by decide) (fun hc_27 => ?_) (fun hc_27 => ?_)
        · refine lv_iload hx hb dX11_loss_50 (lv_at hl 4 rfl) ?_
          refine lv_istore_n (lv' := [(3, .int y_11), (0, .ref mo), (1, .int p1), (2, .int y_9), (4, .int y_11)]) hx hb dX11_loss_52 rfl hl (by decide) rfl (fun ls hl => ?_)
          refine lv_iinc (v := (y_11 + Int32.ofInt 1)) (lv' := [(4, .int (y_11 + Int32.ofInt 1)), (3, .int y_11), (0, .ref mo), (1, .int p1), (2, .int y_9)]) hx hb dX11_loss_53 hl (k := 4) rfl rfl (by decide) rfl (fun ls hl => ?_)
          refine lv_goto (tgt := 17) hx hb dX11_loss_56 (by decide) ?_
          exact ih_17 _ _ _ _ (ty_inc (cm_lt hc_12)) ⟨ws_22, y_9, y_11, (y_11 + Int32.ofInt 1), rfl, hT, hP, hD, hS, (lv_sub hl [2, 3, 4, 1, 0] rfl), ⟨⟨ty_nn hex_17.1.1.1 (cm_lt hc_12), (by have := hex_17.1.1; have := rf_ylt rfl hc_12; have := hR.2.2.1.1; have e9 := rf_oi (n := y_11) (by omega); omega)⟩, q_lss hex_17.1.1.1 hc_12 hex_17.1.2 hp_23 (Or.inr ⟨hc_26, Or.inr ⟨hc_27, rfl⟩, rfl⟩)⟩, (hex_17.2.elim (fun q => absurd q hc_27) (fun q => Or.inr ⟨q.1, (by have := hex_17.1.1; have := hR.2.2.1.1; have := rf_ylt rfl hc_12; omega)⟩))⟩
        · refine lv_iload hx hb dX11_loss_47 (lv_at hl 4 rfl) ?_
          refine lv_istore_n (lv' := [(2, .int y_11), (0, .ref mo), (1, .int p1), (3, .int y_10), (4, .int y_11)]) hx hb dX11_loss_49 rfl hl (by decide) rfl (fun ls hl => ?_)
          refine lv_iload hx hb dX11_loss_50 (lv_at hl 4 rfl) ?_
          refine lv_istore_n (lv' := [(3, .int y_11), (2, .int y_11), (0, .ref mo), (1, .int p1), (4, .int y_11)]) hx hb dX11_loss_52 rfl hl (by decide) rfl (fun ls hl => ?_)
          refine lv_iinc (v := (y_11 + Int32.ofInt 1)) (lv' := [(4, .int (y_11 + Int32.ofInt 1)), (3, .int y_11), (2, .int y_11), (0, .ref mo), (1, .int p1)]) hx hb dX11_loss_53 hl (k := 4) rfl rfl (by decide) rfl (fun ls hl => ?_)
          refine lv_goto (tgt := 17) hx hb dX11_loss_56 (by decide) ?_
          exact ih_17 _ _ _ _ (ty_inc (cm_lt hc_12)) ⟨ws_22, y_11, y_11, (y_11 + Int32.ofInt 1), rfl, hT, hP, hD, hS, (lv_sub hl [3, 4, 2, 1, 0] rfl), ⟨⟨ty_nn hex_17.1.1.1 (cm_lt hc_12), (by have := hex_17.1.1; have := rf_ylt rfl hc_12; have := hR.2.2.1.1; have e9 := rf_oi (n := y_11) (by omega); omega)⟩, q_lss hex_17.1.1.1 hc_12 hex_17.1.2 hp_23 (Or.inr ⟨hc_26, Or.inl ⟨hc_27, rfl⟩, rfl⟩)⟩, Or.inr ⟨(by have := hex_17.1.1; have := hR.2.2.1.1; have := rf_ylt rfl hc_12; omega), (by have := hex_17.1.1; have := hR.2.2.1.1; have := rf_ylt rfl hc_12; omega)⟩⟩
      · refine lv_goto (tgt := 53) hx hb dX11_loss_39 (by decide) ?_
        refine lv_iinc (v := (y_11 + Int32.ofInt 1)) (lv' := [(4, .int (y_11 + Int32.ofInt 1)), (0, .ref mo), (1, .int p1), (2, .int y_9), (3, .int y_10)]) hx hb dX11_loss_53 hl (k := 4) rfl rfl (by decide) rfl (fun ls hl => ?_)
        refine lv_goto (tgt := 17) hx hb dX11_loss_56 (by decide) ?_
        exact ih_17 _ _ _ _ (ty_inc (cm_lt hc_12)) ⟨ws_22, y_9, y_10, (y_11 + Int32.ofInt 1), rfl, hT, hP, hD, hS, (lv_sub hl [1, 2, 3, 4, 0] rfl), ⟨⟨ty_nn hex_17.1.1.1 (cm_lt hc_12), (by have := hex_17.1.1; have := rf_ylt rfl hc_12; have := hR.2.2.1.1; have e9 := rf_oi (n := y_11) (by omega); omega)⟩, q_lss hex_17.1.1.1 hc_12 hex_17.1.2 hp_23 (Or.inl ⟨hc_26, rfl, rfl⟩)⟩, hex_17.2⟩
  · have he_28 := hz_7.2
    have hP : va_P D vwCl ([(rf_MO mo mw ma mf m0 m1 mu mv u0 u1 iz (1) mb mn mpt mbg mwr mwk mlf men), (rf_RW ct 0 mw 958 f)] ++ ws_3) H := by rw [he_28] at hP; exact hP
    have hD : va_D A ([(rf_MO mo mw ma mf m0 m1 mu mv u0 u1 iz (1) mb mn mpt mbg mwr mwk mlf men), (rf_RW ct 0 mw 958 f)] ++ ws_3) := by rw [he_28] at hD; exact hD
    refine lv_if_eq (tgt := 10) hx hb dX11_loss_5 (by decide) (fun hc => absurd hc (by decide)) (fun _ => ?_)
    refine lv_iconst (v := 0) hx hb dX11_loss_8 (by decide) ?_
    exact W.iret (v := 0) hx hb hr (fun t ht hW => ⟨⟨0, (ws_3, (1 : Int32)), rfl, ⟨hT, ⟨th1_4, trivial, (Or.inr ⟨hz_7, ⟨rfl, rfl⟩⟩)⟩⟩, by rw [ht]; exact hP, by rw [hAe]; exact hD⟩, hS.F ht⟩) hS.2.2 dX11_loss_9
def q_X11_logEntry (f : Nat → Int32) (p1 : Int32) (p2 : Int32) (r : Int32) (th1 : Int32) : Prop := ((¬ (cm_rng p2.toInt64 0 3) = (0 : Int32) ∧ (∃ (th1_8 : Int32), True ∧ (((0 : Int32) = 0 ∧ th1_8 = 0) ∧ (((cm_rng p1.toInt64 0 (((f 17) - 1).toInt64)) = (0 : Int32) ∧ (r = (-1) ∧ th1 = 0)) ∨ (¬ (cm_rng p1.toInt64 0 (((f 17) - 1).toInt64)) = (0 : Int32) ∧ (r = (f ((718 + (4 * p1)) + p2).toNatClampNeg) ∧ th1 = 0)))))) ∨ ((cm_rng p2.toInt64 0 3) = (0 : Int32) ∧ (∃ (th1_20 : Int32), True ∧ ((¬ (1 : Int32) = 0 ∧ th1_20 = (1 : Int32)) ∧ (r = 0 ∧ th1 = 1)))))
set_option maxRecDepth 100000 in
set_option maxHeartbeats 4000000 in
theorem m_X11_logEntry (l : Launch) (D : va_G) (ct : Nat → ClassId) (S : ty_S) (ws : va_W) (ph : va_W → Prop) (xx : Nat → Nat → Nat → Prop) (mo : Nat) (mw : Nat) (ma : Nat) (mf : Nat) (m0 : Nat) (m1 : Nat) (mu : Nat) (mv : Nat) (u0 : Nat) (u1 : Nat) (iz : Nat) (mb : Nat) (th : Int32) (mn : Int32) (mpt : Int32) (mbg : Int32) (mwr : Int32) (mwk : Int32) (mlf : Int32) (men : Int32) (f : Nat → Int32) (G : Nat → Int32) (cx : Int) (p1 : Int32) (p2 : Int32) (sz : Nat) (hT : ty_V ct S ph ws) (hph : ty_C ph xx) (hy1 : ty_y1 xx) (hR : rf_R G cx f) : Met l yX11_logEntry (ws_ yX11_logEntry cX11_logEntry 3 (some .int)) ({ frames := 1, cells := 0, slots := 0, locals := 25 } : Room) (va_Pc [.ref mo, .int p1, .int p2] (cmP D ct sz ([(rf_MO mo mw ma mf m0 m1 mu mv u0 u1 iz th mb mn mpt mbg mwr mwk mlf men), (rf_RW ct 0 mw 958 f)] ++ ws))) (va_Qi (fun (r : Int32) (u : va_W × Int32) => match u with | (u9, th1) => ty_V ct S ph u9 ∧ (q_X11_logEntry f p1 p2 r th1)) (cmB D ([(rf_MO mo mw ma mf m0 m1 mu mv u0 u1 iz th mb mn mpt mbg mwr mwk mlf men), (rf_RW ct 0 mw 958 f)] ++ ws) sz (fun (u : va_W × Int32) => match u with | (u9, th1) => ([(rf_MO mo mw ma mf m0 m1 mu mv u0 u1 iz th1 mb mn mpt mbg mwr mwk mlf men), (rf_RW ct 0 mw 958 f)] ++ u9))) (va_A ([(rf_MO mo mw ma mf m0 m1 mu mv u0 u1 iz th mb mn mpt mbg mwr mwk mlf men), (rf_RW ct 0 mw 958 f)] ++ ws) sz)) 0 0 (va_A ([(rf_MO mo mw ma mf m0 m1 mu mv u0 u1 iz th mb mn mpt mbg mwr mwk mlf men), (rf_RW ct 0 mw 958 f)] ++ ws) sz) := by
  refine Met.ofW (cc := cX11_logEntry) (maxL := 3) (ret := (some .int)) (by decide) rfl ?_
  intro p e s m args below meth c s₁ B hml hv
  obtain ⟨rfl, hsz, hP, hK, hD0, hX⟩ := hv
  have hx := B.exec
  have hb := B.bytes
  have hr := B.returns
  have hts := ws_all (atoms_spec (ws := ws_ yX11_logEntry cX11_logEntry 3 (some .int)) B.pre)
  have hown : s.vm.findClass RX11 = some m.cls := findClass_of_methodNamed B.named
  have hlocks := B.notSynchronized
  subst hsz
  have hD := hD0.self (sz := s.heap.size)
  generalize hAe : va_A ([(rf_MO mo mw ma mf m0 m1 mu mv u0 u1 iz th mb mn mpt mbg mwr mwk mlf men), (rf_RW ct 0 mw 958 f)] ++ ws) s.heap.size = A at hD hX ⊢
  have hA : ∀ q : Nat, s.heap.size ≤ q → A q := fun q h => by rw [← hAe]; exact Or.inr h
  have hS : va_S A s.heap s.heap [] := va_S.rf
  have hl := lv_entry ([.ref mo, .int p1, .int p2]) (n := 3) (Nat.le_of_ble_eq_true rfl)
  rw [lg_entry_eq]
  generalize (lg_sl ([.ref mo, .int p1, .int p2]) ++ List.replicate (3 - (lg_sl ([.ref mo, .int p1, .int p2])).length) Slot.unset).toArray = ls at hl ⊢
  have hl : lv_has ls 3 [(0, .ref mo), (1, .int p1), (2, .int p2)] := hl
  refine lv_aload_n hx hb dX11_logEntry_0 rfl (lv_at hl 0 rfl) ?_
  refine lv_iconst (v := 0) hx hb dX11_logEntry_1 (by decide) ?_
  refine va_put (v := .int 0) (ty := .int) (D := D) (ci := 11) (C := RX11) (T := TX11) (N := 19) hx hb hts in_X11 tyX11 tyX11_ok nmX11 hown hK hP hD hS 0 rfl rfl 10 (by decide) (hts _ kl_RX11_49) (fun _ h9 => h9) rfl (by decide +kernel) rfl rfl (Nat.le_of_ble_eq_true rfl) dX11_logEntry_2 (fun H locs hP hD hS => ?_)
  have hP : va_P D vwCl ([(rf_MO mo mw ma mf m0 m1 mu mv u0 u1 iz (0) mb mn mpt mbg mwr mwk mlf men), (rf_RW ct 0 mw 958 f)] ++ ws) H := hP
  have hD : va_D A ([(rf_MO mo mw ma mf m0 m1 mu mv u0 u1 iz (0) mb mn mpt mbg mwr mwk mlf men), (rf_RW ct 0 mw 958 f)] ++ ws) := hD
  refine lv_aload_n hx hb dX11_logEntry_5 rfl (lv_at hl 0 rfl) ?_
  refine lv_iload_n hx hb dX11_logEntry_6 rfl (lv_at hl 2 rfl) ?_
  refine lv_i2l hx hb dX11_logEntry_7 rfl ?_
  refine lv_lconst (v := 0) hx hb dX11_logEntry_8 (by decide) ?_
  refine lv_ldc2 hx hb hown (hts _ kl_RX11_358) dX11_logEntry_9 ?_
  obtain ⟨hP, hD⟩ := ty_ipPD (E1 := [(rf_MO mo mw ma mf m0 m1 mu mv u0 u1 iz (0) mb mn mpt mbg mwr mwk mlf men), (rf_RW ct 0 mw 958 f)]) (E2 := []) hP hD rfl ty_mva
  refine ty_Ki hP hD hS hA (va_runS (As := [.long p2.toInt64, .long 0, .long 3]) (rest := [.ref mo]) ⟨hx, hb, hml, hown, hts⟩ (m_X11_in l D ct S ws ph xx p2.toInt64 (0 : Int64) (3 : Int64) _ hT hph hy1) (cm_S 3 hts kc_X11_in ki_RX11 kl_RX11_70 ks_X11_in kd_X11_in ⟨Nat.le_of_ble_eq_true rfl, Nat.le_of_ble_eq_true rfl⟩) (ty_preS hP hK hD hS hA hX) rfl rfl hl.1 rfl (lv_room (Nat.le_of_ble_eq_true rfl)) dX11_logEntry_12 ⟨Nat.le_of_ble_eq_true rfl, Nat.le_of_ble_eq_true rfl⟩) (fun r_1 u H locs hw_2 hP hD hS => ?_)
  obtain ⟨ws_3, rfl⟩ : ∃ z, z = u := ⟨_, rfl⟩
  obtain ⟨hT, rfl⟩ := hw_2
  obtain ⟨hP, hD⟩ := ty_shPD (w2 := ([(rf_MO mo mw ma mf m0 m1 mu mv u0 u1 iz (0) mb mn mpt mbg mwr mwk mlf men), (rf_RW ct 0 mw 958 f)] ++ ws_3)) hP hD rfl
  refine lv_if_ne (tgt := 22) hx hb dX11_logEntry_15 (by decide) (fun hc_4 => ?_) (fun hc_4 => ?_)
  · refine lv_iconst (v := 0) hx hb dX11_logEntry_22 (by decide) ?_
    refine lv_iconst (v := 1) hx hb dX11_logEntry_23 (by decide) ?_
    obtain ⟨hP, hD⟩ := ty_opPD (E1 := [(rf_RW ct 0 mw 958 f)]) (E2 := [(rf_MO mo mw ma mf m0 m1 mu mv u0 u1 iz (0) mb mn mpt mbg mwr mwk mlf men)]) (n := 2) [1, 0] hP hD rfl rfl (by decide +kernel) ty_mva
    refine ty_Ki hP hD hS hA (va_runV (As := [.int 0, .int 1]) (rest := []) ⟨hx, hb, hml, hown, hts⟩ (m_throwsIf_0 l D ct S ws_3 ph xx mo mw ma mf m0 m1 mu mv u0 u1 iz mb mn mpt mbg mwr mwk mlf men (0 : Int32) (1 : Int32) _ hT hph hy1 (by decide)) (cm_V 2 hts kc_X11_throwsIf ki_RX11 kl_RX11_328 kv_X11_throwsIf kx_X11_throwsIf kd_X11_throwsIf ⟨Nat.le_of_ble_eq_true rfl, Nat.le_of_ble_eq_true rfl⟩) (ty_preE (ci := 11) (q0 := 1) hP hK hD hS hA hX rfl rfl) rfl rfl hl.1 rfl (lv_room (Nat.le_of_ble_eq_true rfl)) dX11_logEntry_24 ⟨Nat.le_of_ble_eq_true rfl, Nat.le_of_ble_eq_true rfl⟩) (fun r_5 u H locs hw_6 hP hD hS => ?_)
    obtain ⟨ws_7, th1_8⟩ := u
    obtain ⟨hT, hp_9⟩ := hw_6
    have hp_9 : ((r_5 = 0 ∧ (0 : Int32) = 0 ∧ th1_8 = 0) ∨ (r_5 = 1 ∧ ¬ (0 : Int32) = 0 ∧ th1_8 = (1 : Int32))) := hp_9
    obtain ⟨hP, hD⟩ := ty_shPD (w2 := ([(rf_RW ct 0 mw 958 f), (rf_MO mo mw ma mf m0 m1 mu mv u0 u1 iz th1_8 mb mn mpt mbg mwr mwk mlf men)] ++ ws_7)) hP hD rfl
    rcases hp_9 with ⟨rfl, hz_10⟩ | ⟨rfl, hz_11⟩
    · have he_12 := hz_10.2
      have hP : va_P D vwCl ([(rf_RW ct 0 mw 958 f), (rf_MO mo mw ma mf m0 m1 mu mv u0 u1 iz (0) mb mn mpt mbg mwr mwk mlf men)] ++ ws_7) H := by rw [he_12] at hP; exact hP
      have hD : va_D A ([(rf_RW ct 0 mw 958 f), (rf_MO mo mw ma mf m0 m1 mu mv u0 u1 iz (0) mb mn mpt mbg mwr mwk mlf men)] ++ ws_7) := by rw [he_12] at hD; exact hD
      refine lv_if_eq (tgt := 32) hx hb dX11_logEntry_27 (by decide) (fun _ => ?_) (fun hc => absurd (by decide) hc)
      refine lv_iload_n hx hb dX11_logEntry_32 rfl (lv_at hl 1 rfl) ?_
      refine lv_i2l hx hb dX11_logEntry_33 rfl ?_
      refine lv_lconst (v := 0) hx hb dX11_logEntry_34 (by decide) ?_
      refine lv_aload_n hx hb dX11_logEntry_35 rfl (lv_at hl 0 rfl) ?_
      refine va_get (v := .ref mw) (D := D) (ci := 11) (C := RX11) (T := TX11) (N := 19) hx hb hts in_X11 hown hK hP 1 rfl rfl 0 (by decide) (hts _ kl_RX11_9) (fun _ h9 => h9) rfl dX11_logEntry_36 ?_
      refine lv_bipush (v := 17) hx hb dX11_logEntry_39 (by decide) ?_
      refine va_iald hx hb hK hP 0 0 rfl rfl (cm_vin (by decide)) dX11_logEntry_41 ?_
      refine cm_cst (y := (f 17)) (by first | rfl | decide +kernel) ?_
      refine lv_iconst (v := 1) hx hb dX11_logEntry_42 (by decide) ?_
      refine lv_isub hx hb dX11_logEntry_43 ?_
      refine lv_i2l hx hb dX11_logEntry_44 rfl ?_
      obtain ⟨hP, hD⟩ := ty_ipPD (E1 := [(rf_RW ct 0 mw 958 f), (rf_MO mo mw ma mf m0 m1 mu mv u0 u1 iz (0) mb mn mpt mbg mwr mwk mlf men)]) (E2 := []) hP hD rfl ty_mva
      refine ty_Ki hP hD hS hA (va_runS (As := [.long p1.toInt64, .long 0, .long (((f 17) - 1).toInt64)]) (rest := []) ⟨hx, hb, hml, hown, hts⟩ (m_X11_in l D ct S ws_7 ph xx p1.toInt64 (0 : Int64) (((f 17) - 1).toInt64) _ hT hph hy1) (cm_S 3 hts kc_X11_in ki_RX11 kl_RX11_70 ks_X11_in kd_X11_in ⟨Nat.le_of_ble_eq_true rfl, Nat.le_of_ble_eq_true rfl⟩) (ty_preS hP hK hD hS hA hX) rfl rfl hl.1 rfl (lv_room (Nat.le_of_ble_eq_true rfl)) dX11_logEntry_45 ⟨Nat.le_of_ble_eq_true rfl, Nat.le_of_ble_eq_true rfl⟩) (fun r_13 u H locs hw_14 hP hD hS => ?_)
      obtain ⟨ws_15, rfl⟩ : ∃ z, z = u := ⟨_, rfl⟩
      obtain ⟨hT, rfl⟩ := hw_14
      obtain ⟨hP, hD⟩ := ty_shPD (w2 := ([(rf_RW ct 0 mw 958 f), (rf_MO mo mw ma mf m0 m1 mu mv u0 u1 iz (0) mb mn mpt mbg mwr mwk mlf men)] ++ ws_15)) hP hD rfl
      refine lv_if_eq (tgt := 68) hx hb dX11_logEntry_48 (by decide) (fun hc_16 => ?_) (fun hc_16 => ?_)
      · refine lv_iconst (v := (-1)) hx hb dX11_logEntry_68 (by decide) ?_
        obtain ⟨hP, hD⟩ := ty_ordPD (E2 := [(rf_MO mo mw ma mf m0 m1 mu mv u0 u1 iz (0) mb mn mpt mbg mwr mwk mlf men), (rf_RW ct 0 mw 958 f)]) (n := 2) [1, 0] hP hD rfl rfl (by decide +kernel)
        exact W.iret (v := (-1)) hx hb hr (fun t ht hW => ⟨⟨(-1), (ws_15, (0 : Int32)), rfl, ⟨hT, (Or.inl ⟨hc_4, ⟨th1_8, trivial, ⟨hz_10, (Or.inl ⟨hc_16, ⟨rfl, rfl⟩⟩)⟩⟩⟩)⟩, by rw [ht]; exact hP, by rw [hAe]; exact hD⟩, hS.F ht⟩) hS.2.2 dX11_logEntry_69
      · refine lv_aload_n hx hb dX11_logEntry_51 rfl (lv_at hl 0 rfl) ?_
        refine va_get (v := .ref mw) (D := D) (ci := 11) (C := RX11) (T := TX11) (N := 19) hx hb hts in_X11 hown hK hP 1 rfl rfl 0 (by decide) (hts _ kl_RX11_9) (fun _ h9 => h9) rfl dX11_logEntry_52 ?_
        refine lv_sipush (v := 718) hx hb dX11_logEntry_55 (by decide) ?_
        refine lv_iconst (v := 4) hx hb dX11_logEntry_58 (by decide) ?_
        refine lv_iload_n hx hb dX11_logEntry_59 rfl (lv_at hl 1 rfl) ?_
        refine lv_imul hx hb dX11_logEntry_60 ?_
        refine lv_iadd hx hb dX11_logEntry_61 ?_
        refine lv_iload_n hx hb dX11_logEntry_62 rfl (lv_at hl 2 rfl) ?_
        refine lv_iadd hx hb dX11_logEntry_63 ?_
        refine va_iald hx hb hK hP 0 0 rfl rfl (rf_rix (A := 718) (B := 4) (N := 59) (by decide) (by decide) (by have := hR.2.2.1.2.2; have := rf_rngi (L := 0) (by decide) (by have := hR.2.2.1.2.2; omega) (rf_ne0 hc_16); omega) (by have := (rf_rngc (L := 0) (U := 3) (by decide) (by decide) hc_4); omega) (by omega) (by omega) (by omega) (by omega) (by have := (rf_rngc (L := 0) (U := 3) (by decide) (by decide) hc_4); omega)) dX11_logEntry_64 ?_
        refine lv_goto (tgt := 69) hx hb dX11_logEntry_65 (by decide) ?_
        obtain ⟨hP, hD⟩ := ty_ordPD (E2 := [(rf_MO mo mw ma mf m0 m1 mu mv u0 u1 iz (0) mb mn mpt mbg mwr mwk mlf men), (rf_RW ct 0 mw 958 f)]) (n := 2) [1, 0] hP hD rfl rfl (by decide +kernel)
        exact W.iret (v := (f ((718 + (4 * p1)) + p2).toNatClampNeg)) hx hb hr (fun t ht hW => ⟨⟨(f ((718 + (4 * p1)) + p2).toNatClampNeg), (ws_15, (0 : Int32)), rfl, ⟨hT, (Or.inl ⟨hc_4, ⟨th1_8, trivial, ⟨hz_10, (Or.inr ⟨hc_16, ⟨rfl, rfl⟩⟩)⟩⟩⟩)⟩, by rw [ht]; exact hP, by rw [hAe]; exact hD⟩, hS.F ht⟩) hS.2.2 dX11_logEntry_69
    · exact absurd rfl hz_11.1
  · refine lv_iconst (v := 1) hx hb dX11_logEntry_18 (by decide) ?_
    refine lv_goto (tgt := 23) hx hb dX11_logEntry_19 (by decide) ?_
    refine lv_iconst (v := 1) hx hb dX11_logEntry_23 (by decide) ?_
    obtain ⟨hP, hD⟩ := ty_opPD (E1 := [(rf_RW ct 0 mw 958 f)]) (E2 := [(rf_MO mo mw ma mf m0 m1 mu mv u0 u1 iz (0) mb mn mpt mbg mwr mwk mlf men)]) (n := 2) [1, 0] hP hD rfl rfl (by decide +kernel) ty_mva
    refine ty_Ki hP hD hS hA (va_runV (As := [.int 1, .int 1]) (rest := []) ⟨hx, hb, hml, hown, hts⟩ (m_throwsIf_0 l D ct S ws_3 ph xx mo mw ma mf m0 m1 mu mv u0 u1 iz mb mn mpt mbg mwr mwk mlf men (1 : Int32) (1 : Int32) _ hT hph hy1 (by decide)) (cm_V 2 hts kc_X11_throwsIf ki_RX11 kl_RX11_328 kv_X11_throwsIf kx_X11_throwsIf kd_X11_throwsIf ⟨Nat.le_of_ble_eq_true rfl, Nat.le_of_ble_eq_true rfl⟩) (ty_preE (ci := 11) (q0 := 1) hP hK hD hS hA hX rfl rfl) rfl rfl hl.1 rfl (lv_room (Nat.le_of_ble_eq_true rfl)) dX11_logEntry_24 ⟨Nat.le_of_ble_eq_true rfl, Nat.le_of_ble_eq_true rfl⟩) (fun r_17 u H locs hw_18 hP hD hS => ?_)
    obtain ⟨ws_19, th1_20⟩ := u
    obtain ⟨hT, hp_21⟩ := hw_18
    have hp_21 : ((r_17 = 0 ∧ (1 : Int32) = 0 ∧ th1_20 = 0) ∨ (r_17 = 1 ∧ ¬ (1 : Int32) = 0 ∧ th1_20 = (1 : Int32))) := hp_21
    obtain ⟨hP, hD⟩ := ty_shPD (w2 := ([(rf_RW ct 0 mw 958 f), (rf_MO mo mw ma mf m0 m1 mu mv u0 u1 iz th1_20 mb mn mpt mbg mwr mwk mlf men)] ++ ws_19)) hP hD rfl
    rcases hp_21 with ⟨rfl, hz_22⟩ | ⟨rfl, hz_23⟩
    · exact absurd hz_22.1 (by decide)
    · have he_24 := hz_23.2
      have hP : va_P D vwCl ([(rf_RW ct 0 mw 958 f), (rf_MO mo mw ma mf m0 m1 mu mv u0 u1 iz (1) mb mn mpt mbg mwr mwk mlf men)] ++ ws_19) H := by rw [he_24] at hP; exact hP
      have hD : va_D A ([(rf_RW ct 0 mw 958 f), (rf_MO mo mw ma mf m0 m1 mu mv u0 u1 iz (1) mb mn mpt mbg mwr mwk mlf men)] ++ ws_19) := by rw [he_24] at hD; exact hD
      refine lv_if_eq (tgt := 32) hx hb dX11_logEntry_27 (by decide) (fun hc => absurd hc (by decide)) (fun _ => ?_)
      refine lv_iconst (v := 0) hx hb dX11_logEntry_30 (by decide) ?_
      obtain ⟨hP, hD⟩ := ty_ordPD (E2 := [(rf_MO mo mw ma mf m0 m1 mu mv u0 u1 iz (1) mb mn mpt mbg mwr mwk mlf men), (rf_RW ct 0 mw 958 f)]) (n := 2) [1, 0] hP hD rfl rfl (by decide +kernel)
      exact W.iret (v := 0) hx hb hr (fun t ht hW => ⟨⟨0, (ws_19, (1 : Int32)), rfl, ⟨hT, (Or.inr ⟨hc_4, ⟨th1_20, trivial, ⟨hz_23, ⟨rfl, rfl⟩⟩⟩⟩)⟩, by rw [ht]; exact hP, by rw [hAe]; exact hD⟩, hS.F ht⟩) hS.2.2 dX11_logEntry_31
def q_X11_record (f : Nat → Int32) (p1 : Int32) (p2 : Int32) (r : Int32) (th1 : Int32) : Prop := ((¬ (cm_rng p2.toInt64 0 5) = (0 : Int32) ∧ (∃ (th1_8 : Int32), True ∧ (((0 : Int32) = 0 ∧ th1_8 = 0) ∧ ((¬ (cm_rng p1.toInt64 0 (((f 12) - 1).toInt64)) = (0 : Int32) ∧ (((5 : Int32) ≤ p2 ∧ ((¬ (f (568 + 5 * p1.toInt.toNat + (1 : Int32).toInt.toNat)) = (0 : Int32) ∧ (r = ((1000 * ((f (568 + 5 * p1.toInt.toNat + (2 : Int32).toInt.toNat)).toInt64)) / ((f (568 + 5 * p1.toInt.toNat + (1 : Int32).toInt.toNat)).toInt64)).toInt32 ∧ th1 = 0)) ∨ ((f (568 + 5 * p1.toInt.toNat + (1 : Int32).toInt.toNat)) = (0 : Int32) ∧ (r = 0 ∧ th1 = 0)))) ∨ (¬ (5 : Int32) ≤ p2 ∧ (r = (f (568 + 5 * p1.toInt.toNat + p2.toInt.toNat)) ∧ th1 = 0)))) ∨ ((cm_rng p1.toInt64 0 (((f 12) - 1).toInt64)) = (0 : Int32) ∧ (r = (-1) ∧ th1 = 0)))))) ∨ ((cm_rng p2.toInt64 0 5) = (0 : Int32) ∧ (∃ (th1_34 : Int32), True ∧ ((¬ (1 : Int32) = 0 ∧ th1_34 = (1 : Int32)) ∧ (r = 0 ∧ th1 = 1)))))
set_option maxRecDepth 100000 in
set_option maxHeartbeats 4000000 in
theorem m_X11_record (l : Launch) (D : va_G) (ct : Nat → ClassId) (S : ty_S) (ws : va_W) (ph : va_W → Prop) (xx : Nat → Nat → Nat → Prop) (mo : Nat) (mw : Nat) (ma : Nat) (mf : Nat) (m0 : Nat) (m1 : Nat) (mu : Nat) (mv : Nat) (u0 : Nat) (u1 : Nat) (iz : Nat) (mb : Nat) (th : Int32) (mn : Int32) (mpt : Int32) (mbg : Int32) (mwr : Int32) (mwk : Int32) (mlf : Int32) (men : Int32) (f : Nat → Int32) (G : Nat → Int32) (cx : Int) (p1 : Int32) (p2 : Int32) (sz : Nat) (hT : ty_V ct S ph ws) (hph : ty_C ph xx) (hy1 : ty_y1 xx) (hR : rf_R G cx f) : Met l yX11_record (ws_ yX11_record cX11_record 3 (some .int)) ({ frames := 1, cells := 0, slots := 0, locals := 25 } : Room) (va_Pc [.ref mo, .int p1, .int p2] (cmP D ct sz ([(rf_MO mo mw ma mf m0 m1 mu mv u0 u1 iz th mb mn mpt mbg mwr mwk mlf men), (rf_RW ct 0 mw 958 f)] ++ ws))) (va_Qi (fun (r : Int32) (u : va_W × Int32) => match u with | (u9, th1) => ty_V ct S ph u9 ∧ (q_X11_record f p1 p2 r th1)) (cmB D ([(rf_MO mo mw ma mf m0 m1 mu mv u0 u1 iz th mb mn mpt mbg mwr mwk mlf men), (rf_RW ct 0 mw 958 f)] ++ ws) sz (fun (u : va_W × Int32) => match u with | (u9, th1) => ([(rf_MO mo mw ma mf m0 m1 mu mv u0 u1 iz th1 mb mn mpt mbg mwr mwk mlf men), (rf_RW ct 0 mw 958 f)] ++ u9))) (va_A ([(rf_MO mo mw ma mf m0 m1 mu mv u0 u1 iz th mb mn mpt mbg mwr mwk mlf men), (rf_RW ct 0 mw 958 f)] ++ ws) sz)) 0 0 (va_A ([(rf_MO mo mw ma mf m0 m1 mu mv u0 u1 iz th mb mn mpt mbg mwr mwk mlf men), (rf_RW ct 0 mw 958 f)] ++ ws) sz) := by
  refine Met.ofW (cc := cX11_record) (maxL := 3) (ret := (some .int)) (by decide) rfl ?_
  intro p e s m args below meth c s₁ B hml hv
  obtain ⟨rfl, hsz, hP, hK, hD0, hX⟩ := hv
  have hx := B.exec
  have hb := B.bytes
  have hr := B.returns
  have hts := ws_all (atoms_spec (ws := ws_ yX11_record cX11_record 3 (some .int)) B.pre)
  have hown : s.vm.findClass RX11 = some m.cls := findClass_of_methodNamed B.named
  have hlocks := B.notSynchronized
  subst hsz
  have hD := hD0.self (sz := s.heap.size)
  generalize hAe : va_A ([(rf_MO mo mw ma mf m0 m1 mu mv u0 u1 iz th mb mn mpt mbg mwr mwk mlf men), (rf_RW ct 0 mw 958 f)] ++ ws) s.heap.size = A at hD hX ⊢
  have hA : ∀ q : Nat, s.heap.size ≤ q → A q := fun q h => by rw [← hAe]; exact Or.inr h
  have hS : va_S A s.heap s.heap [] := va_S.rf
  have hl := lv_entry ([.ref mo, .int p1, .int p2]) (n := 3) (Nat.le_of_ble_eq_true rfl)
  rw [lg_entry_eq]
  generalize (lg_sl ([.ref mo, .int p1, .int p2]) ++ List.replicate (3 - (lg_sl ([.ref mo, .int p1, .int p2])).length) Slot.unset).toArray = ls at hl ⊢
  have hl : lv_has ls 3 [(0, .ref mo), (1, .int p1), (2, .int p2)] := hl
  refine lv_aload_n hx hb dX11_record_0 rfl (lv_at hl 0 rfl) ?_
  refine lv_iconst (v := 0) hx hb dX11_record_1 (by decide) ?_
  refine va_put (v := .int 0) (ty := .int) (D := D) (ci := 11) (C := RX11) (T := TX11) (N := 19) hx hb hts in_X11 tyX11 tyX11_ok nmX11 hown hK hP hD hS 0 rfl rfl 10 (by decide) (hts _ kl_RX11_49) (fun _ h9 => h9) rfl (by decide +kernel) rfl rfl (Nat.le_of_ble_eq_true rfl) dX11_record_2 (fun H locs hP hD hS => ?_)
  have hP : va_P D vwCl ([(rf_MO mo mw ma mf m0 m1 mu mv u0 u1 iz (0) mb mn mpt mbg mwr mwk mlf men), (rf_RW ct 0 mw 958 f)] ++ ws) H := hP
  have hD : va_D A ([(rf_MO mo mw ma mf m0 m1 mu mv u0 u1 iz (0) mb mn mpt mbg mwr mwk mlf men), (rf_RW ct 0 mw 958 f)] ++ ws) := hD
  refine lv_aload_n hx hb dX11_record_5 rfl (lv_at hl 0 rfl) ?_
  refine lv_iload_n hx hb dX11_record_6 rfl (lv_at hl 2 rfl) ?_
  refine lv_i2l hx hb dX11_record_7 rfl ?_
  refine lv_lconst (v := 0) hx hb dX11_record_8 (by decide) ?_
  refine lv_ldc2 hx hb hown (hts _ kl_RX11_360) dX11_record_9 ?_
  obtain ⟨hP, hD⟩ := ty_ipPD (E1 := [(rf_MO mo mw ma mf m0 m1 mu mv u0 u1 iz (0) mb mn mpt mbg mwr mwk mlf men), (rf_RW ct 0 mw 958 f)]) (E2 := []) hP hD rfl ty_mva
  refine ty_Ki hP hD hS hA (va_runS (As := [.long p2.toInt64, .long 0, .long 5]) (rest := [.ref mo]) ⟨hx, hb, hml, hown, hts⟩ (m_X11_in l D ct S ws ph xx p2.toInt64 (0 : Int64) (5 : Int64) _ hT hph hy1) (cm_S 3 hts kc_X11_in ki_RX11 kl_RX11_70 ks_X11_in kd_X11_in ⟨Nat.le_of_ble_eq_true rfl, Nat.le_of_ble_eq_true rfl⟩) (ty_preS hP hK hD hS hA hX) rfl rfl hl.1 rfl (lv_room (Nat.le_of_ble_eq_true rfl)) dX11_record_12 ⟨Nat.le_of_ble_eq_true rfl, Nat.le_of_ble_eq_true rfl⟩) (fun r_1 u H locs hw_2 hP hD hS => ?_)
  obtain ⟨ws_3, rfl⟩ : ∃ z, z = u := ⟨_, rfl⟩
  obtain ⟨hT, rfl⟩ := hw_2
  obtain ⟨hP, hD⟩ := ty_shPD (w2 := ([(rf_MO mo mw ma mf m0 m1 mu mv u0 u1 iz (0) mb mn mpt mbg mwr mwk mlf men), (rf_RW ct 0 mw 958 f)] ++ ws_3)) hP hD rfl
  refine lv_if_ne (tgt := 22) hx hb dX11_record_15 (by decide) (fun hc_4 => ?_) (fun hc_4 => ?_)
  · refine lv_iconst (v := 0) hx hb dX11_record_22 (by decide) ?_
    refine lv_iconst (v := 1) hx hb dX11_record_23 (by decide) ?_
    obtain ⟨hP, hD⟩ := ty_opPD (E1 := [(rf_RW ct 0 mw 958 f)]) (E2 := [(rf_MO mo mw ma mf m0 m1 mu mv u0 u1 iz (0) mb mn mpt mbg mwr mwk mlf men)]) (n := 2) [1, 0] hP hD rfl rfl (by decide +kernel) ty_mva
    refine ty_Ki hP hD hS hA (va_runV (As := [.int 0, .int 1]) (rest := []) ⟨hx, hb, hml, hown, hts⟩ (m_throwsIf_0 l D ct S ws_3 ph xx mo mw ma mf m0 m1 mu mv u0 u1 iz mb mn mpt mbg mwr mwk mlf men (0 : Int32) (1 : Int32) _ hT hph hy1 (by decide)) (cm_V 2 hts kc_X11_throwsIf ki_RX11 kl_RX11_328 kv_X11_throwsIf kx_X11_throwsIf kd_X11_throwsIf ⟨Nat.le_of_ble_eq_true rfl, Nat.le_of_ble_eq_true rfl⟩) (ty_preE (ci := 11) (q0 := 1) hP hK hD hS hA hX rfl rfl) rfl rfl hl.1 rfl (lv_room (Nat.le_of_ble_eq_true rfl)) dX11_record_24 ⟨Nat.le_of_ble_eq_true rfl, Nat.le_of_ble_eq_true rfl⟩) (fun r_5 u H locs hw_6 hP hD hS => ?_)
    obtain ⟨ws_7, th1_8⟩ := u
    obtain ⟨hT, hp_9⟩ := hw_6
    have hp_9 : ((r_5 = 0 ∧ (0 : Int32) = 0 ∧ th1_8 = 0) ∨ (r_5 = 1 ∧ ¬ (0 : Int32) = 0 ∧ th1_8 = (1 : Int32))) := hp_9
    obtain ⟨hP, hD⟩ := ty_shPD (w2 := ([(rf_RW ct 0 mw 958 f), (rf_MO mo mw ma mf m0 m1 mu mv u0 u1 iz th1_8 mb mn mpt mbg mwr mwk mlf men)] ++ ws_7)) hP hD rfl
    rcases hp_9 with ⟨rfl, hz_10⟩ | ⟨rfl, hz_11⟩
    · have he_12 := hz_10.2
      have hP : va_P D vwCl ([(rf_RW ct 0 mw 958 f), (rf_MO mo mw ma mf m0 m1 mu mv u0 u1 iz (0) mb mn mpt mbg mwr mwk mlf men)] ++ ws_7) H := by rw [he_12] at hP; exact hP
      have hD : va_D A ([(rf_RW ct 0 mw 958 f), (rf_MO mo mw ma mf m0 m1 mu mv u0 u1 iz (0) mb mn mpt mbg mwr mwk mlf men)] ++ ws_7) := by rw [he_12] at hD; exact hD
      refine lv_if_eq (tgt := 32) hx hb dX11_record_27 (by decide) (fun _ => ?_) (fun hc => absurd (by decide) hc)
      refine lv_iload_n hx hb dX11_record_32 rfl (lv_at hl 1 rfl) ?_
      refine lv_i2l hx hb dX11_record_33 rfl ?_
      refine lv_lconst (v := 0) hx hb dX11_record_34 (by decide) ?_
      refine lv_aload_n hx hb dX11_record_35 rfl (lv_at hl 0 rfl) ?_
      refine va_get (v := .ref mw) (D := D) (ci := 11) (C := RX11) (T := TX11) (N := 19) hx hb hts in_X11 hown hK hP 1 rfl rfl 0 (by decide) (hts _ kl_RX11_9) (fun _ h9 => h9) rfl dX11_record_36 ?_
      refine lv_bipush (v := 12) hx hb dX11_record_39 (by decide) ?_
      refine va_iald hx hb hK hP 0 0 rfl rfl (cm_vin (by decide)) dX11_record_41 ?_
      refine cm_cst (y := (f 12)) (by first | rfl | decide +kernel) ?_
      refine lv_iconst (v := 1) hx hb dX11_record_42 (by decide) ?_
      refine lv_isub hx hb dX11_record_43 ?_
      refine lv_i2l hx hb dX11_record_44 rfl ?_
      obtain ⟨hP, hD⟩ := ty_ipPD (E1 := [(rf_RW ct 0 mw 958 f), (rf_MO mo mw ma mf m0 m1 mu mv u0 u1 iz (0) mb mn mpt mbg mwr mwk mlf men)]) (E2 := []) hP hD rfl ty_mva
      refine ty_Ki hP hD hS hA (va_runS (As := [.long p1.toInt64, .long 0, .long (((f 12) - 1).toInt64)]) (rest := []) ⟨hx, hb, hml, hown, hts⟩ (m_X11_in l D ct S ws_7 ph xx p1.toInt64 (0 : Int64) (((f 12) - 1).toInt64) _ hT hph hy1) (cm_S 3 hts kc_X11_in ki_RX11 kl_RX11_70 ks_X11_in kd_X11_in ⟨Nat.le_of_ble_eq_true rfl, Nat.le_of_ble_eq_true rfl⟩) (ty_preS hP hK hD hS hA hX) rfl rfl hl.1 rfl (lv_room (Nat.le_of_ble_eq_true rfl)) dX11_record_45 ⟨Nat.le_of_ble_eq_true rfl, Nat.le_of_ble_eq_true rfl⟩) (fun r_13 u H locs hw_14 hP hD hS => ?_)
      obtain ⟨ws_15, rfl⟩ : ∃ z, z = u := ⟨_, rfl⟩
      obtain ⟨hT, rfl⟩ := hw_14
      obtain ⟨hP, hD⟩ := ty_shPD (w2 := ([(rf_RW ct 0 mw 958 f), (rf_MO mo mw ma mf m0 m1 mu mv u0 u1 iz (0) mb mn mpt mbg mwr mwk mlf men)] ++ ws_15)) hP hD rfl
      refine lv_if_ne (tgt := 53) hx hb dX11_record_48 (by decide) (fun hc_16 => ?_) (fun hc_16 => ?_)
      · refine lv_iload_n hx hb dX11_record_53 rfl (lv_at hl 2 rfl) ?_
        refine lv_iconst (v := 5) hx hb dX11_record_54 (by decide) ?_
        refine lv_icmp_ge (tgt := 65) hx hb dX11_record_55 (by decide) (fun hc_17 => ?_) (fun hc_17 => ?_)
        · refine lv_aload_n hx hb dX11_record_65 rfl (lv_at hl 0 rfl) ?_
          refine lv_iload_n hx hb dX11_record_66 rfl (lv_at hl 1 rfl) ?_
          refine lv_iconst (v := 1) hx hb dX11_record_67 (by decide) ?_
          obtain ⟨hP, hD⟩ := ty_opPD (E1 := []) (E2 := [(rf_MO mo mw ma mf m0 m1 mu mv u0 u1 iz (0) mb mn mpt mbg mwr mwk mlf men), (rf_RW ct 0 mw 958 f)]) (n := 2) [1, 0] hP hD rfl rfl (by decide +kernel) ty_mva
          refine ty_Ki hP hD hS hA (va_runV (As := [.int p1, .int 1]) (rest := []) ⟨hx, hb, hml, hown, hts⟩ (m_X11_recorded l D ct S ws_15 ph xx mo mw ma mf m0 m1 mu mv u0 u1 iz mb (0 : Int32) mn mpt mbg mwr mwk mlf men f G cx p1 (1 : Int32) _ hT hph hy1 hR (by have := hR.2.2.1.1; have := rf_rngi (L := 0) (by decide) (by have := hR.2.2.1.1; omega) (rf_ne0 hc_16); omega) (by decide)) (cm_V 2 hts kc_X11_recorded ki_RX11 kl_RX11_369 kv_X11_recorded kx_X11_recorded kd_X11_recorded ⟨Nat.le_of_ble_eq_true rfl, Nat.le_of_ble_eq_true rfl⟩) (ty_preE (ci := 11) (q0 := 0) hP hK hD hS hA hX rfl rfl) rfl rfl hl.1 rfl (lv_room (Nat.le_of_ble_eq_true rfl)) dX11_record_68 ⟨Nat.le_of_ble_eq_true rfl, Nat.le_of_ble_eq_true rfl⟩) (fun r_18 u H locs hw_19 hP hD hS => ?_)
          obtain ⟨ws_20, rfl⟩ : ∃ z, z = u := ⟨_, rfl⟩
          obtain ⟨hT, rfl⟩ := hw_19
          obtain ⟨hP, hD⟩ := ty_shPD (w2 := ([(rf_MO mo mw ma mf m0 m1 mu mv u0 u1 iz (0) mb mn mpt mbg mwr mwk mlf men), (rf_RW ct 0 mw 958 f)] ++ ws_20)) hP hD rfl
          refine lv_if_ne (tgt := 78) hx hb dX11_record_71 (by decide) (fun hc_21 => ?_) (fun hc_21 => ?_)
          · refine lv_ldc2 hx hb hown (hts _ kl_RX11_303) dX11_record_78 ?_
            refine lv_aload_n hx hb dX11_record_81 rfl (lv_at hl 0 rfl) ?_
            refine lv_iload_n hx hb dX11_record_82 rfl (lv_at hl 1 rfl) ?_
            refine lv_iconst (v := 2) hx hb dX11_record_83 (by decide) ?_
            obtain ⟨hP, hD⟩ := ty_ipPD (E1 := []) (E2 := [(rf_MO mo mw ma mf m0 m1 mu mv u0 u1 iz (0) mb mn mpt mbg mwr mwk mlf men), (rf_RW ct 0 mw 958 f)]) hP hD rfl ty_mva
            refine ty_Ki hP hD hS hA (va_runV (As := [.int p1, .int 2]) (rest := [.long 1000]) ⟨hx, hb, hml, hown, hts⟩ (m_X11_recorded l D ct S ws_20 ph xx mo mw ma mf m0 m1 mu mv u0 u1 iz mb (0 : Int32) mn mpt mbg mwr mwk mlf men f G cx p1 (2 : Int32) _ hT hph hy1 hR (by have := hR.2.2.1.1; have := rf_rngi (L := 0) (by decide) (by have := hR.2.2.1.1; omega) (rf_ne0 hc_16); omega) (by decide)) (cm_V 2 hts kc_X11_recorded ki_RX11 kl_RX11_369 kv_X11_recorded kx_X11_recorded kd_X11_recorded ⟨Nat.le_of_ble_eq_true rfl, Nat.le_of_ble_eq_true rfl⟩) (ty_preE (ci := 11) (q0 := 0) hP hK hD hS hA hX rfl rfl) rfl rfl hl.1 rfl (lv_room (Nat.le_of_ble_eq_true rfl)) dX11_record_84 ⟨Nat.le_of_ble_eq_true rfl, Nat.le_of_ble_eq_true rfl⟩) (fun r_22 u H locs hw_23 hP hD hS => ?_)
            obtain ⟨ws_24, rfl⟩ : ∃ z, z = u := ⟨_, rfl⟩
            obtain ⟨hT, rfl⟩ := hw_23
            obtain ⟨hP, hD⟩ := ty_shPD (w2 := ([(rf_MO mo mw ma mf m0 m1 mu mv u0 u1 iz (0) mb mn mpt mbg mwr mwk mlf men), (rf_RW ct 0 mw 958 f)] ++ ws_24)) hP hD rfl
            refine lv_i2l hx hb dX11_record_87 rfl ?_
            refine lv_lmul hx hb dX11_record_88 ?_
            refine lv_aload_n hx hb dX11_record_89 rfl (lv_at hl 0 rfl) ?_
            refine lv_iload_n hx hb dX11_record_90 rfl (lv_at hl 1 rfl) ?_
            refine lv_iconst (v := 1) hx hb dX11_record_91 (by decide) ?_
            obtain ⟨hP, hD⟩ := ty_ipPD (E1 := []) (E2 := [(rf_MO mo mw ma mf m0 m1 mu mv u0 u1 iz (0) mb mn mpt mbg mwr mwk mlf men), (rf_RW ct 0 mw 958 f)]) hP hD rfl ty_mva
            refine ty_Ki hP hD hS hA (va_runV (As := [.int p1, .int 1]) (rest := [.long (1000 * ((f (568 + 5 * p1.toInt.toNat + (2 : Int32).toInt.toNat)).toInt64))]) ⟨hx, hb, hml, hown, hts⟩ (m_X11_recorded l D ct S ws_24 ph xx mo mw ma mf m0 m1 mu mv u0 u1 iz mb (0 : Int32) mn mpt mbg mwr mwk mlf men f G cx p1 (1 : Int32) _ hT hph hy1 hR (by have := hR.2.2.1.1; have := rf_rngi (L := 0) (by decide) (by have := hR.2.2.1.1; omega) (rf_ne0 hc_16); omega) (by decide)) (cm_V 2 hts kc_X11_recorded ki_RX11 kl_RX11_369 kv_X11_recorded kx_X11_recorded kd_X11_recorded ⟨Nat.le_of_ble_eq_true rfl, Nat.le_of_ble_eq_true rfl⟩) (ty_preE (ci := 11) (q0 := 0) hP hK hD hS hA hX rfl rfl) rfl rfl hl.1 rfl (lv_room (Nat.le_of_ble_eq_true rfl)) dX11_record_92 ⟨Nat.le_of_ble_eq_true rfl, Nat.le_of_ble_eq_true rfl⟩) (fun r_25 u H locs hw_26 hP hD hS => ?_)
            obtain ⟨ws_27, rfl⟩ : ∃ z, z = u := ⟨_, rfl⟩
            obtain ⟨hT, rfl⟩ := hw_26
            obtain ⟨hP, hD⟩ := ty_shPD (w2 := ([(rf_MO mo mw ma mf m0 m1 mu mv u0 u1 iz (0) mb mn mpt mbg mwr mwk mlf men), (rf_RW ct 0 mw 958 f)] ++ ws_27)) hP hD rfl
            refine lv_i2l hx hb dX11_record_95 rfl ?_
            refine lv_ldiv hx hb dX11_record_96 (fun h9 => hc_21 (rf_l0 h9)) ?_
            refine lv_l2i hx hb dX11_record_97 rfl ?_
            exact W.iret (v := ((1000 * ((f (568 + 5 * p1.toInt.toNat + (2 : Int32).toInt.toNat)).toInt64)) / ((f (568 + 5 * p1.toInt.toNat + (1 : Int32).toInt.toNat)).toInt64)).toInt32) hx hb hr (fun t ht hW => ⟨⟨((1000 * ((f (568 + 5 * p1.toInt.toNat + (2 : Int32).toInt.toNat)).toInt64)) / ((f (568 + 5 * p1.toInt.toNat + (1 : Int32).toInt.toNat)).toInt64)).toInt32, (ws_27, (0 : Int32)), rfl, ⟨hT, (Or.inl ⟨hc_4, ⟨th1_8, trivial, ⟨hz_10, (Or.inl ⟨hc_16, (Or.inl ⟨hc_17, (Or.inl ⟨hc_21, ⟨rfl, rfl⟩⟩)⟩)⟩)⟩⟩⟩)⟩, by rw [ht]; exact hP, by rw [hAe]; exact hD⟩, hS.F ht⟩) hS.2.2 dX11_record_98
          · refine lv_iconst (v := 0) hx hb dX11_record_74 (by decide) ?_
            refine lv_goto (tgt := 98) hx hb dX11_record_75 (by decide) ?_
            exact W.iret (v := 0) hx hb hr (fun t ht hW => ⟨⟨0, (ws_20, (0 : Int32)), rfl, ⟨hT, (Or.inl ⟨hc_4, ⟨th1_8, trivial, ⟨hz_10, (Or.inl ⟨hc_16, (Or.inl ⟨hc_17, (Or.inr ⟨hc_21, ⟨rfl, rfl⟩⟩)⟩)⟩)⟩⟩⟩)⟩, by rw [ht]; exact hP, by rw [hAe]; exact hD⟩, hS.F ht⟩) hS.2.2 dX11_record_98
        · refine lv_aload_n hx hb dX11_record_58 rfl (lv_at hl 0 rfl) ?_
          refine lv_iload_n hx hb dX11_record_59 rfl (lv_at hl 1 rfl) ?_
          refine lv_iload_n hx hb dX11_record_60 rfl (lv_at hl 2 rfl) ?_
          obtain ⟨hP, hD⟩ := ty_opPD (E1 := []) (E2 := [(rf_MO mo mw ma mf m0 m1 mu mv u0 u1 iz (0) mb mn mpt mbg mwr mwk mlf men), (rf_RW ct 0 mw 958 f)]) (n := 2) [1, 0] hP hD rfl rfl (by decide +kernel) ty_mva
          refine ty_Ki hP hD hS hA (va_runV (As := [.int p1, .int p2]) (rest := []) ⟨hx, hb, hml, hown, hts⟩ (m_X11_recorded l D ct S ws_15 ph xx mo mw ma mf m0 m1 mu mv u0 u1 iz mb (0 : Int32) mn mpt mbg mwr mwk mlf men f G cx p1 p2 _ hT hph hy1 hR (by have := hR.2.2.1.1; have := rf_rngi (L := 0) (by decide) (by have := hR.2.2.1.1; omega) (rf_ne0 hc_16); omega) (by have := (rf_rngc (L := 0) (U := 5) (by decide) (by decide) hc_4); have := rf_ng (b := 5) (by decide) hc_17; omega)) (cm_V 2 hts kc_X11_recorded ki_RX11 kl_RX11_369 kv_X11_recorded kx_X11_recorded kd_X11_recorded ⟨Nat.le_of_ble_eq_true rfl, Nat.le_of_ble_eq_true rfl⟩) (ty_preE (ci := 11) (q0 := 0) hP hK hD hS hA hX rfl rfl) rfl rfl hl.1 rfl (lv_room (Nat.le_of_ble_eq_true rfl)) dX11_record_61 ⟨Nat.le_of_ble_eq_true rfl, Nat.le_of_ble_eq_true rfl⟩) (fun r_28 u H locs hw_29 hP hD hS => ?_)
          obtain ⟨ws_30, rfl⟩ : ∃ z, z = u := ⟨_, rfl⟩
          obtain ⟨hT, rfl⟩ := hw_29
          obtain ⟨hP, hD⟩ := ty_shPD (w2 := ([(rf_MO mo mw ma mf m0 m1 mu mv u0 u1 iz (0) mb mn mpt mbg mwr mwk mlf men), (rf_RW ct 0 mw 958 f)] ++ ws_30)) hP hD rfl
          exact W.iret (v := (f (568 + 5 * p1.toInt.toNat + p2.toInt.toNat))) hx hb hr (fun t ht hW => ⟨⟨(f (568 + 5 * p1.toInt.toNat + p2.toInt.toNat)), (ws_30, (0 : Int32)), rfl, ⟨hT, (Or.inl ⟨hc_4, ⟨th1_8, trivial, ⟨hz_10, (Or.inl ⟨hc_16, (Or.inr ⟨hc_17, ⟨rfl, rfl⟩⟩)⟩)⟩⟩⟩)⟩, by rw [ht]; exact hP, by rw [hAe]; exact hD⟩, hS.F ht⟩) hS.2.2 dX11_record_64
      · refine lv_iconst (v := (-1)) hx hb dX11_record_51 (by decide) ?_
        obtain ⟨hP, hD⟩ := ty_ordPD (E2 := [(rf_MO mo mw ma mf m0 m1 mu mv u0 u1 iz (0) mb mn mpt mbg mwr mwk mlf men), (rf_RW ct 0 mw 958 f)]) (n := 2) [1, 0] hP hD rfl rfl (by decide +kernel)
        exact W.iret (v := (-1)) hx hb hr (fun t ht hW => ⟨⟨(-1), (ws_15, (0 : Int32)), rfl, ⟨hT, (Or.inl ⟨hc_4, ⟨th1_8, trivial, ⟨hz_10, (Or.inr ⟨hc_16, ⟨rfl, rfl⟩⟩)⟩⟩⟩)⟩, by rw [ht]; exact hP, by rw [hAe]; exact hD⟩, hS.F ht⟩) hS.2.2 dX11_record_52
    · exact absurd rfl hz_11.1
  · refine lv_iconst (v := 1) hx hb dX11_record_18 (by decide) ?_
    refine lv_goto (tgt := 23) hx hb dX11_record_19 (by decide) ?_
    refine lv_iconst (v := 1) hx hb dX11_record_23 (by decide) ?_
    obtain ⟨hP, hD⟩ := ty_opPD (E1 := [(rf_RW ct 0 mw 958 f)]) (E2 := [(rf_MO mo mw ma mf m0 m1 mu mv u0 u1 iz (0) mb mn mpt mbg mwr mwk mlf men)]) (n := 2) [1, 0] hP hD rfl rfl (by decide +kernel) ty_mva
    refine ty_Ki hP hD hS hA (va_runV (As := [.int 1, .int 1]) (rest := []) ⟨hx, hb, hml, hown, hts⟩ (m_throwsIf_0 l D ct S ws_3 ph xx mo mw ma mf m0 m1 mu mv u0 u1 iz mb mn mpt mbg mwr mwk mlf men (1 : Int32) (1 : Int32) _ hT hph hy1 (by decide)) (cm_V 2 hts kc_X11_throwsIf ki_RX11 kl_RX11_328 kv_X11_throwsIf kx_X11_throwsIf kd_X11_throwsIf ⟨Nat.le_of_ble_eq_true rfl, Nat.le_of_ble_eq_true rfl⟩) (ty_preE (ci := 11) (q0 := 1) hP hK hD hS hA hX rfl rfl) rfl rfl hl.1 rfl (lv_room (Nat.le_of_ble_eq_true rfl)) dX11_record_24 ⟨Nat.le_of_ble_eq_true rfl, Nat.le_of_ble_eq_true rfl⟩) (fun r_31 u H locs hw_32 hP hD hS => ?_)
    obtain ⟨ws_33, th1_34⟩ := u
    obtain ⟨hT, hp_35⟩ := hw_32
    have hp_35 : ((r_31 = 0 ∧ (1 : Int32) = 0 ∧ th1_34 = 0) ∨ (r_31 = 1 ∧ ¬ (1 : Int32) = 0 ∧ th1_34 = (1 : Int32))) := hp_35
    obtain ⟨hP, hD⟩ := ty_shPD (w2 := ([(rf_RW ct 0 mw 958 f), (rf_MO mo mw ma mf m0 m1 mu mv u0 u1 iz th1_34 mb mn mpt mbg mwr mwk mlf men)] ++ ws_33)) hP hD rfl
    rcases hp_35 with ⟨rfl, hz_36⟩ | ⟨rfl, hz_37⟩
    · exact absurd hz_36.1 (by decide)
    · have he_38 := hz_37.2
      have hP : va_P D vwCl ([(rf_RW ct 0 mw 958 f), (rf_MO mo mw ma mf m0 m1 mu mv u0 u1 iz (1) mb mn mpt mbg mwr mwk mlf men)] ++ ws_33) H := by rw [he_38] at hP; exact hP
      have hD : va_D A ([(rf_RW ct 0 mw 958 f), (rf_MO mo mw ma mf m0 m1 mu mv u0 u1 iz (1) mb mn mpt mbg mwr mwk mlf men)] ++ ws_33) := by rw [he_38] at hD; exact hD
      refine lv_if_eq (tgt := 32) hx hb dX11_record_27 (by decide) (fun hc => absurd hc (by decide)) (fun _ => ?_)
      refine lv_iconst (v := 0) hx hb dX11_record_30 (by decide) ?_
      obtain ⟨hP, hD⟩ := ty_ordPD (E2 := [(rf_MO mo mw ma mf m0 m1 mu mv u0 u1 iz (1) mb mn mpt mbg mwr mwk mlf men), (rf_RW ct 0 mw 958 f)]) (n := 2) [1, 0] hP hD rfl rfl (by decide +kernel)
      exact W.iret (v := 0) hx hb hr (fun t ht hW => ⟨⟨0, (ws_33, (1 : Int32)), rfl, ⟨hT, (Or.inr ⟨hc_4, ⟨th1_34, trivial, ⟨hz_37, ⟨rfl, rfl⟩⟩⟩⟩)⟩, by rw [ht]; exact hP, by rw [hAe]; exact hD⟩, hS.F ht⟩) hS.2.2 dX11_record_31
def q_X11_eventsOf (f : Nat → Int32) (G : Nat → Int32) (p1 : Int32) (p2 : Int32) (r : Int32) (th1 : Int32) : Prop := (∃ (th1_4 : Int32), True ∧ ((((0 ≤ p1.toInt ∧ p1.toInt < (G 9).toInt) ∧ th1_4 = 0) ∧ ((¬ (cm_rng p2.toInt64 0 5) = (0 : Int32) ∧ (∃ (th1_16 : Int32), True ∧ (((0 : Int32) = 0 ∧ th1_16 = 0) ∧ (∃ (y_21 : Int32) (y_22 : Int32), 0 ≤ y_22.toInt ∧ ((f 17) ≤ y_22 ∧ (r = y_21 ∧ th1 = 0)))))) ∨ ((cm_rng p2.toInt64 0 5) = (0 : Int32) ∧ (∃ (th1_29 : Int32), True ∧ ((¬ (1 : Int32) = 0 ∧ th1_29 = (2 : Int32)) ∧ (r = 0 ∧ th1 = 2)))))) ∨ ((¬ (0 ≤ p1.toInt ∧ p1.toInt < (G 9).toInt) ∧ th1_4 = 1) ∧ (r = 0 ∧ th1 = 1))))
set_option maxRecDepth 100000 in
set_option maxHeartbeats 4000000 in
theorem m_X11_eventsOf (l : Launch) (D : va_G) (ct : Nat → ClassId) (S : ty_S) (ws : va_W) (ph : va_W → Prop) (xx : Nat → Nat → Nat → Prop) (mo : Nat) (mw : Nat) (ma : Nat) (mf : Nat) (m0 : Nat) (m1 : Nat) (mu : Nat) (mv : Nat) (u0 : Nat) (u1 : Nat) (iz : Nat) (mb : Nat) (th : Int32) (mn : Int32) (mpt : Int32) (mbg : Int32) (mwr : Int32) (mwk : Int32) (mlf : Int32) (men : Int32) (f : Nat → Int32) (G : Nat → Int32) (cx : Int) (p1 : Int32) (p2 : Int32) (sz : Nat) (hT : ty_V ct S ph ws) (hph : ty_C ph xx) (hy1 : ty_y1 xx) (hR : rf_R G cx f) : Met l yX11_eventsOf (ws_ yX11_eventsOf cX11_eventsOf 5 (some .int)) ({ frames := 2, cells := 0, slots := 0, locals := 46 } : Room) (va_Pc [.ref mo, .int p1, .int p2] (cmP D ct sz ([(rf_MO mo mw ma mf m0 m1 mu mv u0 u1 iz th mb mn mpt mbg mwr mwk mlf men), (rf_RW ct 0 mw 958 f)] ++ ws))) (va_Qi (fun (r : Int32) (u : va_W × Int32) => match u with | (u9, th1) => ty_V ct S ph u9 ∧ (q_X11_eventsOf f G p1 p2 r th1)) (cmB D ([(rf_MO mo mw ma mf m0 m1 mu mv u0 u1 iz th mb mn mpt mbg mwr mwk mlf men), (rf_RW ct 0 mw 958 f)] ++ ws) sz (fun (u : va_W × Int32) => match u with | (u9, th1) => ([(rf_MO mo mw ma mf m0 m1 mu mv u0 u1 iz th1 mb mn mpt mbg mwr mwk mlf men), (rf_RW ct 0 mw 958 f)] ++ u9))) (va_A ([(rf_MO mo mw ma mf m0 m1 mu mv u0 u1 iz th mb mn mpt mbg mwr mwk mlf men), (rf_RW ct 0 mw 958 f)] ++ ws) sz)) 0 0 (va_A ([(rf_MO mo mw ma mf m0 m1 mu mv u0 u1 iz th mb mn mpt mbg mwr mwk mlf men), (rf_RW ct 0 mw 958 f)] ++ ws) sz) := by
  refine Met.ofW (cc := cX11_eventsOf) (maxL := 5) (ret := (some .int)) (by decide) rfl ?_
  intro p e s m args below meth c s₁ B hml hv
  obtain ⟨rfl, hsz, hP, hK, hD0, hX⟩ := hv
  have hx := B.exec
  have hb := B.bytes
  have hr := B.returns
  have hts := ws_all (atoms_spec (ws := ws_ yX11_eventsOf cX11_eventsOf 5 (some .int)) B.pre)
  have hown : s.vm.findClass RX11 = some m.cls := findClass_of_methodNamed B.named
  have hlocks := B.notSynchronized
  subst hsz
  have hD := hD0.self (sz := s.heap.size)
  generalize hAe : va_A ([(rf_MO mo mw ma mf m0 m1 mu mv u0 u1 iz th mb mn mpt mbg mwr mwk mlf men), (rf_RW ct 0 mw 958 f)] ++ ws) s.heap.size = A at hD hX ⊢
  have hA : ∀ q : Nat, s.heap.size ≤ q → A q := fun q h => by rw [← hAe]; exact Or.inr h
  have hS : va_S A s.heap s.heap [] := va_S.rf
  have hl := lv_entry ([.ref mo, .int p1, .int p2]) (n := 5) (Nat.le_of_ble_eq_true rfl)
  rw [lg_entry_eq]
  generalize (lg_sl ([.ref mo, .int p1, .int p2]) ++ List.replicate (5 - (lg_sl ([.ref mo, .int p1, .int p2])).length) Slot.unset).toArray = ls at hl ⊢
  have hl : lv_has ls 5 [(0, .ref mo), (1, .int p1), (2, .int p2)] := hl
  refine lv_aload_n hx hb dX11_eventsOf_0 rfl (lv_at hl 0 rfl) ?_
  refine lv_iload_n hx hb dX11_eventsOf_1 rfl (lv_at hl 1 rfl) ?_
  obtain ⟨hP, hD⟩ := ty_ipPD (E1 := []) (E2 := [(rf_MO mo mw ma mf m0 m1 mu mv u0 u1 iz th mb mn mpt mbg mwr mwk mlf men), (rf_RW ct 0 mw 958 f)]) hP hD rfl ty_mva
  refine ty_Ki hP hD hS hA (va_runV (As := [.int p1]) (rest := []) ⟨hx, hb, hml, hown, hts⟩ (m_X11_noChannel l D ct S ws ph xx mo mw ma mf m0 m1 mu mv u0 u1 iz mb th mn mpt mbg mwr mwk mlf men f G cx p1 _ hT hph hy1 hR) (cm_V 1 hts kc_X11_noChannel ki_RX11 kl_RX11_344 kv_X11_noChannel kx_X11_noChannel kd_X11_noChannel ⟨Nat.le_of_ble_eq_true rfl, Nat.le_of_ble_eq_true rfl⟩) (ty_preE (ci := 11) (q0 := 0) hP hK hD hS hA hX rfl rfl) rfl rfl hl.1 rfl (lv_room (Nat.le_of_ble_eq_true rfl)) dX11_eventsOf_2 ⟨Nat.le_of_ble_eq_true rfl, Nat.le_of_ble_eq_true rfl⟩) (fun r_1 u H locs hw_2 hP hD hS => ?_)
  obtain ⟨ws_3, th1_4⟩ := u
  obtain ⟨hT, hp_5⟩ := hw_2
  have hp_5 : ((r_1 = 0 ∧ (0 ≤ p1.toInt ∧ p1.toInt < (G 9).toInt) ∧ th1_4 = 0) ∨ (r_1 = 1 ∧ ¬ (0 ≤ p1.toInt ∧ p1.toInt < (G 9).toInt) ∧ th1_4 = 1)) := hp_5
  obtain ⟨hP, hD⟩ := ty_shPD (w2 := ([(rf_MO mo mw ma mf m0 m1 mu mv u0 u1 iz th1_4 mb mn mpt mbg mwr mwk mlf men), (rf_RW ct 0 mw 958 f)] ++ ws_3)) hP hD rfl
  rcases hp_5 with ⟨rfl, hz_6⟩ | ⟨rfl, hz_7⟩
  · have he_8 := hz_6.2
    have hP : va_P D vwCl ([(rf_MO mo mw ma mf m0 m1 mu mv u0 u1 iz (0) mb mn mpt mbg mwr mwk mlf men), (rf_RW ct 0 mw 958 f)] ++ ws_3) H := by rw [he_8] at hP; exact hP
    have hD : va_D A ([(rf_MO mo mw ma mf m0 m1 mu mv u0 u1 iz (0) mb mn mpt mbg mwr mwk mlf men), (rf_RW ct 0 mw 958 f)] ++ ws_3) := by rw [he_8] at hD; exact hD
    refine lv_if_ne (tgt := 33) hx hb dX11_eventsOf_5 (by decide) (fun hc => absurd (by decide) hc) (fun _ => ?_)
    refine lv_aload_n hx hb dX11_eventsOf_8 rfl (lv_at hl 0 rfl) ?_
    refine lv_iload_n hx hb dX11_eventsOf_9 rfl (lv_at hl 2 rfl) ?_
    refine lv_i2l hx hb dX11_eventsOf_10 rfl ?_
    refine lv_lconst (v := 0) hx hb dX11_eventsOf_11 (by decide) ?_
    refine lv_ldc2 hx hb hown (hts _ kl_RX11_360) dX11_eventsOf_12 ?_
    obtain ⟨hP, hD⟩ := ty_ipPD (E1 := [(rf_MO mo mw ma mf m0 m1 mu mv u0 u1 iz (0) mb mn mpt mbg mwr mwk mlf men), (rf_RW ct 0 mw 958 f)]) (E2 := []) hP hD rfl ty_mva
    refine ty_Ki hP hD hS hA (va_runS (As := [.long p2.toInt64, .long 0, .long 5]) (rest := [.ref mo]) ⟨hx, hb, hml, hown, hts⟩ (m_X11_in l D ct S ws_3 ph xx p2.toInt64 (0 : Int64) (5 : Int64) _ hT hph hy1) (cm_S 3 hts kc_X11_in ki_RX11 kl_RX11_70 ks_X11_in kd_X11_in ⟨Nat.le_of_ble_eq_true rfl, Nat.le_of_ble_eq_true rfl⟩) (ty_preS hP hK hD hS hA hX) rfl rfl hl.1 rfl (lv_room (Nat.le_of_ble_eq_true rfl)) dX11_eventsOf_15 ⟨Nat.le_of_ble_eq_true rfl, Nat.le_of_ble_eq_true rfl⟩) (fun r_9 u H locs hw_10 hP hD hS => ?_)
    obtain ⟨ws_11, rfl⟩ : ∃ z, z = u := ⟨_, rfl⟩
    obtain ⟨hT, rfl⟩ := hw_10
    obtain ⟨hP, hD⟩ := ty_shPD (w2 := ([(rf_MO mo mw ma mf m0 m1 mu mv u0 u1 iz (0) mb mn mpt mbg mwr mwk mlf men), (rf_RW ct 0 mw 958 f)] ++ ws_11)) hP hD rfl
    refine lv_if_ne (tgt := 25) hx hb dX11_eventsOf_18 (by decide) (fun hc_12 => ?_) (fun hc_12 => ?_)
    · refine lv_iconst (v := 0) hx hb dX11_eventsOf_25 (by decide) ?_
      refine lv_iconst (v := 2) hx hb dX11_eventsOf_26 (by decide) ?_
      obtain ⟨hP, hD⟩ := ty_opPD (E1 := [(rf_RW ct 0 mw 958 f)]) (E2 := [(rf_MO mo mw ma mf m0 m1 mu mv u0 u1 iz (0) mb mn mpt mbg mwr mwk mlf men)]) (n := 2) [1, 0] hP hD rfl rfl (by decide +kernel) ty_mva
      refine ty_Ki hP hD hS hA (va_runV (As := [.int 0, .int 2]) (rest := []) ⟨hx, hb, hml, hown, hts⟩ (m_throwsIf_0 l D ct S ws_11 ph xx mo mw ma mf m0 m1 mu mv u0 u1 iz mb mn mpt mbg mwr mwk mlf men (0 : Int32) (2 : Int32) _ hT hph hy1 (by decide)) (cm_V 2 hts kc_X11_throwsIf ki_RX11 kl_RX11_328 kv_X11_throwsIf kx_X11_throwsIf kd_X11_throwsIf ⟨Nat.le_of_ble_eq_true rfl, Nat.le_of_ble_eq_true rfl⟩) (ty_preE (ci := 11) (q0 := 1) hP hK hD hS hA hX rfl rfl) rfl rfl hl.1 rfl (lv_room (Nat.le_of_ble_eq_true rfl)) dX11_eventsOf_27 ⟨Nat.le_of_ble_eq_true rfl, Nat.le_of_ble_eq_true rfl⟩) (fun r_13 u H locs hw_14 hP hD hS => ?_)
      obtain ⟨ws_15, th1_16⟩ := u
      obtain ⟨hT, hp_17⟩ := hw_14
      have hp_17 : ((r_13 = 0 ∧ (0 : Int32) = 0 ∧ th1_16 = 0) ∨ (r_13 = 1 ∧ ¬ (0 : Int32) = 0 ∧ th1_16 = (2 : Int32))) := hp_17
      obtain ⟨hP, hD⟩ := ty_shPD (w2 := ([(rf_RW ct 0 mw 958 f), (rf_MO mo mw ma mf m0 m1 mu mv u0 u1 iz th1_16 mb mn mpt mbg mwr mwk mlf men)] ++ ws_15)) hP hD rfl
      rcases hp_17 with ⟨rfl, hz_18⟩ | ⟨rfl, hz_19⟩
      · have he_20 := hz_18.2
        have hP : va_P D vwCl ([(rf_RW ct 0 mw 958 f), (rf_MO mo mw ma mf m0 m1 mu mv u0 u1 iz (0) mb mn mpt mbg mwr mwk mlf men)] ++ ws_15) H := by rw [he_20] at hP; exact hP
        have hD : va_D A ([(rf_RW ct 0 mw 958 f), (rf_MO mo mw ma mf m0 m1 mu mv u0 u1 iz (0) mb mn mpt mbg mwr mwk mlf men)] ++ ws_15) := by rw [he_20] at hD; exact hD
        refine lv_if_eq (tgt := 35) hx hb dX11_eventsOf_30 (by decide) (fun _ => ?_) (fun hc => absurd (by decide) hc)
        refine lv_iconst (v := 0) hx hb dX11_eventsOf_35 (by decide) ?_
        refine lv_istore_n (lv' := [(3, .int 0), (0, .ref mo), (1, .int p1), (2, .int p2)]) hx hb dX11_eventsOf_36 rfl hl (by decide) rfl (fun ls hl => ?_)
        refine lv_iconst (v := 0) hx hb dX11_eventsOf_37 (by decide) ?_
        refine lv_istore (lv' := [(4, .int 0), (3, .int 0), (0, .ref mo), (1, .int p1), (2, .int p2)]) hx hb dX11_eventsOf_38 hl (by decide) rfl (fun ls hl => ?_)
        refine ty_loop (I := fun μ H locs ls => ∃ (ws : va_W) (y_21 : Int32) (y_22 : Int32), μ = (2147483648 - y_22.toInt).toNat ∧ ty_V ct S ph ws ∧ va_P D vwCl ([(rf_RW ct 0 mw 958 f), (rf_MO mo mw ma mf m0 m1 mu mv u0 u1 iz (0) mb mn mpt mbg mwr mwk mlf men)] ++ ws) H ∧ va_D A ([(rf_RW ct 0 mw 958 f), (rf_MO mo mw ma mf m0 m1 mu mv u0 u1 iz (0) mb mn mpt mbg mwr mwk mlf men)] ++ ws) ∧ va_S A s.heap H locs ∧ lv_has ls 5 [(0, .ref mo), (1, .int p1), (2, .int p2), (3, .int y_21), (4, .int y_22)] ∧ 0 ≤ y_22.toInt) ⟨_, ws_15, (0 : Int32), (0 : Int32), rfl, hT, hP, hD, hS, (lv_sub hl [2, 3, 4, 1, 0] rfl), (by decide)⟩ (fun μ H locs ls hI ih_40 => ?_)
        obtain ⟨ws, y_21, y_22, rfl, hT, hP, hD, hS, hl, hex_40⟩ := hI
        refine lv_iload hx hb dX11_eventsOf_40 (lv_at hl 4 rfl) ?_
        refine lv_aload_n hx hb dX11_eventsOf_42 rfl (lv_at hl 0 rfl) ?_
        refine va_get (v := .ref mw) (D := D) (ci := 11) (C := RX11) (T := TX11) (N := 19) hx hb hts in_X11 hown hK hP 1 rfl rfl 0 (by decide) (hts _ kl_RX11_9) (fun _ h9 => h9) rfl dX11_eventsOf_43 ?_
        refine lv_bipush (v := 17) hx hb dX11_eventsOf_46 (by decide) ?_
        refine va_iald hx hb hK hP 0 0 rfl rfl (cm_vin (by decide)) dX11_eventsOf_48 ?_
        refine cm_cst (y := (f 17)) (by first | rfl | decide +kernel) ?_
        refine lv_icmp_ge (tgt := 104) hx hb dX11_eventsOf_49 (by decide) (fun hc_23 => ?_) (fun hc_23 => ?_)
        · refine lv_iload_n hx hb dX11_eventsOf_104 rfl (lv_at hl 3 rfl) ?_
          obtain ⟨hP, hD⟩ := ty_ordPD (E2 := [(rf_MO mo mw ma mf m0 m1 mu mv u0 u1 iz (0) mb mn mpt mbg mwr mwk mlf men), (rf_RW ct 0 mw 958 f)]) (n := 2) [1, 0] hP hD rfl rfl (by decide +kernel)
          exact W.iret (v := y_21) hx hb hr (fun t ht hW => ⟨⟨y_21, (ws, (0 : Int32)), rfl, ⟨hT, ⟨th1_4, trivial, (Or.inl ⟨hz_6, (Or.inl ⟨hc_12, ⟨th1_16, trivial, ⟨hz_18, ⟨y_21, y_22, hex_40, ⟨hc_23, ⟨rfl, rfl⟩⟩⟩⟩⟩⟩)⟩)⟩⟩, by rw [ht]; exact hP, by rw [hAe]; exact hD⟩, hS.F ht⟩) hS.2.2 dX11_eventsOf_105
        · refine lv_iload_n hx hb dX11_eventsOf_52 rfl (lv_at hl 3 rfl) ?_
          refine lv_aload_n hx hb dX11_eventsOf_53 rfl (lv_at hl 0 rfl) ?_
          refine va_get (v := .ref mw) (D := D) (ci := 11) (C := RX11) (T := TX11) (N := 19) hx hb hts in_X11 hown hK hP 1 rfl rfl 0 (by decide) (hts _ kl_RX11_9) (fun _ h9 => h9) rfl dX11_eventsOf_54 ?_
          refine lv_sipush (v := 718) hx hb dX11_eventsOf_57 (by decide) ?_
          refine lv_iconst (v := 4) hx hb dX11_eventsOf_60 (by decide) ?_
          refine lv_iload hx hb dX11_eventsOf_61 (lv_at hl 4 rfl) ?_
          refine lv_imul hx hb dX11_eventsOf_63 ?_
          refine lv_iadd hx hb dX11_eventsOf_64 ?_
          refine lv_iconst (v := 1) hx hb dX11_eventsOf_65 (by decide) ?_
          refine lv_iadd hx hb dX11_eventsOf_66 ?_
          refine va_iald hx hb hK hP 0 0 rfl rfl (rf_rix (A := 718) (B := 4) (N := 59) (by decide) (by decide) (by have := hex_40; have := hR.2.2.1.2.2; have := rf_ylt rfl hc_23; omega) (by decide) (by omega) (by omega) (by omega) (by omega) (by decide)) dX11_eventsOf_67 ?_
          refine lv_iload_n hx hb dX11_eventsOf_68 rfl (lv_at hl 1 rfl) ?_
          refine lv_icmp_ne (tgt := 95) hx hb dX11_eventsOf_69 (by decide) (fun hc_24 => ?_) (fun hc_24 => ?_)
          · refine lv_iconst (v := 0) hx hb dX11_eventsOf_95 (by decide) ?_
            refine lv_iadd hx hb dX11_eventsOf_96 ?_
            refine lv_istore_n (lv' := [(3, .int (y_21 + 0)), (0, .ref mo), (1, .int p1), (2, .int p2), (4, .int y_22)]) hx hb dX11_eventsOf_97 rfl hl (by decide) rfl (fun ls hl => ?_)
            refine lv_iinc (v := (y_22 + Int32.ofInt 1)) (lv' := [(4, .int (y_22 + Int32.ofInt 1)), (3, .int (y_21 + 0)), (0, .ref mo), (1, .int p1), (2, .int p2)]) hx hb dX11_eventsOf_98 hl (k := 4) rfl rfl (by decide) rfl (fun ls hl => ?_)
            refine lv_goto (tgt := 40) hx hb dX11_eventsOf_101 (by decide) ?_
            exact ih_40 _ _ _ _ (ty_inc (cm_lt hc_23)) ⟨ws, (y_21 + 0), (y_22 + Int32.ofInt 1), rfl, hT, hP, hD, hS, (lv_sub hl [2, 3, 4, 1, 0] rfl), (ty_nn hex_40 (cm_lt hc_23))⟩
          · refine lv_aload_n hx hb dX11_eventsOf_72 rfl (lv_at hl 0 rfl) ?_
            refine va_get (v := .ref mw) (D := D) (ci := 11) (C := RX11) (T := TX11) (N := 19) hx hb hts in_X11 hown hK hP 1 rfl rfl 0 (by decide) (hts _ kl_RX11_9) (fun _ h9 => h9) rfl dX11_eventsOf_73 ?_
            refine lv_sipush (v := 718) hx hb dX11_eventsOf_76 (by decide) ?_
            refine lv_iconst (v := 4) hx hb dX11_eventsOf_79 (by decide) ?_
            refine lv_iload hx hb dX11_eventsOf_80 (lv_at hl 4 rfl) ?_
            refine lv_imul hx hb dX11_eventsOf_82 ?_
            refine lv_iadd hx hb dX11_eventsOf_83 ?_
            refine lv_iconst (v := 2) hx hb dX11_eventsOf_84 (by decide) ?_
            refine lv_iadd hx hb dX11_eventsOf_85 ?_
            refine va_iald hx hb hK hP 0 0 rfl rfl (rf_rix (A := 718) (B := 4) (N := 59) (by decide) (by decide) (by have := hex_40; have := hR.2.2.1.2.2; have := rf_ylt rfl hc_23; omega) (by decide) (by omega) (by omega) (by omega) (by omega) (by decide)) dX11_eventsOf_86 ?_
            refine lv_iload_n hx hb dX11_eventsOf_87 rfl (lv_at hl 2 rfl) ?_
            refine lv_icmp_ne (tgt := 95) hx hb dX11_eventsOf_88 (by decide) (fun hc_25 => ?_) (fun hc_25 => ?_)
            · refine lv_iconst (v := 0) hx hb dX11_eventsOf_95 (by decide) ?_
              refine lv_iadd hx hb dX11_eventsOf_96 ?_
              refine lv_istore_n (lv' := [(3, .int (y_21 + 0)), (0, .ref mo), (1, .int p1), (2, .int p2), (4, .int y_22)]) hx hb dX11_eventsOf_97 rfl hl (by decide) rfl (fun ls hl => ?_)
              refine lv_iinc (v := (y_22 + Int32.ofInt 1)) (lv' := [(4, .int (y_22 + Int32.ofInt 1)), (3, .int (y_21 + 0)), (0, .ref mo), (1, .int p1), (2, .int p2)]) hx hb dX11_eventsOf_98 hl (k := 4) rfl rfl (by decide) rfl (fun ls hl => ?_)
              refine lv_goto (tgt := 40) hx hb dX11_eventsOf_101 (by decide) ?_
              exact ih_40 _ _ _ _ (ty_inc (cm_lt hc_23)) ⟨ws, (y_21 + 0), (y_22 + Int32.ofInt 1), rfl, hT, hP, hD, hS, (lv_sub hl [2, 3, 4, 1, 0] rfl), (ty_nn hex_40 (cm_lt hc_23))⟩
            · refine lv_iconst (v := 1) hx hb dX11_eventsOf_91 (by decide) ?_
              refine lv_goto (tgt := 96) hx hb dX11_eventsOf_92 (by decide) ?_
              refine lv_iadd hx hb dX11_eventsOf_96 ?_
              refine lv_istore_n (lv' := [(3, .int (y_21 + 1)), (0, .ref mo), (1, .int p1), (2, .int p2), (4, .int y_22)]) hx hb dX11_eventsOf_97 rfl hl (by decide) rfl (fun ls hl => ?_)
              refine lv_iinc (v := (y_22 + Int32.ofInt 1)) (lv' := [(4, .int (y_22 + Int32.ofInt 1)), (3, .int (y_21 + 1)), (0, .ref mo), (1, .int p1), (2, .int p2)]) hx hb dX11_eventsOf_98 hl (k := 4) rfl rfl (by decide) rfl (fun ls hl => ?_)
              refine lv_goto (tgt := 40) hx hb dX11_eventsOf_101 (by decide) ?_
              exact ih_40 _ _ _ _ (ty_inc (cm_lt hc_23)) ⟨ws, (y_21 + 1), (y_22 + Int32.ofInt 1), rfl, hT, hP, hD, hS, (lv_sub hl [2, 3, 4, 1, 0] rfl), (ty_nn hex_40 (cm_lt hc_23))⟩
      · exact absurd rfl hz_19.1
    · refine lv_iconst (v := 1) hx hb dX11_eventsOf_21 (by decide) ?_
      refine lv_goto (tgt := 26) hx hb dX11_eventsOf_22 (by decide) ?_
      refine lv_iconst (v := 2) hx hb dX11_eventsOf_26 (by decide) ?_
      obtain ⟨hP, hD⟩ := ty_opPD (E1 := [(rf_RW ct 0 mw 958 f)]) (E2 := [(rf_MO mo mw ma mf m0 m1 mu mv u0 u1 iz (0) mb mn mpt mbg mwr mwk mlf men)]) (n := 2) [1, 0] hP hD rfl rfl (by decide +kernel) ty_mva
      refine ty_Ki hP hD hS hA (va_runV (As := [.int 1, .int 2]) (rest := []) ⟨hx, hb, hml, hown, hts⟩ (m_throwsIf_0 l D ct S ws_11 ph xx mo mw ma mf m0 m1 mu mv u0 u1 iz mb mn mpt mbg mwr mwk mlf men (1 : Int32) (2 : Int32) _ hT hph hy1 (by decide)) (cm_V 2 hts kc_X11_throwsIf ki_RX11 kl_RX11_328 kv_X11_throwsIf kx_X11_throwsIf kd_X11_throwsIf ⟨Nat.le_of_ble_eq_true rfl, Nat.le_of_ble_eq_true rfl⟩) (ty_preE (ci := 11) (q0 := 1) hP hK hD hS hA hX rfl rfl) rfl rfl hl.1 rfl (lv_room (Nat.le_of_ble_eq_true rfl)) dX11_eventsOf_27 ⟨Nat.le_of_ble_eq_true rfl, Nat.le_of_ble_eq_true rfl⟩) (fun r_26 u H locs hw_27 hP hD hS => ?_)
      obtain ⟨ws_28, th1_29⟩ := u
      obtain ⟨hT, hp_30⟩ := hw_27
      have hp_30 : ((r_26 = 0 ∧ (1 : Int32) = 0 ∧ th1_29 = 0) ∨ (r_26 = 1 ∧ ¬ (1 : Int32) = 0 ∧ th1_29 = (2 : Int32))) := hp_30
      obtain ⟨hP, hD⟩ := ty_shPD (w2 := ([(rf_RW ct 0 mw 958 f), (rf_MO mo mw ma mf m0 m1 mu mv u0 u1 iz th1_29 mb mn mpt mbg mwr mwk mlf men)] ++ ws_28)) hP hD rfl
      rcases hp_30 with ⟨rfl, hz_31⟩ | ⟨rfl, hz_32⟩
      · exact absurd hz_31.1 (by decide)
      · have he_33 := hz_32.2
        have hP : va_P D vwCl ([(rf_RW ct 0 mw 958 f), (rf_MO mo mw ma mf m0 m1 mu mv u0 u1 iz (2) mb mn mpt mbg mwr mwk mlf men)] ++ ws_28) H := by rw [he_33] at hP; exact hP
        have hD : va_D A ([(rf_RW ct 0 mw 958 f), (rf_MO mo mw ma mf m0 m1 mu mv u0 u1 iz (2) mb mn mpt mbg mwr mwk mlf men)] ++ ws_28) := by rw [he_33] at hD; exact hD
        refine lv_if_eq (tgt := 35) hx hb dX11_eventsOf_30 (by decide) (fun hc => absurd hc (by decide)) (fun _ => ?_)
        refine lv_iconst (v := 0) hx hb dX11_eventsOf_33 (by decide) ?_
        obtain ⟨hP, hD⟩ := ty_ordPD (E2 := [(rf_MO mo mw ma mf m0 m1 mu mv u0 u1 iz (2) mb mn mpt mbg mwr mwk mlf men), (rf_RW ct 0 mw 958 f)]) (n := 2) [1, 0] hP hD rfl rfl (by decide +kernel)
        exact W.iret (v := 0) hx hb hr (fun t ht hW => ⟨⟨0, (ws_28, (2 : Int32)), rfl, ⟨hT, ⟨th1_4, trivial, (Or.inl ⟨hz_6, (Or.inr ⟨hc_12, ⟨th1_29, trivial, ⟨hz_32, ⟨rfl, rfl⟩⟩⟩⟩)⟩)⟩⟩, by rw [ht]; exact hP, by rw [hAe]; exact hD⟩, hS.F ht⟩) hS.2.2 dX11_eventsOf_34
  · have he_34 := hz_7.2
    have hP : va_P D vwCl ([(rf_MO mo mw ma mf m0 m1 mu mv u0 u1 iz (1) mb mn mpt mbg mwr mwk mlf men), (rf_RW ct 0 mw 958 f)] ++ ws_3) H := by rw [he_34] at hP; exact hP
    have hD : va_D A ([(rf_MO mo mw ma mf m0 m1 mu mv u0 u1 iz (1) mb mn mpt mbg mwr mwk mlf men), (rf_RW ct 0 mw 958 f)] ++ ws_3) := by rw [he_34] at hD; exact hD
    refine lv_if_ne (tgt := 33) hx hb dX11_eventsOf_5 (by decide) (fun _ => ?_) (fun hc => absurd hc (by decide))
    refine lv_iconst (v := 0) hx hb dX11_eventsOf_33 (by decide) ?_
    exact W.iret (v := 0) hx hb hr (fun t ht hW => ⟨⟨0, (ws_3, (1 : Int32)), rfl, ⟨hT, ⟨th1_4, trivial, (Or.inr ⟨hz_7, ⟨rfl, rfl⟩⟩)⟩⟩, by rw [ht]; exact hP, by rw [hAe]; exact hD⟩, hS.F ht⟩) hS.2.2 dX11_eventsOf_34
def q_X11_inState (f : Nat → Int32) (G : Nat → Int32) (p1 : Int32) (r : Int32) (th1 : Int32) : Prop := ((¬ (cm_rng p1.toInt64 0 4) = (0 : Int32) ∧ (∃ (th1_8 : Int32), True ∧ (((0 : Int32) = 0 ∧ th1_8 = 0) ∧ (∃ (y_13 : Int32) (y_14 : Int32), ((0 ≤ y_14.toInt ∧ y_14.toInt ≤ (G 9).toInt) ∧ y_13 = q_is f p1 y_14.toInt.toNat) ∧ ((f 9) ≤ y_14 ∧ (r = y_13 ∧ th1 = 0)))))) ∨ ((cm_rng p1.toInt64 0 4) = (0 : Int32) ∧ (∃ (th1_25 : Int32), True ∧ ((¬ (1 : Int32) = 0 ∧ th1_25 = (1 : Int32)) ∧ (r = 0 ∧ th1 = 1)))))
set_option maxRecDepth 100000 in
set_option maxHeartbeats 4000000 in
theorem m_X11_inState (l : Launch) (D : va_G) (ct : Nat → ClassId) (S : ty_S) (ws : va_W) (ph : va_W → Prop) (xx : Nat → Nat → Nat → Prop) (mo : Nat) (mw : Nat) (ma : Nat) (mf : Nat) (m0 : Nat) (m1 : Nat) (mu : Nat) (mv : Nat) (u0 : Nat) (u1 : Nat) (iz : Nat) (mb : Nat) (th : Int32) (mn : Int32) (mpt : Int32) (mbg : Int32) (mwr : Int32) (mwk : Int32) (mlf : Int32) (men : Int32) (f : Nat → Int32) (G : Nat → Int32) (cx : Int) (p1 : Int32) (sz : Nat) (hT : ty_V ct S ph ws) (hph : ty_C ph xx) (hy1 : ty_y1 xx) (hR : rf_R G cx f) : Met l yX11_inState (ws_ yX11_inState cX11_inState 4 (some .int)) ({ frames := 2, cells := 0, slots := 0, locals := 44 } : Room) (va_Pc [.ref mo, .int p1] (cmP D ct sz ([(rf_MO mo mw ma mf m0 m1 mu mv u0 u1 iz th mb mn mpt mbg mwr mwk mlf men), (rf_RW ct 0 mw 958 f)] ++ ws))) (va_Qi (fun (r : Int32) (u : va_W × Int32) => match u with | (u9, th1) => ty_V ct S ph u9 ∧ (q_X11_inState f G p1 r th1)) (cmB D ([(rf_MO mo mw ma mf m0 m1 mu mv u0 u1 iz th mb mn mpt mbg mwr mwk mlf men), (rf_RW ct 0 mw 958 f)] ++ ws) sz (fun (u : va_W × Int32) => match u with | (u9, th1) => ([(rf_MO mo mw ma mf m0 m1 mu mv u0 u1 iz th1 mb mn mpt mbg mwr mwk mlf men), (rf_RW ct 0 mw 958 f)] ++ u9))) (va_A ([(rf_MO mo mw ma mf m0 m1 mu mv u0 u1 iz th mb mn mpt mbg mwr mwk mlf men), (rf_RW ct 0 mw 958 f)] ++ ws) sz)) 0 0 (va_A ([(rf_MO mo mw ma mf m0 m1 mu mv u0 u1 iz th mb mn mpt mbg mwr mwk mlf men), (rf_RW ct 0 mw 958 f)] ++ ws) sz) := by
  refine Met.ofW (cc := cX11_inState) (maxL := 4) (ret := (some .int)) (by decide) rfl ?_
  intro p e s m args below meth c s₁ B hml hv
  obtain ⟨rfl, hsz, hP, hK, hD0, hX⟩ := hv
  have hx := B.exec
  have hb := B.bytes
  have hr := B.returns
  have hts := ws_all (atoms_spec (ws := ws_ yX11_inState cX11_inState 4 (some .int)) B.pre)
  have hown : s.vm.findClass RX11 = some m.cls := findClass_of_methodNamed B.named
  have hlocks := B.notSynchronized
  subst hsz
  have hD := hD0.self (sz := s.heap.size)
  generalize hAe : va_A ([(rf_MO mo mw ma mf m0 m1 mu mv u0 u1 iz th mb mn mpt mbg mwr mwk mlf men), (rf_RW ct 0 mw 958 f)] ++ ws) s.heap.size = A at hD hX ⊢
  have hA : ∀ q : Nat, s.heap.size ≤ q → A q := fun q h => by rw [← hAe]; exact Or.inr h
  have hS : va_S A s.heap s.heap [] := va_S.rf
  have hl := lv_entry ([.ref mo, .int p1]) (n := 4) (Nat.le_of_ble_eq_true rfl)
  rw [lg_entry_eq]
  generalize (lg_sl ([.ref mo, .int p1]) ++ List.replicate (4 - (lg_sl ([.ref mo, .int p1])).length) Slot.unset).toArray = ls at hl ⊢
  have hl : lv_has ls 4 [(0, .ref mo), (1, .int p1)] := hl
  refine lv_aload_n hx hb dX11_inState_0 rfl (lv_at hl 0 rfl) ?_
  refine lv_iconst (v := 0) hx hb dX11_inState_1 (by decide) ?_
  refine va_put (v := .int 0) (ty := .int) (D := D) (ci := 11) (C := RX11) (T := TX11) (N := 19) hx hb hts in_X11 tyX11 tyX11_ok nmX11 hown hK hP hD hS 0 rfl rfl 10 (by decide) (hts _ kl_RX11_49) (fun _ h9 => h9) rfl (by decide +kernel) rfl rfl (Nat.le_of_ble_eq_true rfl) dX11_inState_2 (fun H locs hP hD hS => ?_)
  have hP : va_P D vwCl ([(rf_MO mo mw ma mf m0 m1 mu mv u0 u1 iz (0) mb mn mpt mbg mwr mwk mlf men), (rf_RW ct 0 mw 958 f)] ++ ws) H := hP
  have hD : va_D A ([(rf_MO mo mw ma mf m0 m1 mu mv u0 u1 iz (0) mb mn mpt mbg mwr mwk mlf men), (rf_RW ct 0 mw 958 f)] ++ ws) := hD
  refine lv_aload_n hx hb dX11_inState_5 rfl (lv_at hl 0 rfl) ?_
  refine lv_iload_n hx hb dX11_inState_6 rfl (lv_at hl 1 rfl) ?_
  refine lv_i2l hx hb dX11_inState_7 rfl ?_
  refine lv_lconst (v := 0) hx hb dX11_inState_8 (by decide) ?_
  refine lv_ldc2 hx hb hown (hts _ kl_RX11_364) dX11_inState_9 ?_
  obtain ⟨hP, hD⟩ := ty_ipPD (E1 := [(rf_MO mo mw ma mf m0 m1 mu mv u0 u1 iz (0) mb mn mpt mbg mwr mwk mlf men), (rf_RW ct 0 mw 958 f)]) (E2 := []) hP hD rfl ty_mva
  refine ty_Ki hP hD hS hA (va_runS (As := [.long p1.toInt64, .long 0, .long 4]) (rest := [.ref mo]) ⟨hx, hb, hml, hown, hts⟩ (m_X11_in l D ct S ws ph xx p1.toInt64 (0 : Int64) (4 : Int64) _ hT hph hy1) (cm_S 3 hts kc_X11_in ki_RX11 kl_RX11_70 ks_X11_in kd_X11_in ⟨Nat.le_of_ble_eq_true rfl, Nat.le_of_ble_eq_true rfl⟩) (ty_preS hP hK hD hS hA hX) rfl rfl hl.1 rfl (lv_room (Nat.le_of_ble_eq_true rfl)) dX11_inState_12 ⟨Nat.le_of_ble_eq_true rfl, Nat.le_of_ble_eq_true rfl⟩) (fun r_1 u H locs hw_2 hP hD hS => ?_)
  obtain ⟨ws_3, rfl⟩ : ∃ z, z = u := ⟨_, rfl⟩
  obtain ⟨hT, rfl⟩ := hw_2
  obtain ⟨hP, hD⟩ := ty_shPD (w2 := ([(rf_MO mo mw ma mf m0 m1 mu mv u0 u1 iz (0) mb mn mpt mbg mwr mwk mlf men), (rf_RW ct 0 mw 958 f)] ++ ws_3)) hP hD rfl
  refine lv_if_ne (tgt := 22) hx hb dX11_inState_15 (by decide) (fun hc_4 => ?_) (fun hc_4 => ?_)
  · refine lv_iconst (v := 0) hx hb dX11_inState_22 (by decide) ?_
    refine lv_iconst (v := 1) hx hb dX11_inState_23 (by decide) ?_
    obtain ⟨hP, hD⟩ := ty_opPD (E1 := [(rf_RW ct 0 mw 958 f)]) (E2 := [(rf_MO mo mw ma mf m0 m1 mu mv u0 u1 iz (0) mb mn mpt mbg mwr mwk mlf men)]) (n := 2) [1, 0] hP hD rfl rfl (by decide +kernel) ty_mva
    refine ty_Ki hP hD hS hA (va_runV (As := [.int 0, .int 1]) (rest := []) ⟨hx, hb, hml, hown, hts⟩ (m_throwsIf_0 l D ct S ws_3 ph xx mo mw ma mf m0 m1 mu mv u0 u1 iz mb mn mpt mbg mwr mwk mlf men (0 : Int32) (1 : Int32) _ hT hph hy1 (by decide)) (cm_V 2 hts kc_X11_throwsIf ki_RX11 kl_RX11_328 kv_X11_throwsIf kx_X11_throwsIf kd_X11_throwsIf ⟨Nat.le_of_ble_eq_true rfl, Nat.le_of_ble_eq_true rfl⟩) (ty_preE (ci := 11) (q0 := 1) hP hK hD hS hA hX rfl rfl) rfl rfl hl.1 rfl (lv_room (Nat.le_of_ble_eq_true rfl)) dX11_inState_24 ⟨Nat.le_of_ble_eq_true rfl, Nat.le_of_ble_eq_true rfl⟩) (fun r_5 u H locs hw_6 hP hD hS => ?_)
    obtain ⟨ws_7, th1_8⟩ := u
    obtain ⟨hT, hp_9⟩ := hw_6
    have hp_9 : ((r_5 = 0 ∧ (0 : Int32) = 0 ∧ th1_8 = 0) ∨ (r_5 = 1 ∧ ¬ (0 : Int32) = 0 ∧ th1_8 = (1 : Int32))) := hp_9
    obtain ⟨hP, hD⟩ := ty_shPD (w2 := ([(rf_RW ct 0 mw 958 f), (rf_MO mo mw ma mf m0 m1 mu mv u0 u1 iz th1_8 mb mn mpt mbg mwr mwk mlf men)] ++ ws_7)) hP hD rfl
    rcases hp_9 with ⟨rfl, hz_10⟩ | ⟨rfl, hz_11⟩
    · have he_12 := hz_10.2
      have hP : va_P D vwCl ([(rf_RW ct 0 mw 958 f), (rf_MO mo mw ma mf m0 m1 mu mv u0 u1 iz (0) mb mn mpt mbg mwr mwk mlf men)] ++ ws_7) H := by rw [he_12] at hP; exact hP
      have hD : va_D A ([(rf_RW ct 0 mw 958 f), (rf_MO mo mw ma mf m0 m1 mu mv u0 u1 iz (0) mb mn mpt mbg mwr mwk mlf men)] ++ ws_7) := by rw [he_12] at hD; exact hD
      refine lv_if_eq (tgt := 32) hx hb dX11_inState_27 (by decide) (fun _ => ?_) (fun hc => absurd (by decide) hc)
      refine lv_iconst (v := 0) hx hb dX11_inState_32 (by decide) ?_
      refine lv_istore_n (lv' := [(2, .int 0), (0, .ref mo), (1, .int p1)]) hx hb dX11_inState_33 rfl hl (by decide) rfl (fun ls hl => ?_)
      refine lv_iconst (v := 0) hx hb dX11_inState_34 (by decide) ?_
      refine lv_istore_n (lv' := [(3, .int 0), (2, .int 0), (0, .ref mo), (1, .int p1)]) hx hb dX11_inState_35 rfl hl (by decide) rfl (fun ls hl => ?_)
      refine ty_loop (I := fun μ H locs ls => ∃ (ws : va_W) (y_13 : Int32) (y_14 : Int32), μ = (2147483648 - y_14.toInt).toNat ∧ ty_V ct S ph ws ∧ va_P D vwCl ([(rf_RW ct 0 mw 958 f), (rf_MO mo mw ma mf m0 m1 mu mv u0 u1 iz (0) mb mn mpt mbg mwr mwk mlf men)] ++ ws) H ∧ va_D A ([(rf_RW ct 0 mw 958 f), (rf_MO mo mw ma mf m0 m1 mu mv u0 u1 iz (0) mb mn mpt mbg mwr mwk mlf men)] ++ ws) ∧ va_S A s.heap H locs ∧ lv_has ls 4 [(0, .ref mo), (1, .int p1), (2, .int y_13), (3, .int y_14)] ∧ (0 ≤ y_14.toInt ∧ y_14.toInt ≤ (G 9).toInt) ∧ y_13 = q_is f p1 y_14.toInt.toNat) ⟨_, ws_7, (0 : Int32), (0 : Int32), rfl, hT, hP, hD, hS, (lv_sub hl [2, 3, 1, 0] rfl), ⟨⟨by decide, (by have := hR.1.2.2.1.1; have z : (0 : Int32).toInt = 0 := (by decide); omega)⟩, rfl⟩⟩ (fun μ H locs ls hI ih_36 => ?_)
      obtain ⟨ws, y_13, y_14, rfl, hT, hP, hD, hS, hl, hex_36⟩ := hI
      refine lv_iload_n hx hb dX11_inState_36 rfl (lv_at hl 3 rfl) ?_
      refine lv_aload_n hx hb dX11_inState_37 rfl (lv_at hl 0 rfl) ?_
      refine va_get (v := .ref mw) (D := D) (ci := 11) (C := RX11) (T := TX11) (N := 19) hx hb hts in_X11 hown hK hP 1 rfl rfl 0 (by decide) (hts _ kl_RX11_9) (fun _ h9 => h9) rfl dX11_inState_38 ?_
      refine lv_bipush (v := 9) hx hb dX11_inState_41 (by decide) ?_
      refine va_iald hx hb hK hP 0 0 rfl rfl (cm_vin (by decide)) dX11_inState_43 ?_
      refine cm_cst (y := (f 9)) (by first | rfl | decide +kernel) ?_
      refine lv_icmp_ge (tgt := 72) hx hb dX11_inState_44 (by decide) (fun hc_15 => ?_) (fun hc_15 => ?_)
      · refine lv_iload_n hx hb dX11_inState_72 rfl (lv_at hl 2 rfl) ?_
        obtain ⟨hP, hD⟩ := ty_ordPD (E2 := [(rf_MO mo mw ma mf m0 m1 mu mv u0 u1 iz (0) mb mn mpt mbg mwr mwk mlf men), (rf_RW ct 0 mw 958 f)]) (n := 2) [1, 0] hP hD rfl rfl (by decide +kernel)
        exact W.iret (v := y_13) hx hb hr (fun t ht hW => ⟨⟨y_13, (ws, (0 : Int32)), rfl, ⟨hT, (Or.inl ⟨hc_4, ⟨th1_8, trivial, ⟨hz_10, ⟨y_13, y_14, hex_36, ⟨hc_15, ⟨rfl, rfl⟩⟩⟩⟩⟩⟩)⟩, by rw [ht]; exact hP, by rw [hAe]; exact hD⟩, hS.F ht⟩) hS.2.2 dX11_inState_73
      · refine lv_iload_n hx hb dX11_inState_47 rfl (lv_at hl 2 rfl) ?_
        refine lv_aload_n hx hb dX11_inState_48 rfl (lv_at hl 0 rfl) ?_
        refine lv_iload_n hx hb dX11_inState_49 rfl (lv_at hl 3 rfl) ?_
        refine lv_iload_n hx hb dX11_inState_50 rfl (lv_at hl 1 rfl) ?_
        obtain ⟨hP, hD⟩ := ty_opPD (E1 := []) (E2 := [(rf_MO mo mw ma mf m0 m1 mu mv u0 u1 iz (0) mb mn mpt mbg mwr mwk mlf men), (rf_RW ct 0 mw 958 f)]) (n := 2) [1, 0] hP hD rfl rfl (by decide +kernel) ty_mva
        refine ty_Ki hP hD hS hA (va_runV (As := [.int y_14, .int p1]) (rest := [.int y_13]) ⟨hx, hb, hml, hown, hts⟩ (m_X11_isIn l D ct S ws ph xx mo mw ma mf m0 m1 mu mv u0 u1 iz mb (0 : Int32) mn mpt mbg mwr mwk mlf men f G cx y_14 p1 _ hT hph hy1 hR ⟨hex_36.1.1, by rw [← hR.2.1.2.2.2.2.1]; exact rf_ylt rfl hc_15⟩) (cm_V 2 hts kc_X11_isIn ki_RX11 kl_RX11_350 kv_X11_isIn kx_X11_isIn kd_X11_isIn ⟨Nat.le_of_ble_eq_true rfl, Nat.le_of_ble_eq_true rfl⟩) (ty_preE (ci := 11) (q0 := 0) hP hK hD hS hA hX rfl rfl) rfl rfl hl.1 rfl (lv_room (Nat.le_of_ble_eq_true rfl)) dX11_inState_51 ⟨Nat.le_of_ble_eq_true rfl, Nat.le_of_ble_eq_true rfl⟩) (fun r_16 u H locs hw_17 hP hD hS => ?_)
        obtain ⟨ws_18, rfl⟩ : ∃ z, z = u := ⟨_, rfl⟩
        obtain ⟨hT, hp_19⟩ := hw_17
        have hp_19 : ((r_16 = 0 ∧ ¬ rf_of f y_14 0 = p1) ∨ (r_16 = 1 ∧ rf_of f y_14 0 = p1)) := hp_19
        obtain ⟨hP, hD⟩ := ty_shPD (w2 := ([(rf_MO mo mw ma mf m0 m1 mu mv u0 u1 iz (0) mb mn mpt mbg mwr mwk mlf men), (rf_RW ct 0 mw 958 f)] ++ ws_18)) hP hD rfl
        rcases hp_19 with ⟨rfl, hz_20⟩ | ⟨rfl, hz_21⟩
        · refine lv_if_eq (tgt := 63) hx hb dX11_inState_54 (by decide) (fun _ => ?_) (fun hc => absurd (by decide) hc)
          refine lv_iconst (v := 0) hx hb dX11_inState_63 (by decide) ?_
          refine lv_ior hx hb dX11_inState_64 ?_
          refine lv_istore_n (lv' := [(2, .int (y_13 ||| 0)), (0, .ref mo), (1, .int p1), (3, .int y_14)]) hx hb dX11_inState_65 rfl hl (by decide) rfl (fun ls hl => ?_)
          refine lv_iinc (v := (y_14 + Int32.ofInt 1)) (lv' := [(3, .int (y_14 + Int32.ofInt 1)), (2, .int (y_13 ||| 0)), (0, .ref mo), (1, .int p1)]) hx hb dX11_inState_66 hl (k := 3) rfl rfl (by decide) rfl (fun ls hl => ?_)
          refine lv_goto (tgt := 36) hx hb dX11_inState_69 (by decide) ?_
          obtain ⟨hP, hD⟩ := ty_ordPD (E2 := [(rf_RW ct 0 mw 958 f), (rf_MO mo mw ma mf m0 m1 mu mv u0 u1 iz (0) mb mn mpt mbg mwr mwk mlf men)]) (n := 2) [1, 0] hP hD rfl rfl (by decide +kernel)
          exact ih_36 _ _ _ _ (ty_inc (cm_lt hc_15)) ⟨ws_18, (y_13 ||| 0), (y_14 + Int32.ofInt 1), rfl, hT, hP, hD, hS, (lv_sub hl [2, 3, 1, 0] rfl), ⟨⟨ty_nn hex_36.1.1 (cm_lt hc_15), (by have := hex_36.1; have q9 : y_14.toInt < (G 9).toInt := (by rw [← hR.2.1.2.2.2.2.1]; exact rf_ylt rfl hc_15); have := hR.1.2.2.1; have e9 := rf_oi (n := y_14) (by omega); omega)⟩, q_isF hex_36.1.1 hc_15 hex_36.2 hz_20⟩⟩
        · refine lv_if_eq (tgt := 63) hx hb dX11_inState_54 (by decide) (fun hc => absurd hc (by decide)) (fun _ => ?_)
          refine lv_iconst (v := 1) hx hb dX11_inState_57 (by decide) ?_
          refine lv_iload_n hx hb dX11_inState_58 rfl (lv_at hl 3 rfl) ?_
          refine lv_ishl hx hb dX11_inState_59 ?_
          refine lv_goto (tgt := 64) hx hb dX11_inState_60 (by decide) ?_
          refine lv_ior hx hb dX11_inState_64 ?_
          refine lv_istore_n (lv' := [(2, .int (y_13 ||| ((1 : Int32) <<< (y_14 &&& 31)))), (0, .ref mo), (1, .int p1), (3, .int y_14)]) hx hb dX11_inState_65 rfl hl (by decide) rfl (fun ls hl => ?_)
          refine lv_iinc (v := (y_14 + Int32.ofInt 1)) (lv' := [(3, .int (y_14 + Int32.ofInt 1)), (2, .int (y_13 ||| ((1 : Int32) <<< (y_14 &&& 31)))), (0, .ref mo), (1, .int p1)]) hx hb dX11_inState_66 hl (k := 3) rfl rfl (by decide) rfl (fun ls hl => ?_)
          refine lv_goto (tgt := 36) hx hb dX11_inState_69 (by decide) ?_
          obtain ⟨hP, hD⟩ := ty_ordPD (E2 := [(rf_RW ct 0 mw 958 f), (rf_MO mo mw ma mf m0 m1 mu mv u0 u1 iz (0) mb mn mpt mbg mwr mwk mlf men)]) (n := 2) [1, 0] hP hD rfl rfl (by decide +kernel)
          exact ih_36 _ _ _ _ (ty_inc (cm_lt hc_15)) ⟨ws_18, (y_13 ||| ((1 : Int32) <<< (y_14 &&& 31))), (y_14 + Int32.ofInt 1), rfl, hT, hP, hD, hS, (lv_sub hl [2, 3, 1, 0] rfl), ⟨⟨ty_nn hex_36.1.1 (cm_lt hc_15), (by have := hex_36.1; have q9 : y_14.toInt < (G 9).toInt := (by rw [← hR.2.1.2.2.2.2.1]; exact rf_ylt rfl hc_15); have := hR.1.2.2.1; have e9 := rf_oi (n := y_14) (by omega); omega)⟩, q_isT hex_36.1.1 hc_15 hex_36.2 hz_21⟩⟩
    · exact absurd rfl hz_11.1
  · refine lv_iconst (v := 1) hx hb dX11_inState_18 (by decide) ?_
    refine lv_goto (tgt := 23) hx hb dX11_inState_19 (by decide) ?_
    refine lv_iconst (v := 1) hx hb dX11_inState_23 (by decide) ?_
    obtain ⟨hP, hD⟩ := ty_opPD (E1 := [(rf_RW ct 0 mw 958 f)]) (E2 := [(rf_MO mo mw ma mf m0 m1 mu mv u0 u1 iz (0) mb mn mpt mbg mwr mwk mlf men)]) (n := 2) [1, 0] hP hD rfl rfl (by decide +kernel) ty_mva
    refine ty_Ki hP hD hS hA (va_runV (As := [.int 1, .int 1]) (rest := []) ⟨hx, hb, hml, hown, hts⟩ (m_throwsIf_0 l D ct S ws_3 ph xx mo mw ma mf m0 m1 mu mv u0 u1 iz mb mn mpt mbg mwr mwk mlf men (1 : Int32) (1 : Int32) _ hT hph hy1 (by decide)) (cm_V 2 hts kc_X11_throwsIf ki_RX11 kl_RX11_328 kv_X11_throwsIf kx_X11_throwsIf kd_X11_throwsIf ⟨Nat.le_of_ble_eq_true rfl, Nat.le_of_ble_eq_true rfl⟩) (ty_preE (ci := 11) (q0 := 1) hP hK hD hS hA hX rfl rfl) rfl rfl hl.1 rfl (lv_room (Nat.le_of_ble_eq_true rfl)) dX11_inState_24 ⟨Nat.le_of_ble_eq_true rfl, Nat.le_of_ble_eq_true rfl⟩) (fun r_22 u H locs hw_23 hP hD hS => ?_)
    obtain ⟨ws_24, th1_25⟩ := u
    obtain ⟨hT, hp_26⟩ := hw_23
    have hp_26 : ((r_22 = 0 ∧ (1 : Int32) = 0 ∧ th1_25 = 0) ∨ (r_22 = 1 ∧ ¬ (1 : Int32) = 0 ∧ th1_25 = (1 : Int32))) := hp_26
    obtain ⟨hP, hD⟩ := ty_shPD (w2 := ([(rf_RW ct 0 mw 958 f), (rf_MO mo mw ma mf m0 m1 mu mv u0 u1 iz th1_25 mb mn mpt mbg mwr mwk mlf men)] ++ ws_24)) hP hD rfl
    rcases hp_26 with ⟨rfl, hz_27⟩ | ⟨rfl, hz_28⟩
    · exact absurd hz_27.1 (by decide)
    · have he_29 := hz_28.2
      have hP : va_P D vwCl ([(rf_RW ct 0 mw 958 f), (rf_MO mo mw ma mf m0 m1 mu mv u0 u1 iz (1) mb mn mpt mbg mwr mwk mlf men)] ++ ws_24) H := by rw [he_29] at hP; exact hP
      have hD : va_D A ([(rf_RW ct 0 mw 958 f), (rf_MO mo mw ma mf m0 m1 mu mv u0 u1 iz (1) mb mn mpt mbg mwr mwk mlf men)] ++ ws_24) := by rw [he_29] at hD; exact hD
      refine lv_if_eq (tgt := 32) hx hb dX11_inState_27 (by decide) (fun hc => absurd hc (by decide)) (fun _ => ?_)
      refine lv_iconst (v := 0) hx hb dX11_inState_30 (by decide) ?_
      obtain ⟨hP, hD⟩ := ty_ordPD (E2 := [(rf_MO mo mw ma mf m0 m1 mu mv u0 u1 iz (1) mb mn mpt mbg mwr mwk mlf men), (rf_RW ct 0 mw 958 f)]) (n := 2) [1, 0] hP hD rfl rfl (by decide +kernel)
      exact W.iret (v := 0) hx hb hr (fun t ht hW => ⟨⟨0, (ws_24, (1 : Int32)), rfl, ⟨hT, (Or.inr ⟨hc_4, ⟨th1_25, trivial, ⟨hz_28, ⟨rfl, rfl⟩⟩⟩⟩)⟩, by rw [ht]; exact hP, by rw [hAe]; exact hD⟩, hS.F ht⟩) hS.2.2 dX11_inState_31
def q_X11_weakest (f : Nat → Int32) (G : Nat → Int32) (r : Int32) (th1 : Int32) : Prop := (∃ (y_1 : Int32) (y_2 : Int32), (((0 ≤ y_2.toInt ∧ y_2.toInt ≤ (G 9).toInt) ∧ q_wk f y_2.toInt.toNat y_1) ∧ (y_1 = -1 ∨ (0 ≤ y_1.toInt ∧ y_1.toInt < (G 9).toInt))) ∧ ((f 9) ≤ y_2 ∧ (r = y_1 ∧ th1 = 0)))
set_option maxRecDepth 100000 in
set_option maxHeartbeats 4000000 in
theorem m_X11_weakest (l : Launch) (D : va_G) (ct : Nat → ClassId) (S : ty_S) (ws : va_W) (ph : va_W → Prop) (xx : Nat → Nat → Nat → Prop) (mo : Nat) (mw : Nat) (ma : Nat) (mf : Nat) (m0 : Nat) (m1 : Nat) (mu : Nat) (mv : Nat) (u0 : Nat) (u1 : Nat) (iz : Nat) (mb : Nat) (th : Int32) (mn : Int32) (mpt : Int32) (mbg : Int32) (mwr : Int32) (mwk : Int32) (mlf : Int32) (men : Int32) (f : Nat → Int32) (G : Nat → Int32) (cx : Int) (sz : Nat) (hT : ty_V ct S ph ws) (hph : ty_C ph xx) (hy1 : ty_y1 xx) (hR : rf_R G cx f) : Met l yX11_weakest (ws_ yX11_weakest cX11_weakest 3 (some .int)) ({ frames := 2, cells := 0, slots := 0, locals := 43 } : Room) (va_Pc [.ref mo] (cmP D ct sz ([(rf_MO mo mw ma mf m0 m1 mu mv u0 u1 iz th mb mn mpt mbg mwr mwk mlf men), (rf_RW ct 0 mw 958 f)] ++ ws))) (va_Qi (fun (r : Int32) (u : va_W × Int32) => match u with | (u9, th1) => ty_V ct S ph u9 ∧ (q_X11_weakest f G r th1)) (cmB D ([(rf_MO mo mw ma mf m0 m1 mu mv u0 u1 iz th mb mn mpt mbg mwr mwk mlf men), (rf_RW ct 0 mw 958 f)] ++ ws) sz (fun (u : va_W × Int32) => match u with | (u9, th1) => ([(rf_MO mo mw ma mf m0 m1 mu mv u0 u1 iz th1 mb mn mpt mbg mwr mwk mlf men), (rf_RW ct 0 mw 958 f)] ++ u9))) (va_A ([(rf_MO mo mw ma mf m0 m1 mu mv u0 u1 iz th mb mn mpt mbg mwr mwk mlf men), (rf_RW ct 0 mw 958 f)] ++ ws) sz)) 0 0 (va_A ([(rf_MO mo mw ma mf m0 m1 mu mv u0 u1 iz th mb mn mpt mbg mwr mwk mlf men), (rf_RW ct 0 mw 958 f)] ++ ws) sz) := by
  refine Met.ofW (cc := cX11_weakest) (maxL := 3) (ret := (some .int)) (by decide) rfl ?_
  intro p e s m args below meth c s₁ B hml hv
  obtain ⟨rfl, hsz, hP, hK, hD0, hX⟩ := hv
  have hx := B.exec
  have hb := B.bytes
  have hr := B.returns
  have hts := ws_all (atoms_spec (ws := ws_ yX11_weakest cX11_weakest 3 (some .int)) B.pre)
  have hown : s.vm.findClass RX11 = some m.cls := findClass_of_methodNamed B.named
  have hlocks := B.notSynchronized
  subst hsz
  have hD := hD0.self (sz := s.heap.size)
  generalize hAe : va_A ([(rf_MO mo mw ma mf m0 m1 mu mv u0 u1 iz th mb mn mpt mbg mwr mwk mlf men), (rf_RW ct 0 mw 958 f)] ++ ws) s.heap.size = A at hD hX ⊢
  have hA : ∀ q : Nat, s.heap.size ≤ q → A q := fun q h => by rw [← hAe]; exact Or.inr h
  have hS : va_S A s.heap s.heap [] := va_S.rf
  have hl := lv_entry ([.ref mo]) (n := 3) (Nat.le_of_ble_eq_true rfl)
  rw [lg_entry_eq]
  generalize (lg_sl ([.ref mo]) ++ List.replicate (3 - (lg_sl ([.ref mo])).length) Slot.unset).toArray = ls at hl ⊢
  have hl : lv_has ls 3 [(0, .ref mo)] := hl
  refine lv_aload_n hx hb dX11_weakest_0 rfl (lv_at hl 0 rfl) ?_
  refine lv_iconst (v := 0) hx hb dX11_weakest_1 (by decide) ?_
  refine va_put (v := .int 0) (ty := .int) (D := D) (ci := 11) (C := RX11) (T := TX11) (N := 19) hx hb hts in_X11 tyX11 tyX11_ok nmX11 hown hK hP hD hS 0 rfl rfl 10 (by decide) (hts _ kl_RX11_49) (fun _ h9 => h9) rfl (by decide +kernel) rfl rfl (Nat.le_of_ble_eq_true rfl) dX11_weakest_2 (fun H locs hP hD hS => ?_)
  have hP : va_P D vwCl ([(rf_MO mo mw ma mf m0 m1 mu mv u0 u1 iz (0) mb mn mpt mbg mwr mwk mlf men), (rf_RW ct 0 mw 958 f)] ++ ws) H := hP
  have hD : va_D A ([(rf_MO mo mw ma mf m0 m1 mu mv u0 u1 iz (0) mb mn mpt mbg mwr mwk mlf men), (rf_RW ct 0 mw 958 f)] ++ ws) := hD
  refine lv_iconst (v := (-1)) hx hb dX11_weakest_5 (by decide) ?_
  refine lv_istore_n (lv' := [(1, .int (-1)), (0, .ref mo)]) hx hb dX11_weakest_6 rfl hl (by decide) rfl (fun ls hl => ?_)
  refine lv_iconst (v := 0) hx hb dX11_weakest_7 (by decide) ?_
  refine lv_istore_n (lv' := [(2, .int 0), (1, .int (-1)), (0, .ref mo)]) hx hb dX11_weakest_8 rfl hl (by decide) rfl (fun ls hl => ?_)
  refine ty_loop (I := fun μ H locs ls => ∃ (ws : va_W) (y_1 : Int32) (y_2 : Int32), μ = (2147483648 - y_2.toInt).toNat ∧ ty_V ct S ph ws ∧ va_P D vwCl ([(rf_MO mo mw ma mf m0 m1 mu mv u0 u1 iz (0) mb mn mpt mbg mwr mwk mlf men), (rf_RW ct 0 mw 958 f)] ++ ws) H ∧ va_D A ([(rf_MO mo mw ma mf m0 m1 mu mv u0 u1 iz (0) mb mn mpt mbg mwr mwk mlf men), (rf_RW ct 0 mw 958 f)] ++ ws) ∧ va_S A s.heap H locs ∧ lv_has ls 3 [(0, .ref mo), (1, .int y_1), (2, .int y_2)] ∧ ((0 ≤ y_2.toInt ∧ y_2.toInt ≤ (G 9).toInt) ∧ q_wk f y_2.toInt.toNat y_1) ∧ (y_1 = -1 ∨ (0 ≤ y_1.toInt ∧ y_1.toInt < (G 9).toInt))) ⟨_, ws, ((-1) : Int32), (0 : Int32), rfl, hT, hP, hD, hS, (lv_sub hl [2, 1, 0] rfl), ⟨⟨⟨by decide, (by have := hR.1.2.2.1.1; have z : (0 : Int32).toInt = 0 := (by decide); omega)⟩, rfl⟩, Or.inl rfl⟩⟩ (fun μ H locs ls hI ih_9 => ?_)
  obtain ⟨ws, y_1, y_2, rfl, hT, hP, hD, hS, hl, hex_9⟩ := hI
  refine lv_iload_n hx hb dX11_weakest_9 rfl (lv_at hl 2 rfl) ?_
  refine lv_aload_n hx hb dX11_weakest_10 rfl (lv_at hl 0 rfl) ?_
  refine va_get (v := .ref mw) (D := D) (ci := 11) (C := RX11) (T := TX11) (N := 19) hx hb hts in_X11 hown hK hP 0 rfl rfl 0 (by decide) (hts _ kl_RX11_9) (fun _ h9 => h9) rfl dX11_weakest_11 ?_
  refine lv_bipush (v := 9) hx hb dX11_weakest_14 (by decide) ?_
  refine va_iald hx hb hK hP 1 0 rfl rfl (cm_vin (by decide)) dX11_weakest_16 ?_
  refine cm_cst (y := (f 9)) (by first | rfl | decide +kernel) ?_
  refine lv_icmp_ge (tgt := 46) hx hb dX11_weakest_17 (by decide) (fun hc_3 => ?_) (fun hc_3 => ?_)
  · refine lv_iload_n hx hb dX11_weakest_46 rfl (lv_at hl 1 rfl) ?_
    exact W.iret (v := y_1) hx hb hr (fun t ht hW => ⟨⟨y_1, (ws, (0 : Int32)), rfl, ⟨hT, ⟨y_1, y_2, hex_9, ⟨hc_3, ⟨rfl, rfl⟩⟩⟩⟩, by rw [ht]; exact hP, by rw [hAe]; exact hD⟩, hS.F ht⟩) hS.2.2 dX11_weakest_47
  · refine lv_iload_n hx hb dX11_weakest_20 rfl (lv_at hl 1 rfl) ?_
    refine lv_iconst (v := (-1)) hx hb dX11_weakest_21 (by decide) ?_
    refine lv_icmp_eq (tgt := 38) hx hb dX11_weakest_22 (by decide) (fun hc_4 => ?_) (fun hc_4 => ?_)
    · refine lv_iload_n hx hb dX11_weakest_38 rfl (lv_at hl 2 rfl) ?_
      refine lv_istore_n (lv' := [(1, .int y_2), (0, .ref mo), (2, .int y_2)]) hx hb dX11_weakest_39 rfl hl (by decide) rfl (fun ls hl => ?_)
      refine lv_iinc (v := (y_2 + Int32.ofInt 1)) (lv' := [(2, .int (y_2 + Int32.ofInt 1)), (1, .int y_2), (0, .ref mo)]) hx hb dX11_weakest_40 hl (k := 2) rfl rfl (by decide) rfl (fun ls hl => ?_)
      refine lv_goto (tgt := 9) hx hb dX11_weakest_43 (by decide) ?_
      exact ih_9 _ _ _ _ (ty_inc (cm_lt hc_3)) ⟨ws, y_2, (y_2 + Int32.ofInt 1), rfl, hT, hP, hD, hS, (lv_sub hl [2, 1, 0] rfl), ⟨⟨ty_nn hex_9.1.1.1 (cm_lt hc_3), (by have := hex_9.1.1; have q9 : y_2.toInt < (G 9).toInt := (by rw [← hR.2.1.2.2.2.2.1]; exact rf_ylt rfl hc_3); have := hR.1.2.2.1; have e9 := rf_oi (n := y_2) (by omega); omega)⟩, q_wks hex_9.1.1.1 hc_3 hex_9.1.2 (Or.inl ⟨hc_4, rfl⟩)⟩, Or.inr ⟨hex_9.1.1.1, by rw [← hR.2.1.2.2.2.2.1]; exact rf_ylt rfl hc_3⟩⟩
    · refine lv_aload_n hx hb dX11_weakest_25 rfl (lv_at hl 0 rfl) ?_
      refine lv_iload_n hx hb dX11_weakest_26 rfl (lv_at hl 2 rfl) ?_
      obtain ⟨hP, hD⟩ := ty_ipPD (E1 := []) (E2 := [(rf_MO mo mw ma mf m0 m1 mu mv u0 u1 iz (0) mb mn mpt mbg mwr mwk mlf men), (rf_RW ct 0 mw 958 f)]) hP hD rfl ty_mva
      refine ty_Ki hP hD hS hA (va_runV (As := [.int y_2]) (rest := []) ⟨hx, hb, hml, hown, hts⟩ (m_X11_share l D ct S ws ph xx mo mw ma mf m0 m1 mu mv u0 u1 iz mb (0 : Int32) mn mpt mbg mwr mwk mlf men f G cx y_2 _ hT hph hy1 hR ⟨hex_9.1.1.1, by rw [← hR.2.1.2.2.2.2.1]; exact rf_ylt rfl hc_3⟩) (cm_V 1 hts kc_X11_share ki_RX11 kl_RX11_366 kv_X11_share kx_X11_share kd_X11_share ⟨Nat.le_of_ble_eq_true rfl, Nat.le_of_ble_eq_true rfl⟩) (ty_preE (ci := 11) (q0 := 0) hP hK hD hS hA hX rfl rfl) rfl rfl hl.1 rfl (lv_room (Nat.le_of_ble_eq_true rfl)) dX11_weakest_27 ⟨Nat.le_of_ble_eq_true rfl, Nat.le_of_ble_eq_true rfl⟩) (fun r_5 u H locs hw_6 hP hD hS => ?_)
      obtain ⟨ws_7, rfl⟩ : ∃ z, z = u := ⟨_, rfl⟩
      obtain ⟨hT, hp_8⟩ := hw_6
      have hp_8 : (q_X11_share f y_2 r_5) := hp_8
      obtain ⟨hP, hD⟩ := ty_shPD (w2 := ([(rf_MO mo mw ma mf m0 m1 mu mv u0 u1 iz (0) mb mn mpt mbg mwr mwk mlf men), (rf_RW ct 0 mw 958 f)] ++ ws_7)) hP hD rfl
      refine lv_aload_n hx hb dX11_weakest_30 rfl (lv_at hl 0 rfl) ?_
      refine lv_iload_n hx hb dX11_weakest_31 rfl (lv_at hl 1 rfl) ?_
      obtain ⟨hP, hD⟩ := ty_ipPD (E1 := []) (E2 := [(rf_MO mo mw ma mf m0 m1 mu mv u0 u1 iz (0) mb mn mpt mbg mwr mwk mlf men), (rf_RW ct 0 mw 958 f)]) hP hD rfl ty_mva
      refine ty_Ki hP hD hS hA (va_runV (As := [.int y_1]) (rest := [.int r_5]) ⟨hx, hb, hml, hown, hts⟩ (m_X11_share l D ct S ws_7 ph xx mo mw ma mf m0 m1 mu mv u0 u1 iz mb (0 : Int32) mn mpt mbg mwr mwk mlf men f G cx y_1 _ hT hph hy1 hR (hex_9.2.elim (fun q => absurd q hc_4) (fun q => q))) (cm_V 1 hts kc_X11_share ki_RX11 kl_RX11_366 kv_X11_share kx_X11_share kd_X11_share ⟨Nat.le_of_ble_eq_true rfl, Nat.le_of_ble_eq_true rfl⟩) (ty_preE (ci := 11) (q0 := 0) hP hK hD hS hA hX rfl rfl) rfl rfl hl.1 rfl (lv_room (Nat.le_of_ble_eq_true rfl)) dX11_weakest_32 ⟨Nat.le_of_ble_eq_true rfl, Nat.le_of_ble_eq_true rfl⟩) (fun r_11 u H locs hw_12 hP hD hS => ?_)
      obtain ⟨ws_13, rfl⟩ : ∃ z, z = u := ⟨_, rfl⟩
      obtain ⟨hT, hp_14⟩ := hw_12
      have hp_14 : (q_X11_share f y_1 r_11) := hp_14
      obtain ⟨hP, hD⟩ := ty_shPD (w2 := ([(rf_MO mo mw ma mf m0 m1 mu mv u0 u1 iz (0) mb mn mpt mbg mwr mwk mlf men), (rf_RW ct 0 mw 958 f)] ++ ws_13)) hP hD rfl
      refine lv_icmp_ge (tgt := 40) hx hb dX11_weakest_35 (by decide) (fun hc_17 => ?_) (fun hc_17 => ?_)
      · refine lv_iinc (v := (y_2 + Int32.ofInt 1)) (lv' := [(2, .int (y_2 + Int32.ofInt 1)), (0, .ref mo), (1, .int y_1)]) hx hb dX11_weakest_40 hl (k := 2) rfl rfl (by decide) rfl (fun ls hl => ?_)
        refine lv_goto (tgt := 9) hx hb dX11_weakest_43 (by decide) ?_
        exact ih_9 _ _ _ _ (ty_inc (cm_lt hc_3)) ⟨ws_13, y_1, (y_2 + Int32.ofInt 1), rfl, hT, hP, hD, hS, (lv_sub hl [1, 2, 0] rfl), ⟨⟨ty_nn hex_9.1.1.1 (cm_lt hc_3), (by have := hex_9.1.1; have q9 : y_2.toInt < (G 9).toInt := (by rw [← hR.2.1.2.2.2.2.1]; exact rf_ylt rfl hc_3); have := hR.1.2.2.1; have e9 := rf_oi (n := y_2) (by omega); omega)⟩, q_wks hex_9.1.1.1 hc_3 hex_9.1.2 (Or.inr ⟨hc_4, _, _, hp_8, hp_14, Or.inr ⟨hc_17, rfl⟩⟩)⟩, hex_9.2⟩
      · refine lv_iload_n hx hb dX11_weakest_38 rfl (lv_at hl 2 rfl) ?_
        refine lv_istore_n (lv' := [(1, .int y_2), (0, .ref mo), (2, .int y_2)]) hx hb dX11_weakest_39 rfl hl (by decide) rfl (fun ls hl => ?_)
        refine lv_iinc (v := (y_2 + Int32.ofInt 1)) (lv' := [(2, .int (y_2 + Int32.ofInt 1)), (1, .int y_2), (0, .ref mo)]) hx hb dX11_weakest_40 hl (k := 2) rfl rfl (by decide) rfl (fun ls hl => ?_)
        refine lv_goto (tgt := 9) hx hb dX11_weakest_43 (by decide) ?_
        exact ih_9 _ _ _ _ (ty_inc (cm_lt hc_3)) ⟨ws_13, y_2, (y_2 + Int32.ofInt 1), rfl, hT, hP, hD, hS, (lv_sub hl [2, 1, 0] rfl), ⟨⟨ty_nn hex_9.1.1.1 (cm_lt hc_3), (by have := hex_9.1.1; have q9 : y_2.toInt < (G 9).toInt := (by rw [← hR.2.1.2.2.2.2.1]; exact rf_ylt rfl hc_3); have := hR.1.2.2.1; have e9 := rf_oi (n := y_2) (by omega); omega)⟩, q_wks hex_9.1.1.1 hc_3 hex_9.1.2 (Or.inr ⟨hc_4, _, _, hp_8, hp_14, Or.inl ⟨cm_lt hc_17, rfl⟩⟩)⟩, Or.inr ⟨hex_9.1.1.1, by rw [← hR.2.1.2.2.2.2.1]; exact rf_ylt rfl hc_3⟩⟩
def q_X11_hottest (f : Nat → Int32) (G : Nat → Int32) (r : Int32) (th1 : Int32) : Prop := (∃ (y_1 : Int32) (y_2 : Int32), (((0 ≤ y_2.toInt ∧ y_2.toInt ≤ (G 9).toInt) ∧ q_ht f y_2.toInt.toNat y_1) ∧ (y_1 = -1 ∨ (0 ≤ y_1.toInt ∧ y_1.toInt < (G 9).toInt))) ∧ ((f 9) ≤ y_2 ∧ (r = y_1 ∧ th1 = 0)))
set_option maxRecDepth 100000 in
set_option maxHeartbeats 4000000 in
theorem m_X11_hottest (l : Launch) (D : va_G) (ct : Nat → ClassId) (S : ty_S) (ws : va_W) (ph : va_W → Prop) (xx : Nat → Nat → Nat → Prop) (mo : Nat) (mw : Nat) (ma : Nat) (mf : Nat) (m0 : Nat) (m1 : Nat) (mu : Nat) (mv : Nat) (u0 : Nat) (u1 : Nat) (iz : Nat) (mb : Nat) (th : Int32) (mn : Int32) (mpt : Int32) (mbg : Int32) (mwr : Int32) (mwk : Int32) (mlf : Int32) (men : Int32) (f : Nat → Int32) (G : Nat → Int32) (cx : Int) (sz : Nat) (hT : ty_V ct S ph ws) (hph : ty_C ph xx) (hy1 : ty_y1 xx) (hR : rf_R G cx f) : Met l yX11_hottest (ws_ yX11_hottest cX11_hottest 3 (some .int)) ({ frames := 1, cells := 0, slots := 0, locals := 22 } : Room) (va_Pc [.ref mo] (cmP D ct sz ([(rf_MO mo mw ma mf m0 m1 mu mv u0 u1 iz th mb mn mpt mbg mwr mwk mlf men), (rf_RW ct 0 mw 958 f)] ++ ws))) (va_Qi (fun (r : Int32) (u : va_W × Int32) => match u with | (u9, th1) => ty_V ct S ph u9 ∧ (q_X11_hottest f G r th1)) (cmB D ([(rf_MO mo mw ma mf m0 m1 mu mv u0 u1 iz th mb mn mpt mbg mwr mwk mlf men), (rf_RW ct 0 mw 958 f)] ++ ws) sz (fun (u : va_W × Int32) => match u with | (u9, th1) => ([(rf_MO mo mw ma mf m0 m1 mu mv u0 u1 iz th1 mb mn mpt mbg mwr mwk mlf men), (rf_RW ct 0 mw 958 f)] ++ u9))) (va_A ([(rf_MO mo mw ma mf m0 m1 mu mv u0 u1 iz th mb mn mpt mbg mwr mwk mlf men), (rf_RW ct 0 mw 958 f)] ++ ws) sz)) 0 0 (va_A ([(rf_MO mo mw ma mf m0 m1 mu mv u0 u1 iz th mb mn mpt mbg mwr mwk mlf men), (rf_RW ct 0 mw 958 f)] ++ ws) sz) := by
  refine Met.ofW (cc := cX11_hottest) (maxL := 3) (ret := (some .int)) (by decide) rfl ?_
  intro p e s m args below meth c s₁ B hml hv
  obtain ⟨rfl, hsz, hP, hK, hD0, hX⟩ := hv
  have hx := B.exec
  have hb := B.bytes
  have hr := B.returns
  have hts := ws_all (atoms_spec (ws := ws_ yX11_hottest cX11_hottest 3 (some .int)) B.pre)
  have hown : s.vm.findClass RX11 = some m.cls := findClass_of_methodNamed B.named
  have hlocks := B.notSynchronized
  subst hsz
  have hD := hD0.self (sz := s.heap.size)
  generalize hAe : va_A ([(rf_MO mo mw ma mf m0 m1 mu mv u0 u1 iz th mb mn mpt mbg mwr mwk mlf men), (rf_RW ct 0 mw 958 f)] ++ ws) s.heap.size = A at hD hX ⊢
  have hA : ∀ q : Nat, s.heap.size ≤ q → A q := fun q h => by rw [← hAe]; exact Or.inr h
  have hS : va_S A s.heap s.heap [] := va_S.rf
  have hl := lv_entry ([.ref mo]) (n := 3) (Nat.le_of_ble_eq_true rfl)
  rw [lg_entry_eq]
  generalize (lg_sl ([.ref mo]) ++ List.replicate (3 - (lg_sl ([.ref mo])).length) Slot.unset).toArray = ls at hl ⊢
  have hl : lv_has ls 3 [(0, .ref mo)] := hl
  refine lv_aload_n hx hb dX11_hottest_0 rfl (lv_at hl 0 rfl) ?_
  refine lv_iconst (v := 0) hx hb dX11_hottest_1 (by decide) ?_
  refine va_put (v := .int 0) (ty := .int) (D := D) (ci := 11) (C := RX11) (T := TX11) (N := 19) hx hb hts in_X11 tyX11 tyX11_ok nmX11 hown hK hP hD hS 0 rfl rfl 10 (by decide) (hts _ kl_RX11_49) (fun _ h9 => h9) rfl (by decide +kernel) rfl rfl (Nat.le_of_ble_eq_true rfl) dX11_hottest_2 (fun H locs hP hD hS => ?_)
  have hP : va_P D vwCl ([(rf_MO mo mw ma mf m0 m1 mu mv u0 u1 iz (0) mb mn mpt mbg mwr mwk mlf men), (rf_RW ct 0 mw 958 f)] ++ ws) H := hP
  have hD : va_D A ([(rf_MO mo mw ma mf m0 m1 mu mv u0 u1 iz (0) mb mn mpt mbg mwr mwk mlf men), (rf_RW ct 0 mw 958 f)] ++ ws) := hD
  refine lv_iconst (v := (-1)) hx hb dX11_hottest_5 (by decide) ?_
  refine lv_istore_n (lv' := [(1, .int (-1)), (0, .ref mo)]) hx hb dX11_hottest_6 rfl hl (by decide) rfl (fun ls hl => ?_)
  refine lv_iconst (v := 0) hx hb dX11_hottest_7 (by decide) ?_
  refine lv_istore_n (lv' := [(2, .int 0), (1, .int (-1)), (0, .ref mo)]) hx hb dX11_hottest_8 rfl hl (by decide) rfl (fun ls hl => ?_)
  refine ty_loop (I := fun μ H locs ls => ∃ (ws : va_W) (y_1 : Int32) (y_2 : Int32), μ = (2147483648 - y_2.toInt).toNat ∧ ty_V ct S ph ws ∧ va_P D vwCl ([(rf_MO mo mw ma mf m0 m1 mu mv u0 u1 iz (0) mb mn mpt mbg mwr mwk mlf men), (rf_RW ct 0 mw 958 f)] ++ ws) H ∧ va_D A ([(rf_MO mo mw ma mf m0 m1 mu mv u0 u1 iz (0) mb mn mpt mbg mwr mwk mlf men), (rf_RW ct 0 mw 958 f)] ++ ws) ∧ va_S A s.heap H locs ∧ lv_has ls 3 [(0, .ref mo), (1, .int y_1), (2, .int y_2)] ∧ ((0 ≤ y_2.toInt ∧ y_2.toInt ≤ (G 9).toInt) ∧ q_ht f y_2.toInt.toNat y_1) ∧ (y_1 = -1 ∨ (0 ≤ y_1.toInt ∧ y_1.toInt < (G 9).toInt))) ⟨_, ws, ((-1) : Int32), (0 : Int32), rfl, hT, hP, hD, hS, (lv_sub hl [2, 1, 0] rfl), ⟨⟨⟨by decide, (by have := hR.1.2.2.1.1; have z : (0 : Int32).toInt = 0 := (by decide); omega)⟩, rfl⟩, Or.inl rfl⟩⟩ (fun μ H locs ls hI ih_9 => ?_)
  obtain ⟨ws, y_1, y_2, rfl, hT, hP, hD, hS, hl, hex_9⟩ := hI
  refine lv_iload_n hx hb dX11_hottest_9 rfl (lv_at hl 2 rfl) ?_
  refine lv_aload_n hx hb dX11_hottest_10 rfl (lv_at hl 0 rfl) ?_
  refine va_get (v := .ref mw) (D := D) (ci := 11) (C := RX11) (T := TX11) (N := 19) hx hb hts in_X11 hown hK hP 0 rfl rfl 0 (by decide) (hts _ kl_RX11_9) (fun _ h9 => h9) rfl dX11_hottest_11 ?_
  refine lv_bipush (v := 9) hx hb dX11_hottest_14 (by decide) ?_
  refine va_iald hx hb hK hP 1 0 rfl rfl (cm_vin (by decide)) dX11_hottest_16 ?_
  refine cm_cst (y := (f 9)) (by first | rfl | decide +kernel) ?_
  refine lv_icmp_ge (tgt := 50) hx hb dX11_hottest_17 (by decide) (fun hc_3 => ?_) (fun hc_3 => ?_)
  · refine lv_iload_n hx hb dX11_hottest_50 rfl (lv_at hl 1 rfl) ?_
    exact W.iret (v := y_1) hx hb hr (fun t ht hW => ⟨⟨y_1, (ws, (0 : Int32)), rfl, ⟨hT, ⟨y_1, y_2, hex_9, ⟨hc_3, ⟨rfl, rfl⟩⟩⟩⟩, by rw [ht]; exact hP, by rw [hAe]; exact hD⟩, hS.F ht⟩) hS.2.2 dX11_hottest_51
  · refine lv_iload_n hx hb dX11_hottest_20 rfl (lv_at hl 1 rfl) ?_
    refine lv_iconst (v := (-1)) hx hb dX11_hottest_21 (by decide) ?_
    refine lv_icmp_eq (tgt := 42) hx hb dX11_hottest_22 (by decide) (fun hc_4 => ?_) (fun hc_4 => ?_)
    · refine lv_iload_n hx hb dX11_hottest_42 rfl (lv_at hl 2 rfl) ?_
      refine lv_istore_n (lv' := [(1, .int y_2), (0, .ref mo), (2, .int y_2)]) hx hb dX11_hottest_43 rfl hl (by decide) rfl (fun ls hl => ?_)
      refine lv_iinc (v := (y_2 + Int32.ofInt 1)) (lv' := [(2, .int (y_2 + Int32.ofInt 1)), (1, .int y_2), (0, .ref mo)]) hx hb dX11_hottest_44 hl (k := 2) rfl rfl (by decide) rfl (fun ls hl => ?_)
      refine lv_goto (tgt := 9) hx hb dX11_hottest_47 (by decide) ?_
      exact ih_9 _ _ _ _ (ty_inc (cm_lt hc_3)) ⟨ws, y_2, (y_2 + Int32.ofInt 1), rfl, hT, hP, hD, hS, (lv_sub hl [2, 1, 0] rfl), ⟨⟨ty_nn hex_9.1.1.1 (cm_lt hc_3), (by have := hex_9.1.1; have q9 : y_2.toInt < (G 9).toInt := (by rw [← hR.2.1.2.2.2.2.1]; exact rf_ylt rfl hc_3); have := hR.1.2.2.1; have e9 := rf_oi (n := y_2) (by omega); omega)⟩, q_hts hex_9.1.1.1 hc_3 hex_9.1.2 (Or.inl ⟨hc_4, rfl⟩)⟩, Or.inr ⟨hex_9.1.1.1, by rw [← hR.2.1.2.2.2.2.1]; exact rf_ylt rfl hc_3⟩⟩
    · refine lv_aload_n hx hb dX11_hottest_25 rfl (lv_at hl 0 rfl) ?_
      refine lv_iload_n hx hb dX11_hottest_26 rfl (lv_at hl 2 rfl) ?_
      refine lv_bipush (v := 9) hx hb dX11_hottest_27 (by decide) ?_
      obtain ⟨hP, hD⟩ := ty_ipPD (E1 := []) (E2 := [(rf_MO mo mw ma mf m0 m1 mu mv u0 u1 iz (0) mb mn mpt mbg mwr mwk mlf men), (rf_RW ct 0 mw 958 f)]) hP hD rfl ty_mva
      refine ty_Ki hP hD hS hA (va_runV (As := [.int y_2, .int 9]) (rest := []) ⟨hx, hb, hml, hown, hts⟩ (m_of_9 l D ct S ws ph xx mo mw ma mf m0 m1 mu mv u0 u1 iz mb (0 : Int32) mn mpt mbg mwr mwk mlf men f G cx y_2 _ hT hph hy1 hR ⟨hex_9.1.1.1, by rw [← hR.2.1.2.2.2.2.1]; exact rf_ylt rfl hc_3⟩) (cm_V 2 hts kc_X11_of ki_RX11 kl_RX11_209 kv_X11_of kx_X11_of kd_X11_of ⟨Nat.le_of_ble_eq_true rfl, Nat.le_of_ble_eq_true rfl⟩) (ty_preE (ci := 11) (q0 := 0) hP hK hD hS hA hX rfl rfl) rfl rfl hl.1 rfl (lv_room (Nat.le_of_ble_eq_true rfl)) dX11_hottest_29 ⟨Nat.le_of_ble_eq_true rfl, Nat.le_of_ble_eq_true rfl⟩) (fun r_5 u H locs hw_6 hP hD hS => ?_)
      obtain ⟨ws_7, rfl⟩ : ∃ z, z = u := ⟨_, rfl⟩
      obtain ⟨hT, rfl⟩ := hw_6
      obtain ⟨hP, hD⟩ := ty_shPD (w2 := ([(rf_MO mo mw ma mf m0 m1 mu mv u0 u1 iz (0) mb mn mpt mbg mwr mwk mlf men), (rf_RW ct 0 mw 958 f)] ++ ws_7)) hP hD rfl
      refine lv_aload_n hx hb dX11_hottest_32 rfl (lv_at hl 0 rfl) ?_
      refine lv_iload_n hx hb dX11_hottest_33 rfl (lv_at hl 1 rfl) ?_
      refine lv_bipush (v := 9) hx hb dX11_hottest_34 (by decide) ?_
      obtain ⟨hP, hD⟩ := ty_ipPD (E1 := []) (E2 := [(rf_MO mo mw ma mf m0 m1 mu mv u0 u1 iz (0) mb mn mpt mbg mwr mwk mlf men), (rf_RW ct 0 mw 958 f)]) hP hD rfl ty_mva
      refine ty_Ki hP hD hS hA (va_runV (As := [.int y_1, .int 9]) (rest := [.int (rf_of f y_2 9)]) ⟨hx, hb, hml, hown, hts⟩ (m_of_9 l D ct S ws_7 ph xx mo mw ma mf m0 m1 mu mv u0 u1 iz mb (0 : Int32) mn mpt mbg mwr mwk mlf men f G cx y_1 _ hT hph hy1 hR (hex_9.2.elim (fun q => absurd q hc_4) (fun q => q))) (cm_V 2 hts kc_X11_of ki_RX11 kl_RX11_209 kv_X11_of kx_X11_of kd_X11_of ⟨Nat.le_of_ble_eq_true rfl, Nat.le_of_ble_eq_true rfl⟩) (ty_preE (ci := 11) (q0 := 0) hP hK hD hS hA hX rfl rfl) rfl rfl hl.1 rfl (lv_room (Nat.le_of_ble_eq_true rfl)) dX11_hottest_36 ⟨Nat.le_of_ble_eq_true rfl, Nat.le_of_ble_eq_true rfl⟩) (fun r_8 u H locs hw_9 hP hD hS => ?_)
      obtain ⟨ws_10, rfl⟩ : ∃ z, z = u := ⟨_, rfl⟩
      obtain ⟨hT, rfl⟩ := hw_9
      obtain ⟨hP, hD⟩ := ty_shPD (w2 := ([(rf_MO mo mw ma mf m0 m1 mu mv u0 u1 iz (0) mb mn mpt mbg mwr mwk mlf men), (rf_RW ct 0 mw 958 f)] ++ ws_10)) hP hD rfl
      refine lv_icmp_le (tgt := 44) hx hb dX11_hottest_39 (by decide) (fun hc_11 => ?_) (fun hc_11 => ?_)
      · refine lv_iinc (v := (y_2 + Int32.ofInt 1)) (lv' := [(2, .int (y_2 + Int32.ofInt 1)), (0, .ref mo), (1, .int y_1)]) hx hb dX11_hottest_44 hl (k := 2) rfl rfl (by decide) rfl (fun ls hl => ?_)
        refine lv_goto (tgt := 9) hx hb dX11_hottest_47 (by decide) ?_
        exact ih_9 _ _ _ _ (ty_inc (cm_lt hc_3)) ⟨ws_10, y_1, (y_2 + Int32.ofInt 1), rfl, hT, hP, hD, hS, (lv_sub hl [1, 2, 0] rfl), ⟨⟨ty_nn hex_9.1.1.1 (cm_lt hc_3), (by have := hex_9.1.1; have q9 : y_2.toInt < (G 9).toInt := (by rw [← hR.2.1.2.2.2.2.1]; exact rf_ylt rfl hc_3); have := hR.1.2.2.1; have e9 := rf_oi (n := y_2) (by omega); omega)⟩, q_hts hex_9.1.1.1 hc_3 hex_9.1.2 (Or.inr ⟨hc_4, Or.inr ⟨hc_11, rfl⟩⟩)⟩, hex_9.2⟩
      · refine lv_iload_n hx hb dX11_hottest_42 rfl (lv_at hl 2 rfl) ?_
        refine lv_istore_n (lv' := [(1, .int y_2), (0, .ref mo), (2, .int y_2)]) hx hb dX11_hottest_43 rfl hl (by decide) rfl (fun ls hl => ?_)
        refine lv_iinc (v := (y_2 + Int32.ofInt 1)) (lv' := [(2, .int (y_2 + Int32.ofInt 1)), (1, .int y_2), (0, .ref mo)]) hx hb dX11_hottest_44 hl (k := 2) rfl rfl (by decide) rfl (fun ls hl => ?_)
        refine lv_goto (tgt := 9) hx hb dX11_hottest_47 (by decide) ?_
        exact ih_9 _ _ _ _ (ty_inc (cm_lt hc_3)) ⟨ws_10, y_2, (y_2 + Int32.ofInt 1), rfl, hT, hP, hD, hS, (lv_sub hl [2, 1, 0] rfl), ⟨⟨ty_nn hex_9.1.1.1 (cm_lt hc_3), (by have := hex_9.1.1; have q9 : y_2.toInt < (G 9).toInt := (by rw [← hR.2.1.2.2.2.2.1]; exact rf_ylt rfl hc_3); have := hR.1.2.2.1; have e9 := rf_oi (n := y_2) (by omega); omega)⟩, q_hts hex_9.1.1.1 hc_3 hex_9.1.2 (Or.inr ⟨hc_4, Or.inl ⟨hc_11, rfl⟩⟩)⟩, Or.inr ⟨hex_9.1.1.1, by rw [← hR.2.1.2.2.2.2.1]; exact rf_ylt rfl hc_3⟩⟩
def q_X11_restVoltage (f : Nat → Int32) (G : Nat → Int32) (p1 : Int32) (p2 : Int32) (r : Int32) (th1 : Int32) : Prop := (∃ (th1_4 : Int32), True ∧ ((((0 ≤ p1.toInt ∧ p1.toInt < (G 9).toInt) ∧ th1_4 = 0) ∧ ((¬ (cm_rng p2.toInt64 0 200000) = (0 : Int32) ∧ (∃ (th1_16 : Int32), True ∧ (((0 : Int32) = 0 ∧ th1_16 = 0) ∧ (∃ (r_21 : Int32), (q_X11_restAt f p1 p2 r_21) ∧ (r = r_21 ∧ th1 = 0))))) ∨ ((cm_rng p2.toInt64 0 200000) = (0 : Int32) ∧ (∃ (th1_30 : Int32), True ∧ ((¬ (1 : Int32) = 0 ∧ th1_30 = (2 : Int32)) ∧ (r = 0 ∧ th1 = 2)))))) ∨ ((¬ (0 ≤ p1.toInt ∧ p1.toInt < (G 9).toInt) ∧ th1_4 = 1) ∧ (r = 0 ∧ th1 = 1))))
set_option maxRecDepth 100000 in
set_option maxHeartbeats 4000000 in
theorem m_X11_restVoltage (l : Launch) (D : va_G) (ct : Nat → ClassId) (S : ty_S) (ws : va_W) (ph : va_W → Prop) (xx : Nat → Nat → Nat → Prop) (mo : Nat) (mw : Nat) (ma : Nat) (mf : Nat) (m0 : Nat) (m1 : Nat) (mu : Nat) (mv : Nat) (u0 : Nat) (u1 : Nat) (iz : Nat) (mb : Nat) (th : Int32) (mn : Int32) (mpt : Int32) (mbg : Int32) (mwr : Int32) (mwk : Int32) (mlf : Int32) (men : Int32) (f : Nat → Int32) (G : Nat → Int32) (cx : Int) (p1 : Int32) (p2 : Int32) (sz : Nat) (hT : ty_V ct S ph ws) (hph : ty_C ph xx) (hy1 : ty_y1 xx) (hR : rf_R G cx f) : Met l yX11_restVoltage (ws_ yX11_restVoltage cX11_restVoltage 3 (some .int)) ({ frames := 2, cells := 0, slots := 0, locals := 53 } : Room) (va_Pc [.ref mo, .int p1, .int p2] (cmP D ct sz ([(rf_MO mo mw ma mf m0 m1 mu mv u0 u1 iz th mb mn mpt mbg mwr mwk mlf men), (rf_RW ct 0 mw 958 f)] ++ ws))) (va_Qi (fun (r : Int32) (u : va_W × Int32) => match u with | (u9, th1) => ty_V ct S ph u9 ∧ (q_X11_restVoltage f G p1 p2 r th1)) (cmB D ([(rf_MO mo mw ma mf m0 m1 mu mv u0 u1 iz th mb mn mpt mbg mwr mwk mlf men), (rf_RW ct 0 mw 958 f)] ++ ws) sz (fun (u : va_W × Int32) => match u with | (u9, th1) => ([(rf_MO mo mw ma mf m0 m1 mu mv u0 u1 iz th1 mb mn mpt mbg mwr mwk mlf men), (rf_RW ct 0 mw 958 f)] ++ u9))) (va_A ([(rf_MO mo mw ma mf m0 m1 mu mv u0 u1 iz th mb mn mpt mbg mwr mwk mlf men), (rf_RW ct 0 mw 958 f)] ++ ws) sz)) 0 0 (va_A ([(rf_MO mo mw ma mf m0 m1 mu mv u0 u1 iz th mb mn mpt mbg mwr mwk mlf men), (rf_RW ct 0 mw 958 f)] ++ ws) sz) := by
  refine Met.ofW (cc := cX11_restVoltage) (maxL := 3) (ret := (some .int)) (by decide) rfl ?_
  intro p e s m args below meth c s₁ B hml hv
  obtain ⟨rfl, hsz, hP, hK, hD0, hX⟩ := hv
  have hx := B.exec
  have hb := B.bytes
  have hr := B.returns
  have hts := ws_all (atoms_spec (ws := ws_ yX11_restVoltage cX11_restVoltage 3 (some .int)) B.pre)
  have hown : s.vm.findClass RX11 = some m.cls := findClass_of_methodNamed B.named
  have hlocks := B.notSynchronized
  subst hsz
  have hD := hD0.self (sz := s.heap.size)
  generalize hAe : va_A ([(rf_MO mo mw ma mf m0 m1 mu mv u0 u1 iz th mb mn mpt mbg mwr mwk mlf men), (rf_RW ct 0 mw 958 f)] ++ ws) s.heap.size = A at hD hX ⊢
  have hA : ∀ q : Nat, s.heap.size ≤ q → A q := fun q h => by rw [← hAe]; exact Or.inr h
  have hS : va_S A s.heap s.heap [] := va_S.rf
  have hl := lv_entry ([.ref mo, .int p1, .int p2]) (n := 3) (Nat.le_of_ble_eq_true rfl)
  rw [lg_entry_eq]
  generalize (lg_sl ([.ref mo, .int p1, .int p2]) ++ List.replicate (3 - (lg_sl ([.ref mo, .int p1, .int p2])).length) Slot.unset).toArray = ls at hl ⊢
  have hl : lv_has ls 3 [(0, .ref mo), (1, .int p1), (2, .int p2)] := hl
  refine lv_aload_n hx hb dX11_restVoltage_0 rfl (lv_at hl 0 rfl) ?_
  refine lv_iload_n hx hb dX11_restVoltage_1 rfl (lv_at hl 1 rfl) ?_
  obtain ⟨hP, hD⟩ := ty_ipPD (E1 := []) (E2 := [(rf_MO mo mw ma mf m0 m1 mu mv u0 u1 iz th mb mn mpt mbg mwr mwk mlf men), (rf_RW ct 0 mw 958 f)]) hP hD rfl ty_mva
  refine ty_Ki hP hD hS hA (va_runV (As := [.int p1]) (rest := []) ⟨hx, hb, hml, hown, hts⟩ (m_X11_noChannel l D ct S ws ph xx mo mw ma mf m0 m1 mu mv u0 u1 iz mb th mn mpt mbg mwr mwk mlf men f G cx p1 _ hT hph hy1 hR) (cm_V 1 hts kc_X11_noChannel ki_RX11 kl_RX11_344 kv_X11_noChannel kx_X11_noChannel kd_X11_noChannel ⟨Nat.le_of_ble_eq_true rfl, Nat.le_of_ble_eq_true rfl⟩) (ty_preE (ci := 11) (q0 := 0) hP hK hD hS hA hX rfl rfl) rfl rfl hl.1 rfl (lv_room (Nat.le_of_ble_eq_true rfl)) dX11_restVoltage_2 ⟨Nat.le_of_ble_eq_true rfl, Nat.le_of_ble_eq_true rfl⟩) (fun r_1 u H locs hw_2 hP hD hS => ?_)
  obtain ⟨ws_3, th1_4⟩ := u
  obtain ⟨hT, hp_5⟩ := hw_2
  have hp_5 : ((r_1 = 0 ∧ (0 ≤ p1.toInt ∧ p1.toInt < (G 9).toInt) ∧ th1_4 = 0) ∨ (r_1 = 1 ∧ ¬ (0 ≤ p1.toInt ∧ p1.toInt < (G 9).toInt) ∧ th1_4 = 1)) := hp_5
  obtain ⟨hP, hD⟩ := ty_shPD (w2 := ([(rf_MO mo mw ma mf m0 m1 mu mv u0 u1 iz th1_4 mb mn mpt mbg mwr mwk mlf men), (rf_RW ct 0 mw 958 f)] ++ ws_3)) hP hD rfl
  rcases hp_5 with ⟨rfl, hz_6⟩ | ⟨rfl, hz_7⟩
  · have he_8 := hz_6.2
    have hP : va_P D vwCl ([(rf_MO mo mw ma mf m0 m1 mu mv u0 u1 iz (0) mb mn mpt mbg mwr mwk mlf men), (rf_RW ct 0 mw 958 f)] ++ ws_3) H := by rw [he_8] at hP; exact hP
    have hD : va_D A ([(rf_MO mo mw ma mf m0 m1 mu mv u0 u1 iz (0) mb mn mpt mbg mwr mwk mlf men), (rf_RW ct 0 mw 958 f)] ++ ws_3) := by rw [he_8] at hD; exact hD
    refine lv_if_ne (tgt := 33) hx hb dX11_restVoltage_5 (by decide) (fun hc => absurd (by decide) hc) (fun _ => ?_)
    refine lv_aload_n hx hb dX11_restVoltage_8 rfl (lv_at hl 0 rfl) ?_
    refine lv_iload_n hx hb dX11_restVoltage_9 rfl (lv_at hl 2 rfl) ?_
    refine lv_i2l hx hb dX11_restVoltage_10 rfl ?_
    refine lv_lconst (v := 0) hx hb dX11_restVoltage_11 (by decide) ?_
    refine lv_ldc2 hx hb hown (hts _ kl_RX11_362) dX11_restVoltage_12 ?_
    obtain ⟨hP, hD⟩ := ty_ipPD (E1 := [(rf_MO mo mw ma mf m0 m1 mu mv u0 u1 iz (0) mb mn mpt mbg mwr mwk mlf men), (rf_RW ct 0 mw 958 f)]) (E2 := []) hP hD rfl ty_mva
    refine ty_Ki hP hD hS hA (va_runS (As := [.long p2.toInt64, .long 0, .long 200000]) (rest := [.ref mo]) ⟨hx, hb, hml, hown, hts⟩ (m_X11_in l D ct S ws_3 ph xx p2.toInt64 (0 : Int64) (200000 : Int64) _ hT hph hy1) (cm_S 3 hts kc_X11_in ki_RX11 kl_RX11_70 ks_X11_in kd_X11_in ⟨Nat.le_of_ble_eq_true rfl, Nat.le_of_ble_eq_true rfl⟩) (ty_preS hP hK hD hS hA hX) rfl rfl hl.1 rfl (lv_room (Nat.le_of_ble_eq_true rfl)) dX11_restVoltage_15 ⟨Nat.le_of_ble_eq_true rfl, Nat.le_of_ble_eq_true rfl⟩) (fun r_9 u H locs hw_10 hP hD hS => ?_)
    obtain ⟨ws_11, rfl⟩ : ∃ z, z = u := ⟨_, rfl⟩
    obtain ⟨hT, rfl⟩ := hw_10
    obtain ⟨hP, hD⟩ := ty_shPD (w2 := ([(rf_MO mo mw ma mf m0 m1 mu mv u0 u1 iz (0) mb mn mpt mbg mwr mwk mlf men), (rf_RW ct 0 mw 958 f)] ++ ws_11)) hP hD rfl
    refine lv_if_ne (tgt := 25) hx hb dX11_restVoltage_18 (by decide) (fun hc_12 => ?_) (fun hc_12 => ?_)
    · refine lv_iconst (v := 0) hx hb dX11_restVoltage_25 (by decide) ?_
      refine lv_iconst (v := 2) hx hb dX11_restVoltage_26 (by decide) ?_
      obtain ⟨hP, hD⟩ := ty_opPD (E1 := [(rf_RW ct 0 mw 958 f)]) (E2 := [(rf_MO mo mw ma mf m0 m1 mu mv u0 u1 iz (0) mb mn mpt mbg mwr mwk mlf men)]) (n := 2) [1, 0] hP hD rfl rfl (by decide +kernel) ty_mva
      refine ty_Ki hP hD hS hA (va_runV (As := [.int 0, .int 2]) (rest := []) ⟨hx, hb, hml, hown, hts⟩ (m_throwsIf_0 l D ct S ws_11 ph xx mo mw ma mf m0 m1 mu mv u0 u1 iz mb mn mpt mbg mwr mwk mlf men (0 : Int32) (2 : Int32) _ hT hph hy1 (by decide)) (cm_V 2 hts kc_X11_throwsIf ki_RX11 kl_RX11_328 kv_X11_throwsIf kx_X11_throwsIf kd_X11_throwsIf ⟨Nat.le_of_ble_eq_true rfl, Nat.le_of_ble_eq_true rfl⟩) (ty_preE (ci := 11) (q0 := 1) hP hK hD hS hA hX rfl rfl) rfl rfl hl.1 rfl (lv_room (Nat.le_of_ble_eq_true rfl)) dX11_restVoltage_27 ⟨Nat.le_of_ble_eq_true rfl, Nat.le_of_ble_eq_true rfl⟩) (fun r_13 u H locs hw_14 hP hD hS => ?_)
      obtain ⟨ws_15, th1_16⟩ := u
      obtain ⟨hT, hp_17⟩ := hw_14
      have hp_17 : ((r_13 = 0 ∧ (0 : Int32) = 0 ∧ th1_16 = 0) ∨ (r_13 = 1 ∧ ¬ (0 : Int32) = 0 ∧ th1_16 = (2 : Int32))) := hp_17
      obtain ⟨hP, hD⟩ := ty_shPD (w2 := ([(rf_RW ct 0 mw 958 f), (rf_MO mo mw ma mf m0 m1 mu mv u0 u1 iz th1_16 mb mn mpt mbg mwr mwk mlf men)] ++ ws_15)) hP hD rfl
      rcases hp_17 with ⟨rfl, hz_18⟩ | ⟨rfl, hz_19⟩
      · have he_20 := hz_18.2
        have hP : va_P D vwCl ([(rf_RW ct 0 mw 958 f), (rf_MO mo mw ma mf m0 m1 mu mv u0 u1 iz (0) mb mn mpt mbg mwr mwk mlf men)] ++ ws_15) H := by rw [he_20] at hP; exact hP
        have hD : va_D A ([(rf_RW ct 0 mw 958 f), (rf_MO mo mw ma mf m0 m1 mu mv u0 u1 iz (0) mb mn mpt mbg mwr mwk mlf men)] ++ ws_15) := by rw [he_20] at hD; exact hD
        refine lv_if_eq (tgt := 37) hx hb dX11_restVoltage_30 (by decide) (fun _ => ?_) (fun hc => absurd (by decide) hc)
        refine lv_aload_n hx hb dX11_restVoltage_37 rfl (lv_at hl 0 rfl) ?_
        refine lv_iload_n hx hb dX11_restVoltage_38 rfl (lv_at hl 1 rfl) ?_
        refine lv_iload_n hx hb dX11_restVoltage_39 rfl (lv_at hl 2 rfl) ?_
        obtain ⟨hP, hD⟩ := ty_opPD (E1 := []) (E2 := [(rf_MO mo mw ma mf m0 m1 mu mv u0 u1 iz (0) mb mn mpt mbg mwr mwk mlf men), (rf_RW ct 0 mw 958 f)]) (n := 2) [1, 0] hP hD rfl rfl (by decide +kernel) ty_mva
        refine ty_Ki hP hD hS hA (va_runV (As := [.int p1, .int p2]) (rest := []) ⟨hx, hb, hml, hown, hts⟩ (m_X11_restAt l D ct S ws_15 ph xx mo mw ma mf m0 m1 mu mv u0 u1 iz mb (0 : Int32) mn mpt mbg mwr mwk mlf men f G cx p1 p2 _ hT hph hy1 hR hz_6.1 ((rf_rngc (L := 0) (U := 200000) (by decide) (by decide) hc_12)).1) (cm_V 2 hts kc_X11_restAt ki_RX11 kl_RX11_231 kv_X11_restAt kx_X11_restAt kd_X11_restAt ⟨Nat.le_of_ble_eq_true rfl, Nat.le_of_ble_eq_true rfl⟩) (ty_preE (ci := 11) (q0 := 0) hP hK hD hS hA hX rfl rfl) rfl rfl hl.1 rfl (lv_room (Nat.le_of_ble_eq_true rfl)) dX11_restVoltage_40 ⟨Nat.le_of_ble_eq_true rfl, Nat.le_of_ble_eq_true rfl⟩) (fun r_21 u H locs hw_22 hP hD hS => ?_)
        obtain ⟨ws_23, rfl⟩ : ∃ z, z = u := ⟨_, rfl⟩
        obtain ⟨hT, hp_24⟩ := hw_22
        have hp_24 : (q_X11_restAt f p1 p2 r_21) := hp_24
        obtain ⟨hP, hD⟩ := ty_shPD (w2 := ([(rf_MO mo mw ma mf m0 m1 mu mv u0 u1 iz (0) mb mn mpt mbg mwr mwk mlf men), (rf_RW ct 0 mw 958 f)] ++ ws_23)) hP hD rfl
        exact W.iret (v := r_21) hx hb hr (fun t ht hW => ⟨⟨r_21, (ws_23, (0 : Int32)), rfl, ⟨hT, ⟨th1_4, trivial, (Or.inl ⟨hz_6, (Or.inl ⟨hc_12, ⟨th1_16, trivial, ⟨hz_18, ⟨r_21, hp_24, ⟨rfl, rfl⟩⟩⟩⟩⟩)⟩)⟩⟩, by rw [ht]; exact hP, by rw [hAe]; exact hD⟩, hS.F ht⟩) hS.2.2 dX11_restVoltage_43
      · exact absurd rfl hz_19.1
    · refine lv_iconst (v := 1) hx hb dX11_restVoltage_21 (by decide) ?_
      refine lv_goto (tgt := 26) hx hb dX11_restVoltage_22 (by decide) ?_
      refine lv_iconst (v := 2) hx hb dX11_restVoltage_26 (by decide) ?_
      obtain ⟨hP, hD⟩ := ty_opPD (E1 := [(rf_RW ct 0 mw 958 f)]) (E2 := [(rf_MO mo mw ma mf m0 m1 mu mv u0 u1 iz (0) mb mn mpt mbg mwr mwk mlf men)]) (n := 2) [1, 0] hP hD rfl rfl (by decide +kernel) ty_mva
      refine ty_Ki hP hD hS hA (va_runV (As := [.int 1, .int 2]) (rest := []) ⟨hx, hb, hml, hown, hts⟩ (m_throwsIf_0 l D ct S ws_11 ph xx mo mw ma mf m0 m1 mu mv u0 u1 iz mb mn mpt mbg mwr mwk mlf men (1 : Int32) (2 : Int32) _ hT hph hy1 (by decide)) (cm_V 2 hts kc_X11_throwsIf ki_RX11 kl_RX11_328 kv_X11_throwsIf kx_X11_throwsIf kd_X11_throwsIf ⟨Nat.le_of_ble_eq_true rfl, Nat.le_of_ble_eq_true rfl⟩) (ty_preE (ci := 11) (q0 := 1) hP hK hD hS hA hX rfl rfl) rfl rfl hl.1 rfl (lv_room (Nat.le_of_ble_eq_true rfl)) dX11_restVoltage_27 ⟨Nat.le_of_ble_eq_true rfl, Nat.le_of_ble_eq_true rfl⟩) (fun r_27 u H locs hw_28 hP hD hS => ?_)
      obtain ⟨ws_29, th1_30⟩ := u
      obtain ⟨hT, hp_31⟩ := hw_28
      have hp_31 : ((r_27 = 0 ∧ (1 : Int32) = 0 ∧ th1_30 = 0) ∨ (r_27 = 1 ∧ ¬ (1 : Int32) = 0 ∧ th1_30 = (2 : Int32))) := hp_31
      obtain ⟨hP, hD⟩ := ty_shPD (w2 := ([(rf_RW ct 0 mw 958 f), (rf_MO mo mw ma mf m0 m1 mu mv u0 u1 iz th1_30 mb mn mpt mbg mwr mwk mlf men)] ++ ws_29)) hP hD rfl
      rcases hp_31 with ⟨rfl, hz_32⟩ | ⟨rfl, hz_33⟩
      · exact absurd hz_32.1 (by decide)
      · have he_34 := hz_33.2
        have hP : va_P D vwCl ([(rf_RW ct 0 mw 958 f), (rf_MO mo mw ma mf m0 m1 mu mv u0 u1 iz (2) mb mn mpt mbg mwr mwk mlf men)] ++ ws_29) H := by rw [he_34] at hP; exact hP
        have hD : va_D A ([(rf_RW ct 0 mw 958 f), (rf_MO mo mw ma mf m0 m1 mu mv u0 u1 iz (2) mb mn mpt mbg mwr mwk mlf men)] ++ ws_29) := by rw [he_34] at hD; exact hD
        refine lv_if_eq (tgt := 37) hx hb dX11_restVoltage_30 (by decide) (fun hc => absurd hc (by decide)) (fun _ => ?_)
        refine lv_iconst (v := 0) hx hb dX11_restVoltage_33 (by decide) ?_
        refine lv_goto (tgt := 43) hx hb dX11_restVoltage_34 (by decide) ?_
        obtain ⟨hP, hD⟩ := ty_ordPD (E2 := [(rf_MO mo mw ma mf m0 m1 mu mv u0 u1 iz (2) mb mn mpt mbg mwr mwk mlf men), (rf_RW ct 0 mw 958 f)]) (n := 2) [1, 0] hP hD rfl rfl (by decide +kernel)
        exact W.iret (v := 0) hx hb hr (fun t ht hW => ⟨⟨0, (ws_29, (2 : Int32)), rfl, ⟨hT, ⟨th1_4, trivial, (Or.inl ⟨hz_6, (Or.inr ⟨hc_12, ⟨th1_30, trivial, ⟨hz_33, ⟨rfl, rfl⟩⟩⟩⟩)⟩)⟩⟩, by rw [ht]; exact hP, by rw [hAe]; exact hD⟩, hS.F ht⟩) hS.2.2 dX11_restVoltage_43
  · have he_35 := hz_7.2
    have hP : va_P D vwCl ([(rf_MO mo mw ma mf m0 m1 mu mv u0 u1 iz (1) mb mn mpt mbg mwr mwk mlf men), (rf_RW ct 0 mw 958 f)] ++ ws_3) H := by rw [he_35] at hP; exact hP
    have hD : va_D A ([(rf_MO mo mw ma mf m0 m1 mu mv u0 u1 iz (1) mb mn mpt mbg mwr mwk mlf men), (rf_RW ct 0 mw 958 f)] ++ ws_3) := by rw [he_35] at hD; exact hD
    refine lv_if_ne (tgt := 33) hx hb dX11_restVoltage_5 (by decide) (fun _ => ?_) (fun hc => absurd hc (by decide))
    refine lv_iconst (v := 0) hx hb dX11_restVoltage_33 (by decide) ?_
    refine lv_goto (tgt := 43) hx hb dX11_restVoltage_34 (by decide) ?_
    exact W.iret (v := 0) hx hb hr (fun t ht hW => ⟨⟨0, (ws_3, (1 : Int32)), rfl, ⟨hT, ⟨th1_4, trivial, (Or.inr ⟨hz_7, ⟨rfl, rfl⟩⟩)⟩⟩, by rw [ht]; exact hP, by rw [hAe]; exact hD⟩, hS.F ht⟩) hS.2.2 dX11_restVoltage_43
