theorem rf_rep {G f h : Nat → Int32} {c q : Int32} (hR : rf_R G (-1) f) (hc : 0 ≤ c.toInt ∧ c.toInt < (G 9).toInt) (b : rf_bg f h (244 + (54 * c)).toInt.toNat q) (hq : 0 ≤ q.toInt ∧ q.toInt ≤ (rf_of f c 12).toInt) : rf_R G (-1) h := by
  have h6 := rf_c6 hR hc
  have e1 := rf_ldp (c := c) (by omega)
  have e2 : (244 + (54 * c)).toInt.toNat = 244 + 54 * c.toInt.toNat := by omega
  rw [e2] at b
  obtain ⟨b1, b2, ⟨b3, b4, b5, b6, b7⟩, b8⟩ := b
  have hn := rf_nn hc
  have cap : rf_of f c 12 = G (244 + 54 * c.toInt.toNat + 12) := rf_caps hR hc
  have cap2 := (hR.1.2.2.2.2.2.2.2.2.1 c.toInt.toNat hn).2.1
  have cap3 : f (244 + 54 * c.toInt.toNat + 12) = G (244 + 54 * c.toInt.toNat + 12) := cap
  rw [cap] at hq
  refine rf_bcR hR rfl hn (fun j hj => b1 j hj) ⟨fun k k1 k2 => ?_, ⟨b3, b4, b5, by rw [b6]; omega, b7.trans cap3⟩, b8⟩
  rw [b2 k k1 k2]
  have hk := hR.2.2.2.2.1 c.toInt.toNat (by omega)
  rcases (by omega : k = 11 ∨ k = 12 ∨ k = 13 ∨ k = 14 ∨ k = 15) with e | e | e | e | e
  · subst e
    exact hk 11 (by omega) hn
  · subst e
    exact hk 12 (by omega) hn
  · subst e
    exact hk 13 (by omega) hn
  · subst e
    exact hk 14 (by omega) hn
  · subst e
    exact hk 15 (by omega) hn
theorem rf_n100 {y : Int32} (h : ¬ y < 100) : 100 ≤ y.toInt := rf_ge9 h (by decide)
theorem rf_m100 {y : Int32} (h : 100 ≤ y.toInt) : (y + Int32.ofInt (-100)).toInt = y.toInt - 100 := by
  have o : (Int32.ofInt (-100)).toInt = -100 := by decide
  have := y.toInt_lt
  rw [Jvm.Kit.i32_add (by rw [o]; omega) (by rw [o]; omega), o]
  omega
def q_zs (s : Nat → Int64) (c n : Nat) (t : Nat → Int64) : Prop := ∀ j : Nat, t j = if 7 * c ≤ j ∧ j < 7 * c + n then 0 else s j
theorem q_zs0 {s : Nat → Int64} {c : Nat} : q_zs s c (0 : Int32).toInt.toNat s := fun j => (if_neg (by have : (0 : Int32).toInt.toNat = 0 := (by decide); omega)).symm
theorem q_zss {s t u : Nat → Int64} {p y : Int32} (hp : 0 ≤ p.toInt ∧ p.toInt < 6) (hy : 0 ≤ y.toInt ∧ y.toInt < 7) (h : q_zs s p.toInt.toNat y.toInt.toNat t) (q : q_X11_putSum t p y 0 u) : q_zs s p.toInt.toNat (y + Int32.ofInt 1).toInt.toNat u := by
  obtain ⟨g, e, e2⟩ := q
  have t7 : (7 : Int32).toInt = 7 := by decide
  have e1 : (7 * p).toInt = 7 * p.toInt := by rw [Jvm.Kit.i32_mul (by rw [t7]; omega) (by rw [t7]; omega), t7]
  have e3 : ((7 * p) + y).toInt = 7 * p.toInt + y.toInt := by rw [Jvm.Kit.i32_add (by rw [e1]; omega) (by rw [e1]; omega), e1]
  have e4 : (y + Int32.ofInt 1).toInt = y.toInt + 1 := rf_p1 (by omega)
  have e5 : ((7 * p) + y).toNatClampNeg = 7 * p.toInt.toNat + y.toInt.toNat := by
    show ((7 * p) + y).toInt.toNat = _
    omega
  intro j
  rw [e2, ← e, e5, e4]
  show (if j = 7 * p.toInt.toNat + y.toInt.toNat then 0 else t j) = _
  by_cases z : j = 7 * p.toInt.toNat + y.toInt.toNat
  · rw [if_pos z, if_pos (by omega)]
  · rw [if_neg z, h j]
    by_cases z2 : 7 * p.toInt.toNat ≤ j ∧ j < 7 * p.toInt.toNat + y.toInt.toNat
    · rw [if_pos z2, if_pos (by omega)]
    · rw [if_neg z2, if_neg (by omega)]
def q_X11_replace (f : Nat → Int32) (G : Nat → Int32) (su : Nat → Int64) (p1 : Int32) (p2 : Int32) (r : Int32) (th1 : Int32) (f1 : Nat → Int32) (su1 : Nat → Int64) : Prop := (∃ (th1_4 : Int32), True ∧ ((((0 ≤ p1.toInt ∧ p1.toInt < (G 9).toInt) ∧ th1_4 = 0) ∧ ((¬ (cm_rng p2.toInt64 0 ((rf_of f p1 12).toInt64)) = (0 : Int32) ∧ (∃ (th1_19 : Int32), True ∧ (((0 : Int32) = 0 ∧ th1_19 = 0) ∧ ((¬ rf_of f p1 0 = (1 : Int32) ∧ ((¬ rf_of f p1 0 = (2 : Int32) ∧ (∃ (h_42 : Nat → Int32), (rf_bg f h_42 (244 + (54 * p1)).toInt.toNat p2 ∧ h_42 = rq_beg f (244 + (54 * p1)).toInt.toNat p2) ∧ (∃ (y_46 : Int32) (g_47 : Nat → Int64), ((0 ≤ y_46.toInt ∧ y_46.toInt ≤ (7 : Int32).toInt) ∧ q_zs su p1.toInt.toNat y_46.toInt.toNat g_47) ∧ ((7 : Int32) ≤ y_46 ∧ (∃ (f1_52 : Nat → Int32), q_kp 718 17 h_42 f1_52 ∧ (r = (rf_of f p1 6) ∧ th1 = 0 ∧ f1 = f1_52 ∧ su1 = g_47)))))) ∨ (rf_of f p1 0 = (2 : Int32) ∧ (r = (-3) ∧ th1 = 0 ∧ f1 = f ∧ su1 = su)))) ∨ (rf_of f p1 0 = (1 : Int32) ∧ (r = (-3) ∧ th1 = 0 ∧ f1 = f ∧ su1 = su)))))) ∨ ((cm_rng p2.toInt64 0 ((rf_of f p1 12).toInt64)) = (0 : Int32) ∧ (∃ (th1_69 : Int32), True ∧ ((¬ (1 : Int32) = 0 ∧ th1_69 = (2 : Int32)) ∧ (r = 0 ∧ th1 = 2 ∧ f1 = f ∧ su1 = su)))))) ∨ ((¬ (0 ≤ p1.toInt ∧ p1.toInt < (G 9).toInt) ∧ th1_4 = 1) ∧ (r = 0 ∧ th1 = 1 ∧ f1 = f ∧ su1 = su))))
set_option maxRecDepth 100000 in
set_option maxHeartbeats 4000000 in
theorem m_X11_replace (l : Launch) (D : va_G) (ct : Nat → ClassId) (S : ty_S) (ws : va_W) (ph : va_W → Prop) (xx : Nat → Nat → Nat → Prop) (mo : Nat) (mw : Nat) (ma : Nat) (mf : Nat) (m0 : Nat) (m1 : Nat) (mu : Nat) (mv : Nat) (u0 : Nat) (u1 : Nat) (iz : Nat) (mb : Nat) (th : Int32) (mn : Int32) (mpt : Int32) (mbg : Int32) (mwr : Int32) (mwk : Int32) (mlf : Int32) (men : Int32) (f : Nat → Int32) (G : Nat → Int32) (su : Nat → Int64) (p1 : Int32) (p2 : Int32) (sz : Nat) (hT : ty_V ct S ph ws) (hph : ty_C ph xx) (hy1 : ty_y1 xx) (hy11 : ty_y0 xx 11) (hR : rf_R G (-1) f) : Met l yX11_replace (ws_ yX11_replace cX11_replace 5 (some .int)) ({ frames := 2, cells := 0, slots := 0, locals := 46 } : Room) (va_Pc [.ref mo, .int p1, .int p2] (cmP D ct sz ([(rf_MO mo mw ma mf m0 m1 mu mv u0 u1 iz th mb mn mpt mbg mwr mwk mlf men), (rf_RW ct 0 mw 958 f), (mu, .inl (ct 1, 42, .inr (.inl su)))] ++ ws))) (va_Qi (fun (r : Int32) (u : va_W × Int32 × (Nat → Int32) × (Nat → Int64)) => match u with | (u9, th1, f1, su1) => ty_V ct S ph u9 ∧ (q_X11_replace f G su p1 p2 r th1 f1 su1) ∧ rf_d (f 8) f f1 ∧ rf_R G (-1) f1) (cmB D ([(rf_MO mo mw ma mf m0 m1 mu mv u0 u1 iz th mb mn mpt mbg mwr mwk mlf men), (rf_RW ct 0 mw 958 f), (mu, .inl (ct 1, 42, .inr (.inl su)))] ++ ws) sz (fun (u : va_W × Int32 × (Nat → Int32) × (Nat → Int64)) => match u with | (u9, th1, f1, su1) => ([(rf_MO mo mw ma mf m0 m1 mu mv u0 u1 iz th1 mb mn mpt mbg mwr mwk mlf men), (rf_RW ct 0 mw 958 f1), (mu, .inl (ct 1, 42, .inr (.inl su1)))] ++ u9))) (va_A ([(rf_MO mo mw ma mf m0 m1 mu mv u0 u1 iz th mb mn mpt mbg mwr mwk mlf men), (rf_RW ct 0 mw 958 f), (mu, .inl (ct 1, 42, .inr (.inl su)))] ++ ws) sz)) 0 0 (va_A ([(rf_MO mo mw ma mf m0 m1 mu mv u0 u1 iz th mb mn mpt mbg mwr mwk mlf men), (rf_RW ct 0 mw 958 f), (mu, .inl (ct 1, 42, .inr (.inl su)))] ++ ws) sz) := by
  refine Met.ofW (cc := cX11_replace) (maxL := 5) (ret := (some .int)) (by decide) rfl ?_
  intro p e s m args below meth c s₁ B hml hv
  obtain ⟨rfl, hsz, hP, hK, hD0, hX⟩ := hv
  have hx := B.exec
  have hb := B.bytes
  have hr := B.returns
  have hts := ws_all (atoms_spec (ws := ws_ yX11_replace cX11_replace 5 (some .int)) B.pre)
  have hown : s.vm.findClass RX11 = some m.cls := findClass_of_methodNamed B.named
  have hlocks := B.notSynchronized
  subst hsz
  have hD := hD0.self (sz := s.heap.size)
  generalize hAe : va_A ([(rf_MO mo mw ma mf m0 m1 mu mv u0 u1 iz th mb mn mpt mbg mwr mwk mlf men), (rf_RW ct 0 mw 958 f), (mu, .inl (ct 1, 42, .inr (.inl su)))] ++ ws) s.heap.size = A at hD hX ⊢
  have hA : ∀ q : Nat, s.heap.size ≤ q → A q := fun q h => by rw [← hAe]; exact Or.inr h
  have hS : va_S A s.heap s.heap [] := va_S.rf
  have hl := lv_entry ([.ref mo, .int p1, .int p2]) (n := 5) (Nat.le_of_ble_eq_true rfl)
  rw [lg_entry_eq]
  generalize (lg_sl ([.ref mo, .int p1, .int p2]) ++ List.replicate (5 - (lg_sl ([.ref mo, .int p1, .int p2])).length) Slot.unset).toArray = ls at hl ⊢
  have hl : lv_has ls 5 [(0, .ref mo), (1, .int p1), (2, .int p2)] := hl
  refine lv_aload_n hx hb dX11_replace_0 rfl (lv_at hl 0 rfl) ?_
  refine lv_iload_n hx hb dX11_replace_1 rfl (lv_at hl 1 rfl) ?_
  obtain ⟨hP, hD⟩ := ty_opPD (E1 := [(mu, .inl (ct 1, 42, .inr (.inl su)))]) (E2 := [(rf_MO mo mw ma mf m0 m1 mu mv u0 u1 iz th mb mn mpt mbg mwr mwk mlf men), (rf_RW ct 0 mw 958 f)]) (n := 3) [2, 0, 1] hP hD rfl rfl (by decide +kernel) ty_mva
  refine ty_Ki hP hD hS hA (va_runV (As := [.int p1]) (rest := []) ⟨hx, hb, hml, hown, hts⟩ (m_X11_noChannel l D ct S ws ph xx mo mw ma mf m0 m1 mu mv u0 u1 iz mb th mn mpt mbg mwr mwk mlf men f G (-1) p1 _ hT hph hy1 hR) (cm_V 1 hts kc_X11_noChannel ki_RX11 kl_RX11_344 kv_X11_noChannel kx_X11_noChannel kd_X11_noChannel ⟨Nat.le_of_ble_eq_true rfl, Nat.le_of_ble_eq_true rfl⟩) (ty_preE (ci := 11) (q0 := 1) hP hK hD hS hA hX rfl rfl) rfl rfl hl.1 rfl (lv_room (Nat.le_of_ble_eq_true rfl)) dX11_replace_2 ⟨Nat.le_of_ble_eq_true rfl, Nat.le_of_ble_eq_true rfl⟩) (fun r_1 u H locs hw_2 hP hD hS => ?_)
  obtain ⟨ws_3, th1_4⟩ := u
  obtain ⟨hT, hp_5⟩ := hw_2
  have hp_5 : ((r_1 = 0 ∧ (0 ≤ p1.toInt ∧ p1.toInt < (G 9).toInt) ∧ th1_4 = 0) ∨ (r_1 = 1 ∧ ¬ (0 ≤ p1.toInt ∧ p1.toInt < (G 9).toInt) ∧ th1_4 = 1)) := hp_5
  obtain ⟨hP, hD⟩ := ty_shPD (w2 := ([(mu, .inl (ct 1, 42, .inr (.inl su))), (rf_MO mo mw ma mf m0 m1 mu mv u0 u1 iz th1_4 mb mn mpt mbg mwr mwk mlf men), (rf_RW ct 0 mw 958 f)] ++ ws_3)) hP hD rfl
  rcases hp_5 with ⟨rfl, hz_6⟩ | ⟨rfl, hz_7⟩
  · have he_8 := hz_6.2
    have hP : va_P D vwCl ([(mu, .inl (ct 1, 42, .inr (.inl su))), (rf_MO mo mw ma mf m0 m1 mu mv u0 u1 iz (0) mb mn mpt mbg mwr mwk mlf men), (rf_RW ct 0 mw 958 f)] ++ ws_3) H := by rw [he_8] at hP; exact hP
    have hD : va_D A ([(mu, .inl (ct 1, 42, .inr (.inl su))), (rf_MO mo mw ma mf m0 m1 mu mv u0 u1 iz (0) mb mn mpt mbg mwr mwk mlf men), (rf_RW ct 0 mw 958 f)] ++ ws_3) := by rw [he_8] at hD; exact hD
    refine lv_if_ne (tgt := 38) hx hb dX11_replace_5 (by decide) (fun hc => absurd (by decide) hc) (fun _ => ?_)
    refine lv_aload_n hx hb dX11_replace_8 rfl (lv_at hl 0 rfl) ?_
    refine lv_iload_n hx hb dX11_replace_9 rfl (lv_at hl 2 rfl) ?_
    refine lv_i2l hx hb dX11_replace_10 rfl ?_
    refine lv_lconst (v := 0) hx hb dX11_replace_11 (by decide) ?_
    refine lv_aload_n hx hb dX11_replace_12 rfl (lv_at hl 0 rfl) ?_
    refine lv_iload_n hx hb dX11_replace_13 rfl (lv_at hl 1 rfl) ?_
    refine lv_bipush (v := 12) hx hb dX11_replace_14 (by decide) ?_
    obtain ⟨hP, hD⟩ := ty_ipPD (E1 := [(mu, .inl (ct 1, 42, .inr (.inl su)))]) (E2 := [(rf_MO mo mw ma mf m0 m1 mu mv u0 u1 iz (0) mb mn mpt mbg mwr mwk mlf men), (rf_RW ct 0 mw 958 f)]) hP hD rfl ty_mva
    refine ty_Ki hP hD hS hA (va_runV (As := [.int p1, .int 12]) (rest := [.long 0, .long p2.toInt64, .ref mo]) ⟨hx, hb, hml, hown, hts⟩ (m_of_12 l D ct S ws_3 ph xx mo mw ma mf m0 m1 mu mv u0 u1 iz mb (0 : Int32) mn mpt mbg mwr mwk mlf men f G (-1) p1 _ hT hph hy1 hR hz_6.1) (cm_V 2 hts kc_X11_of ki_RX11 kl_RX11_209 kv_X11_of kx_X11_of kd_X11_of ⟨Nat.le_of_ble_eq_true rfl, Nat.le_of_ble_eq_true rfl⟩) (ty_preE (ci := 11) (q0 := 1) hP hK hD hS hA hX rfl rfl) rfl rfl hl.1 rfl (lv_room (Nat.le_of_ble_eq_true rfl)) dX11_replace_16 ⟨Nat.le_of_ble_eq_true rfl, Nat.le_of_ble_eq_true rfl⟩) (fun r_9 u H locs hw_10 hP hD hS => ?_)
    obtain ⟨ws_11, rfl⟩ : ∃ z, z = u := ⟨_, rfl⟩
    obtain ⟨hT, rfl⟩ := hw_10
    obtain ⟨hP, hD⟩ := ty_shPD (w2 := ([(mu, .inl (ct 1, 42, .inr (.inl su))), (rf_MO mo mw ma mf m0 m1 mu mv u0 u1 iz (0) mb mn mpt mbg mwr mwk mlf men), (rf_RW ct 0 mw 958 f)] ++ ws_11)) hP hD rfl
    refine lv_i2l hx hb dX11_replace_19 rfl ?_
    obtain ⟨hP, hD⟩ := ty_ipPD (E1 := [(mu, .inl (ct 1, 42, .inr (.inl su))), (rf_MO mo mw ma mf m0 m1 mu mv u0 u1 iz (0) mb mn mpt mbg mwr mwk mlf men), (rf_RW ct 0 mw 958 f)]) (E2 := []) hP hD rfl ty_mva
    refine ty_Ki hP hD hS hA (va_runS (As := [.long p2.toInt64, .long 0, .long ((rf_of f p1 12).toInt64)]) (rest := [.ref mo]) ⟨hx, hb, hml, hown, hts⟩ (m_X11_in l D ct S ws_11 ph xx p2.toInt64 (0 : Int64) ((rf_of f p1 12).toInt64) _ hT hph hy1) (cm_S 3 hts kc_X11_in ki_RX11 kl_RX11_70 ks_X11_in kd_X11_in ⟨Nat.le_of_ble_eq_true rfl, Nat.le_of_ble_eq_true rfl⟩) (ty_preS hP hK hD hS hA hX) rfl rfl hl.1 rfl (lv_room (Nat.le_of_ble_eq_true rfl)) dX11_replace_20 ⟨Nat.le_of_ble_eq_true rfl, Nat.le_of_ble_eq_true rfl⟩) (fun r_12 u H locs hw_13 hP hD hS => ?_)
    obtain ⟨ws_14, rfl⟩ : ∃ z, z = u := ⟨_, rfl⟩
    obtain ⟨hT, rfl⟩ := hw_13
    obtain ⟨hP, hD⟩ := ty_shPD (w2 := ([(mu, .inl (ct 1, 42, .inr (.inl su))), (rf_MO mo mw ma mf m0 m1 mu mv u0 u1 iz (0) mb mn mpt mbg mwr mwk mlf men), (rf_RW ct 0 mw 958 f)] ++ ws_14)) hP hD rfl
    refine lv_if_ne (tgt := 30) hx hb dX11_replace_23 (by decide) (fun hc_15 => ?_) (fun hc_15 => ?_)
    · refine lv_iconst (v := 0) hx hb dX11_replace_30 (by decide) ?_
      refine lv_iconst (v := 2) hx hb dX11_replace_31 (by decide) ?_
      obtain ⟨hP, hD⟩ := ty_opPD (E1 := [(mu, .inl (ct 1, 42, .inr (.inl su))), (rf_RW ct 0 mw 958 f)]) (E2 := [(rf_MO mo mw ma mf m0 m1 mu mv u0 u1 iz (0) mb mn mpt mbg mwr mwk mlf men)]) (n := 3) [0, 2, 1] hP hD rfl rfl (by decide +kernel) ty_mva
      refine ty_Ki hP hD hS hA (va_runV (As := [.int 0, .int 2]) (rest := []) ⟨hx, hb, hml, hown, hts⟩ (m_throwsIf_0 l D ct S ws_14 ph xx mo mw ma mf m0 m1 mu mv u0 u1 iz mb mn mpt mbg mwr mwk mlf men (0 : Int32) (2 : Int32) _ hT hph hy1 (by decide)) (cm_V 2 hts kc_X11_throwsIf ki_RX11 kl_RX11_328 kv_X11_throwsIf kx_X11_throwsIf kd_X11_throwsIf ⟨Nat.le_of_ble_eq_true rfl, Nat.le_of_ble_eq_true rfl⟩) (ty_preE (ci := 11) (q0 := 2) hP hK hD hS hA hX rfl rfl) rfl rfl hl.1 rfl (lv_room (Nat.le_of_ble_eq_true rfl)) dX11_replace_32 ⟨Nat.le_of_ble_eq_true rfl, Nat.le_of_ble_eq_true rfl⟩) (fun r_16 u H locs hw_17 hP hD hS => ?_)
      obtain ⟨ws_18, th1_19⟩ := u
      obtain ⟨hT, hp_20⟩ := hw_17
      have hp_20 : ((r_16 = 0 ∧ (0 : Int32) = 0 ∧ th1_19 = 0) ∨ (r_16 = 1 ∧ ¬ (0 : Int32) = 0 ∧ th1_19 = (2 : Int32))) := hp_20
      obtain ⟨hP, hD⟩ := ty_shPD (w2 := ([(mu, .inl (ct 1, 42, .inr (.inl su))), (rf_RW ct 0 mw 958 f), (rf_MO mo mw ma mf m0 m1 mu mv u0 u1 iz th1_19 mb mn mpt mbg mwr mwk mlf men)] ++ ws_18)) hP hD rfl
      rcases hp_20 with ⟨rfl, hz_21⟩ | ⟨rfl, hz_22⟩
      · have he_23 := hz_21.2
        have hP : va_P D vwCl ([(mu, .inl (ct 1, 42, .inr (.inl su))), (rf_RW ct 0 mw 958 f), (rf_MO mo mw ma mf m0 m1 mu mv u0 u1 iz (0) mb mn mpt mbg mwr mwk mlf men)] ++ ws_18) H := by rw [he_23] at hP; exact hP
        have hD : va_D A ([(mu, .inl (ct 1, 42, .inr (.inl su))), (rf_RW ct 0 mw 958 f), (rf_MO mo mw ma mf m0 m1 mu mv u0 u1 iz (0) mb mn mpt mbg mwr mwk mlf men)] ++ ws_18) := by rw [he_23] at hD; exact hD
        refine lv_if_eq (tgt := 40) hx hb dX11_replace_35 (by decide) (fun _ => ?_) (fun hc => absurd (by decide) hc)
        refine lv_aload_n hx hb dX11_replace_40 rfl (lv_at hl 0 rfl) ?_
        refine lv_iload_n hx hb dX11_replace_41 rfl (lv_at hl 1 rfl) ?_
        refine lv_iconst (v := 1) hx hb dX11_replace_42 (by decide) ?_
        obtain ⟨hP, hD⟩ := ty_opPD (E1 := [(mu, .inl (ct 1, 42, .inr (.inl su)))]) (E2 := [(rf_MO mo mw ma mf m0 m1 mu mv u0 u1 iz (0) mb mn mpt mbg mwr mwk mlf men), (rf_RW ct 0 mw 958 f)]) (n := 3) [0, 2, 1] hP hD rfl rfl (by decide +kernel) ty_mva
        refine ty_Ki hP hD hS hA (va_runV (As := [.int p1, .int 1]) (rest := []) ⟨hx, hb, hml, hown, hts⟩ (m_X11_isIn l D ct S ws_18 ph xx mo mw ma mf m0 m1 mu mv u0 u1 iz mb (0 : Int32) mn mpt mbg mwr mwk mlf men f G (-1) p1 (1 : Int32) _ hT hph hy1 hR hz_6.1) (cm_V 2 hts kc_X11_isIn ki_RX11 kl_RX11_350 kv_X11_isIn kx_X11_isIn kd_X11_isIn ⟨Nat.le_of_ble_eq_true rfl, Nat.le_of_ble_eq_true rfl⟩) (ty_preE (ci := 11) (q0 := 1) hP hK hD hS hA hX rfl rfl) rfl rfl hl.1 rfl (lv_room (Nat.le_of_ble_eq_true rfl)) dX11_replace_43 ⟨Nat.le_of_ble_eq_true rfl, Nat.le_of_ble_eq_true rfl⟩) (fun r_24 u H locs hw_25 hP hD hS => ?_)
        obtain ⟨ws_26, rfl⟩ : ∃ z, z = u := ⟨_, rfl⟩
        obtain ⟨hT, hp_27⟩ := hw_25
        have hp_27 : ((r_24 = 0 ∧ ¬ rf_of f p1 0 = (1 : Int32)) ∨ (r_24 = 1 ∧ rf_of f p1 0 = (1 : Int32))) := hp_27
        obtain ⟨hP, hD⟩ := ty_shPD (w2 := ([(mu, .inl (ct 1, 42, .inr (.inl su))), (rf_MO mo mw ma mf m0 m1 mu mv u0 u1 iz (0) mb mn mpt mbg mwr mwk mlf men), (rf_RW ct 0 mw 958 f)] ++ ws_26)) hP hD rfl
        rcases hp_27 with ⟨rfl, hz_28⟩ | ⟨rfl, hz_29⟩
        · refine lv_if_ne (tgt := 58) hx hb dX11_replace_46 (by decide) (fun hc => absurd (by decide) hc) (fun _ => ?_)
          refine lv_aload_n hx hb dX11_replace_49 rfl (lv_at hl 0 rfl) ?_
          refine lv_iload_n hx hb dX11_replace_50 rfl (lv_at hl 1 rfl) ?_
          refine lv_iconst (v := 2) hx hb dX11_replace_51 (by decide) ?_
          obtain ⟨hP, hD⟩ := ty_ipPD (E1 := [(mu, .inl (ct 1, 42, .inr (.inl su)))]) (E2 := [(rf_MO mo mw ma mf m0 m1 mu mv u0 u1 iz (0) mb mn mpt mbg mwr mwk mlf men), (rf_RW ct 0 mw 958 f)]) hP hD rfl ty_mva
          refine ty_Ki hP hD hS hA (va_runV (As := [.int p1, .int 2]) (rest := []) ⟨hx, hb, hml, hown, hts⟩ (m_X11_isIn l D ct S ws_26 ph xx mo mw ma mf m0 m1 mu mv u0 u1 iz mb (0 : Int32) mn mpt mbg mwr mwk mlf men f G (-1) p1 (2 : Int32) _ hT hph hy1 hR hz_6.1) (cm_V 2 hts kc_X11_isIn ki_RX11 kl_RX11_350 kv_X11_isIn kx_X11_isIn kd_X11_isIn ⟨Nat.le_of_ble_eq_true rfl, Nat.le_of_ble_eq_true rfl⟩) (ty_preE (ci := 11) (q0 := 1) hP hK hD hS hA hX rfl rfl) rfl rfl hl.1 rfl (lv_room (Nat.le_of_ble_eq_true rfl)) dX11_replace_52 ⟨Nat.le_of_ble_eq_true rfl, Nat.le_of_ble_eq_true rfl⟩) (fun r_30 u H locs hw_31 hP hD hS => ?_)
          obtain ⟨ws_32, rfl⟩ : ∃ z, z = u := ⟨_, rfl⟩
          obtain ⟨hT, hp_33⟩ := hw_31
          have hp_33 : ((r_30 = 0 ∧ ¬ rf_of f p1 0 = (2 : Int32)) ∨ (r_30 = 1 ∧ rf_of f p1 0 = (2 : Int32))) := hp_33
          obtain ⟨hP, hD⟩ := ty_shPD (w2 := ([(mu, .inl (ct 1, 42, .inr (.inl su))), (rf_MO mo mw ma mf m0 m1 mu mv u0 u1 iz (0) mb mn mpt mbg mwr mwk mlf men), (rf_RW ct 0 mw 958 f)] ++ ws_32)) hP hD rfl
          rcases hp_33 with ⟨rfl, hz_34⟩ | ⟨rfl, hz_35⟩
          · refine lv_if_eq (tgt := 61) hx hb dX11_replace_55 (by decide) (fun _ => ?_) (fun hc => absurd (by decide) hc)
            refine lv_aload_n hx hb dX11_replace_61 rfl (lv_at hl 0 rfl) ?_
            refine lv_iload_n hx hb dX11_replace_62 rfl (lv_at hl 1 rfl) ?_
            refine lv_bipush (v := 6) hx hb dX11_replace_63 (by decide) ?_
            obtain ⟨hP, hD⟩ := ty_ipPD (E1 := [(mu, .inl (ct 1, 42, .inr (.inl su)))]) (E2 := [(rf_MO mo mw ma mf m0 m1 mu mv u0 u1 iz (0) mb mn mpt mbg mwr mwk mlf men), (rf_RW ct 0 mw 958 f)]) hP hD rfl ty_mva
            refine ty_Ki hP hD hS hA (va_runV (As := [.int p1, .int 6]) (rest := []) ⟨hx, hb, hml, hown, hts⟩ (m_of_6 l D ct S ws_32 ph xx mo mw ma mf m0 m1 mu mv u0 u1 iz mb (0 : Int32) mn mpt mbg mwr mwk mlf men f G (-1) p1 _ hT hph hy1 hR hz_6.1) (cm_V 2 hts kc_X11_of ki_RX11 kl_RX11_209 kv_X11_of kx_X11_of kd_X11_of ⟨Nat.le_of_ble_eq_true rfl, Nat.le_of_ble_eq_true rfl⟩) (ty_preE (ci := 11) (q0 := 1) hP hK hD hS hA hX rfl rfl) rfl rfl hl.1 rfl (lv_room (Nat.le_of_ble_eq_true rfl)) dX11_replace_65 ⟨Nat.le_of_ble_eq_true rfl, Nat.le_of_ble_eq_true rfl⟩) (fun r_36 u H locs hw_37 hP hD hS => ?_)
            obtain ⟨ws_38, rfl⟩ : ∃ z, z = u := ⟨_, rfl⟩
            obtain ⟨hT, rfl⟩ := hw_37
            obtain ⟨hP, hD⟩ := ty_shPD (w2 := ([(mu, .inl (ct 1, 42, .inr (.inl su))), (rf_MO mo mw ma mf m0 m1 mu mv u0 u1 iz (0) mb mn mpt mbg mwr mwk mlf men), (rf_RW ct 0 mw 958 f)] ++ ws_38)) hP hD rfl
            refine lv_istore_n (lv' := [(3, .int (rf_of f p1 6)), (0, .ref mo), (1, .int p1), (2, .int p2)]) hx hb dX11_replace_68 rfl hl (by decide) rfl (fun ls hl => ?_)
            refine lv_aload_n hx hb dX11_replace_69 rfl (lv_at hl 1 rfl) ?_
            refine va_get (v := .ref mw) (D := D) (ci := 11) (C := RX11) (T := TX11) (N := 19) hx hb hts in_X11 hown hK hP 1 rfl rfl 0 (by decide) (hts _ kl_RX11_9) (fun _ h9 => h9) rfl dX11_replace_70 ?_
            refine lv_sipush (v := 244) hx hb dX11_replace_73 (by decide) ?_
            refine lv_bipush (v := 54) hx hb dX11_replace_76 (by decide) ?_
            refine lv_iload_n hx hb dX11_replace_78 rfl (lv_at hl 2 rfl) ?_
            refine lv_imul hx hb dX11_replace_79 ?_
            refine lv_iadd hx hb dX11_replace_80 ?_
            refine lv_iload_n hx hb dX11_replace_81 rfl (lv_at hl 3 rfl) ?_
            obtain ⟨hP, hD⟩ := ty_ipPD (E1 := [(mu, .inl (ct 1, 42, .inr (.inl su))), (rf_MO mo mw ma mf m0 m1 mu mv u0 u1 iz (0) mb mn mpt mbg mwr mwk mlf men)]) (E2 := [(rf_RW ct 0 mw 958 f)]) hP hD rfl ty_mva
            refine ty_Kv hP hD hS hA (va_runS (As := [.ref mw, .int (244 + (54 * p1)), .int p2]) (rest := []) ⟨hx, hb, hml, hown, hts⟩ (m_begins l D ct S ws_38 ph xx mw (244 + (54 * p1)) p2 f _ hT hph hy1 (by have := rf_c6 hR hz_6.1; have e70 := rf_ldp (c := p1) (by omega); omega)) (cm_S 3 hts kc_X11_begins ki_RX11 kl_RX11_201 ks_X11_begins kd_X11_begins ⟨Nat.le_of_ble_eq_true rfl, Nat.le_of_ble_eq_true rfl⟩) (ty_preS hP hK hD hS hA hX) rfl rfl hl.1 rfl (lv_room (Nat.le_of_ble_eq_true rfl)) dX11_replace_82 ⟨Nat.le_of_ble_eq_true rfl, Nat.le_of_ble_eq_true rfl⟩) (fun u H locs hw_40 hP hD hS => ?_)
            obtain ⟨ws_41, h_42⟩ := u
            obtain ⟨hT, hp_43⟩ := hw_40
            have hp_43 : rf_bg f h_42 (244 + (54 * p1)).toInt.toNat p2 ∧ h_42 = rq_beg f (244 + (54 * p1)).toInt.toNat p2 := hp_43
            obtain ⟨hP, hD⟩ := ty_shPD (w2 := ([(mu, .inl (ct 1, 42, .inr (.inl su))), (rf_MO mo mw ma mf m0 m1 mu mv u0 u1 iz (0) mb mn mpt mbg mwr mwk mlf men), (rf_RW ct 0 mw 958 h_42)] ++ ws_41)) hP hD rfl
            have hR_44 : rf_R G (-1) h_42 := rf_rep hR hz_6.1 hp_43.1 (by have := rf_rng hc_15; rw [Jvm.Kit.i64_of_i32, Jvm.Kit.i64_of_i32, show (0 : Int64).toInt = 0 from by decide] at this; exact this)
            have hD_45 : rf_d (f 8) f h_42 := rf_db (rf_dr f) (P := 244) (by omega) (fun j9 hj9 => hp_43.1.1 j9 (Or.inl (by have := rf_c6 hR hz_6.1; have e70 := rf_ldp (c := p1) (by omega); omega)))
            refine lv_iconst (v := 0) hx hb dX11_replace_85 (by decide) ?_
            refine lv_istore (lv' := [(4, .int 0), (3, .int (rf_of f p1 6)), (0, .ref mo), (1, .int p1), (2, .int p2)]) hx hb dX11_replace_86 hl (by decide) rfl (fun ls hl => ?_)
            refine ty_loop (I := fun μ H locs ls => ∃ (ws : va_W) (y_46 : Int32) (g_47 : Nat → Int64), μ = (2147483648 - y_46.toInt).toNat ∧ ty_V ct S ph ws ∧ va_P D vwCl ([(mu, .inl (ct 1, 42, .inr (.inl g_47))), (rf_MO mo mw ma mf m0 m1 mu mv u0 u1 iz (0) mb mn mpt mbg mwr mwk mlf men), (rf_RW ct 0 mw 958 h_42)] ++ ws) H ∧ va_D A ([(mu, .inl (ct 1, 42, .inr (.inl g_47))), (rf_MO mo mw ma mf m0 m1 mu mv u0 u1 iz (0) mb mn mpt mbg mwr mwk mlf men), (rf_RW ct 0 mw 958 h_42)] ++ ws) ∧ va_S A s.heap H locs ∧ lv_has ls 5 [(0, .ref mo), (1, .int p1), (2, .int p2), (3, .int (rf_of f p1 6)), (4, .int y_46)] ∧ (0 ≤ y_46.toInt ∧ y_46.toInt ≤ (7 : Int32).toInt) ∧ q_zs su p1.toInt.toNat y_46.toInt.toNat g_47) ⟨_, ws_41, (0 : Int32), su, rfl, hT, hP, hD, hS, (lv_sub hl [2, 3, 4, 1, 0] rfl), ⟨by decide, q_zs0⟩⟩ (fun μ H locs ls hI ih_88 => ?_)
            obtain ⟨ws, y_46, g_47, rfl, hT, hP, hD, hS, hl, hex_88⟩ := hI
            refine lv_iload hx hb dX11_replace_88 (lv_at hl 4 rfl) ?_
            refine lv_bipush (v := 7) hx hb dX11_replace_90 (by decide) ?_
            refine lv_icmp_ge (tgt := 109) hx hb dX11_replace_92 (by decide) (fun hc_48 => ?_) (fun hc_48 => ?_)
            · refine lv_aload_n hx hb dX11_replace_109 rfl (lv_at hl 0 rfl) ?_
              refine lv_iload_n hx hb dX11_replace_110 rfl (lv_at hl 1 rfl) ?_
              refine lv_iconst (v := 5) hx hb dX11_replace_111 (by decide) ?_
              refine lv_iconst (v := 0) hx hb dX11_replace_112 (by decide) ?_
              obtain ⟨hP, hD⟩ := ty_ipPD (E1 := [(mu, .inl (ct 1, 42, .inr (.inl g_47)))]) (E2 := [(rf_MO mo mw ma mf m0 m1 mu mv u0 u1 iz (0) mb mn mpt mbg mwr mwk mlf men), (rf_RW ct 0 mw 958 h_42)]) hP hD rfl ty_mva
              refine ty_Kv hP hD hS hA (va_runV (As := [.int p1, .int 5, .int 0]) (rest := []) ⟨hx, hb, hml, hown, hts⟩ (m_X11_notes l D ct S ws ph xx mo mw ma mf m0 m1 mu mv u0 u1 iz mb (0 : Int32) mn mpt mbg mwr mwk mlf men h_42 G (-1) p1 (5 : Int32) (0 : Int32) _ hT hph hy1 hR_44) (cm_V 3 hts kc_X11_notes ki_RX11 kl_RX11_282 kv_X11_notes kx_X11_notes kd_X11_notes ⟨Nat.le_of_ble_eq_true rfl, Nat.le_of_ble_eq_true rfl⟩) (ty_preE (ci := 11) (q0 := 1) hP hK hD hS hA hX rfl rfl) rfl rfl hl.1 rfl (lv_room (Nat.le_of_ble_eq_true rfl)) dX11_replace_113 ⟨Nat.le_of_ble_eq_true rfl, Nat.le_of_ble_eq_true rfl⟩) (fun u H locs hw_50 hP hD hS => ?_)
              obtain ⟨ws_51, f1_52⟩ := u
              obtain ⟨hT, hp_53⟩ := hw_50
              have hp_53 : rf_d (h_42 8) h_42 f1_52 ∧ rf_R G (-1) f1_52 ∧ rf_sm h_42 f1_52 ∧ q_kp 718 17 h_42 f1_52 := hp_53
              obtain ⟨hd_54, hq_55⟩ := hp_53
              have hD_56 := rf_dt hD_45 hd_54
              have hR_57 := hq_55.1
              obtain ⟨hP, hD⟩ := ty_shPD (w2 := ([(mu, .inl (ct 1, 42, .inr (.inl g_47))), (rf_MO mo mw ma mf m0 m1 mu mv u0 u1 iz (0) mb mn mpt mbg mwr mwk mlf men), (rf_RW ct 0 mw 958 f1_52)] ++ ws_51)) hP hD rfl
              refine lv_iload_n hx hb dX11_replace_116 rfl (lv_at hl 3 rfl) ?_
              obtain ⟨hP, hD⟩ := ty_ordPD (E2 := [(rf_MO mo mw ma mf m0 m1 mu mv u0 u1 iz (0) mb mn mpt mbg mwr mwk mlf men), (rf_RW ct 0 mw 958 f1_52), (mu, .inl (ct 1, 42, .inr (.inl g_47)))]) (n := 3) [1, 2, 0] hP hD rfl rfl (by decide +kernel)
              exact W.iret (v := (rf_of f p1 6)) hx hb hr (fun t ht hW => ⟨⟨(rf_of f p1 6), (ws_51, (0 : Int32), f1_52, g_47), rfl, ⟨hT, ⟨⟨th1_4, trivial, (Or.inl ⟨hz_6, (Or.inl ⟨hc_15, ⟨th1_19, trivial, ⟨hz_21, (Or.inl ⟨hz_28, (Or.inl ⟨hz_34, ⟨h_42, hp_43, ⟨y_46, g_47, hex_88, ⟨hc_48, ⟨f1_52, hq_55.2.2, ⟨rfl, rfl, rfl, rfl⟩⟩⟩⟩⟩⟩)⟩)⟩⟩⟩)⟩)⟩, ⟨hD_56, hR_57⟩⟩⟩, by rw [ht]; exact hP, by rw [hAe]; exact hD⟩, hS.F ht⟩) hS.2.2 dX11_replace_117
            · refine lv_aload_n hx hb dX11_replace_95 rfl (lv_at hl 0 rfl) ?_
              refine lv_iload_n hx hb dX11_replace_96 rfl (lv_at hl 1 rfl) ?_
              refine lv_iload hx hb dX11_replace_97 (lv_at hl 4 rfl) ?_
              refine lv_lconst (v := 0) hx hb dX11_replace_99 (by decide) ?_
              obtain ⟨hP, hD⟩ := ty_opPD (E1 := [(rf_RW ct 0 mw 958 h_42)]) (E2 := [(rf_MO mo mw ma mf m0 m1 mu mv u0 u1 iz (0) mb mn mpt mbg mwr mwk mlf men), (mu, .inl (ct 1, 42, .inr (.inl g_47)))]) (n := 3) [2, 1, 0] hP hD rfl rfl (by decide +kernel) ty_mva
              refine ty_Kv hP hD hS hA (va_runV (As := [.int p1, .int y_46, .long 0]) (rest := []) ⟨hx, hb, hml, hown, hts⟩ (m_X11_putSum l D ct S ws ph xx mo mw ma mf m0 m1 mu mv u0 u1 iz mb (0 : Int32) mn mpt mbg mwr mwk mlf men g_47 p1 y_46 (0 : Int64) _ hT hph hy1 hy11 (rf_c6 hR_44 hz_6.1) (by have := hex_88.1; have := rf_ng (b := 7) (by decide) hc_48; omega)) (cm_V 3 hts kc_X11_putSum ki_RX11 kl_RX11_265 kv_X11_putSum kx_X11_putSum kd_X11_putSum ⟨Nat.le_of_ble_eq_true rfl, Nat.le_of_ble_eq_true rfl⟩) (ty_preE (ci := 11) (q0 := 1) hP hK hD hS hA hX rfl rfl) rfl rfl hl.1 rfl (lv_room (Nat.le_of_ble_eq_true rfl)) dX11_replace_100 ⟨Nat.le_of_ble_eq_true rfl, Nat.le_of_ble_eq_true rfl⟩) (fun u H locs hw_60 hP hD hS => ?_)
              obtain ⟨ws_61, su1_62⟩ := u
              obtain ⟨hT, hp_63⟩ := hw_60
              have hp_63 : (q_X11_putSum g_47 p1 y_46 (0 : Int64) su1_62) := hp_63
              obtain ⟨hP, hD⟩ := ty_shPD (w2 := ([(rf_RW ct 0 mw 958 h_42), (rf_MO mo mw ma mf m0 m1 mu mv u0 u1 iz (0) mb mn mpt mbg mwr mwk mlf men), (mu, .inl (ct 1, 42, .inr (.inl su1_62)))] ++ ws_61)) hP hD rfl
              refine lv_iinc (v := (y_46 + Int32.ofInt 1)) (lv' := [(4, .int (y_46 + Int32.ofInt 1)), (0, .ref mo), (1, .int p1), (2, .int p2), (3, .int (rf_of f p1 6))]) hx hb dX11_replace_103 hl (k := 4) rfl rfl (by decide) rfl (fun ls hl => ?_)
              refine lv_goto (tgt := 88) hx hb dX11_replace_106 (by decide) ?_
              obtain ⟨hP, hD⟩ := ty_ordPD (E2 := [(mu, .inl (ct 1, 42, .inr (.inl su1_62))), (rf_MO mo mw ma mf m0 m1 mu mv u0 u1 iz (0) mb mn mpt mbg mwr mwk mlf men), (rf_RW ct 0 mw 958 h_42)]) (n := 3) [2, 1, 0] hP hD rfl rfl (by decide +kernel)
              exact ih_88 _ _ _ _ (ty_inc (cm_lt hc_48)) ⟨ws_61, (y_46 + Int32.ofInt 1), su1_62, rfl, hT, hP, hD, hS, (lv_sub hl [1, 2, 3, 4, 0] rfl), ⟨(rf_ad1 hex_88.1 hc_48), q_zss (rf_c6 hR_44 hz_6.1) (by have := hex_88.1; have := rf_ng (b := 7) (by decide) hc_48; omega) hex_88.2 hp_63⟩⟩
          · refine lv_if_eq (tgt := 61) hx hb dX11_replace_55 (by decide) (fun hc => absurd hc (by decide)) (fun _ => ?_)
            refine lv_bipush (v := (-3)) hx hb dX11_replace_58 (by decide) ?_
            obtain ⟨hP, hD⟩ := ty_ordPD (E2 := [(rf_MO mo mw ma mf m0 m1 mu mv u0 u1 iz (0) mb mn mpt mbg mwr mwk mlf men), (rf_RW ct 0 mw 958 f), (mu, .inl (ct 1, 42, .inr (.inl su)))]) (n := 3) [1, 2, 0] hP hD rfl rfl (by decide +kernel)
            exact W.iret (v := (-3)) hx hb hr (fun t ht hW => ⟨⟨(-3), (ws_32, (0 : Int32), f, su), rfl, ⟨hT, ⟨⟨th1_4, trivial, (Or.inl ⟨hz_6, (Or.inl ⟨hc_15, ⟨th1_19, trivial, ⟨hz_21, (Or.inl ⟨hz_28, (Or.inr ⟨hz_35, ⟨rfl, rfl, rfl, rfl⟩⟩)⟩)⟩⟩⟩)⟩)⟩, ⟨(rf_dr f), hR⟩⟩⟩, by rw [ht]; exact hP, by rw [hAe]; exact hD⟩, hS.F ht⟩) hS.2.2 dX11_replace_60
        · refine lv_if_ne (tgt := 58) hx hb dX11_replace_46 (by decide) (fun _ => ?_) (fun hc => absurd hc (by decide))
          refine lv_bipush (v := (-3)) hx hb dX11_replace_58 (by decide) ?_
          obtain ⟨hP, hD⟩ := ty_ordPD (E2 := [(rf_MO mo mw ma mf m0 m1 mu mv u0 u1 iz (0) mb mn mpt mbg mwr mwk mlf men), (rf_RW ct 0 mw 958 f), (mu, .inl (ct 1, 42, .inr (.inl su)))]) (n := 3) [1, 2, 0] hP hD rfl rfl (by decide +kernel)
          exact W.iret (v := (-3)) hx hb hr (fun t ht hW => ⟨⟨(-3), (ws_26, (0 : Int32), f, su), rfl, ⟨hT, ⟨⟨th1_4, trivial, (Or.inl ⟨hz_6, (Or.inl ⟨hc_15, ⟨th1_19, trivial, ⟨hz_21, (Or.inr ⟨hz_29, ⟨rfl, rfl, rfl, rfl⟩⟩)⟩⟩⟩)⟩)⟩, ⟨(rf_dr f), hR⟩⟩⟩, by rw [ht]; exact hP, by rw [hAe]; exact hD⟩, hS.F ht⟩) hS.2.2 dX11_replace_60
      · exact absurd rfl hz_22.1
    · refine lv_iconst (v := 1) hx hb dX11_replace_26 (by decide) ?_
      refine lv_goto (tgt := 31) hx hb dX11_replace_27 (by decide) ?_
      refine lv_iconst (v := 2) hx hb dX11_replace_31 (by decide) ?_
      obtain ⟨hP, hD⟩ := ty_opPD (E1 := [(mu, .inl (ct 1, 42, .inr (.inl su))), (rf_RW ct 0 mw 958 f)]) (E2 := [(rf_MO mo mw ma mf m0 m1 mu mv u0 u1 iz (0) mb mn mpt mbg mwr mwk mlf men)]) (n := 3) [0, 2, 1] hP hD rfl rfl (by decide +kernel) ty_mva
      refine ty_Ki hP hD hS hA (va_runV (As := [.int 1, .int 2]) (rest := []) ⟨hx, hb, hml, hown, hts⟩ (m_throwsIf_0 l D ct S ws_14 ph xx mo mw ma mf m0 m1 mu mv u0 u1 iz mb mn mpt mbg mwr mwk mlf men (1 : Int32) (2 : Int32) _ hT hph hy1 (by decide)) (cm_V 2 hts kc_X11_throwsIf ki_RX11 kl_RX11_328 kv_X11_throwsIf kx_X11_throwsIf kd_X11_throwsIf ⟨Nat.le_of_ble_eq_true rfl, Nat.le_of_ble_eq_true rfl⟩) (ty_preE (ci := 11) (q0 := 2) hP hK hD hS hA hX rfl rfl) rfl rfl hl.1 rfl (lv_room (Nat.le_of_ble_eq_true rfl)) dX11_replace_32 ⟨Nat.le_of_ble_eq_true rfl, Nat.le_of_ble_eq_true rfl⟩) (fun r_66 u H locs hw_67 hP hD hS => ?_)
      obtain ⟨ws_68, th1_69⟩ := u
      obtain ⟨hT, hp_70⟩ := hw_67
      have hp_70 : ((r_66 = 0 ∧ (1 : Int32) = 0 ∧ th1_69 = 0) ∨ (r_66 = 1 ∧ ¬ (1 : Int32) = 0 ∧ th1_69 = (2 : Int32))) := hp_70
      obtain ⟨hP, hD⟩ := ty_shPD (w2 := ([(mu, .inl (ct 1, 42, .inr (.inl su))), (rf_RW ct 0 mw 958 f), (rf_MO mo mw ma mf m0 m1 mu mv u0 u1 iz th1_69 mb mn mpt mbg mwr mwk mlf men)] ++ ws_68)) hP hD rfl
      rcases hp_70 with ⟨rfl, hz_71⟩ | ⟨rfl, hz_72⟩
      · exact absurd hz_71.1 (by decide)
      · have he_73 := hz_72.2
        have hP : va_P D vwCl ([(mu, .inl (ct 1, 42, .inr (.inl su))), (rf_RW ct 0 mw 958 f), (rf_MO mo mw ma mf m0 m1 mu mv u0 u1 iz (2) mb mn mpt mbg mwr mwk mlf men)] ++ ws_68) H := by rw [he_73] at hP; exact hP
        have hD : va_D A ([(mu, .inl (ct 1, 42, .inr (.inl su))), (rf_RW ct 0 mw 958 f), (rf_MO mo mw ma mf m0 m1 mu mv u0 u1 iz (2) mb mn mpt mbg mwr mwk mlf men)] ++ ws_68) := by rw [he_73] at hD; exact hD
        refine lv_if_eq (tgt := 40) hx hb dX11_replace_35 (by decide) (fun hc => absurd hc (by decide)) (fun _ => ?_)
        refine lv_iconst (v := 0) hx hb dX11_replace_38 (by decide) ?_
        obtain ⟨hP, hD⟩ := ty_ordPD (E2 := [(rf_MO mo mw ma mf m0 m1 mu mv u0 u1 iz (2) mb mn mpt mbg mwr mwk mlf men), (rf_RW ct 0 mw 958 f), (mu, .inl (ct 1, 42, .inr (.inl su)))]) (n := 3) [2, 1, 0] hP hD rfl rfl (by decide +kernel)
        exact W.iret (v := 0) hx hb hr (fun t ht hW => ⟨⟨0, (ws_68, (2 : Int32), f, su), rfl, ⟨hT, ⟨⟨th1_4, trivial, (Or.inl ⟨hz_6, (Or.inr ⟨hc_15, ⟨th1_69, trivial, ⟨hz_72, ⟨rfl, rfl, rfl, rfl⟩⟩⟩⟩)⟩)⟩, ⟨(rf_dr f), hR⟩⟩⟩, by rw [ht]; exact hP, by rw [hAe]; exact hD⟩, hS.F ht⟩) hS.2.2 dX11_replace_39
  · have he_74 := hz_7.2
    have hP : va_P D vwCl ([(mu, .inl (ct 1, 42, .inr (.inl su))), (rf_MO mo mw ma mf m0 m1 mu mv u0 u1 iz (1) mb mn mpt mbg mwr mwk mlf men), (rf_RW ct 0 mw 958 f)] ++ ws_3) H := by rw [he_74] at hP; exact hP
    have hD : va_D A ([(mu, .inl (ct 1, 42, .inr (.inl su))), (rf_MO mo mw ma mf m0 m1 mu mv u0 u1 iz (1) mb mn mpt mbg mwr mwk mlf men), (rf_RW ct 0 mw 958 f)] ++ ws_3) := by rw [he_74] at hD; exact hD
    refine lv_if_ne (tgt := 38) hx hb dX11_replace_5 (by decide) (fun _ => ?_) (fun hc => absurd hc (by decide))
    refine lv_iconst (v := 0) hx hb dX11_replace_38 (by decide) ?_
    obtain ⟨hP, hD⟩ := ty_ordPD (E2 := [(rf_MO mo mw ma mf m0 m1 mu mv u0 u1 iz (1) mb mn mpt mbg mwr mwk mlf men), (rf_RW ct 0 mw 958 f), (mu, .inl (ct 1, 42, .inr (.inl su)))]) (n := 3) [1, 2, 0] hP hD rfl rfl (by decide +kernel)
    exact W.iret (v := 0) hx hb hr (fun t ht hW => ⟨⟨0, (ws_3, (1 : Int32), f, su), rfl, ⟨hT, ⟨⟨th1_4, trivial, (Or.inr ⟨hz_7, ⟨rfl, rfl, rfl, rfl⟩⟩)⟩, ⟨(rf_dr f), hR⟩⟩⟩, by rw [ht]; exact hP, by rw [hAe]; exact hD⟩, hS.F ht⟩) hS.2.2 dX11_replace_39
def q_X11_isSafe (f : Nat → Int32) (su : Nat → Int64) (p3 : Int32) (r : Int32) (men1 : Int32) (f1 : Nat → Int32) (fa1 : Nat → Int32) (su1 : Nat → Int64) (sv1 : Nat → Int64) : Prop := (∃ (fa1_4 : Nat → Int32) (sv1_5 : Nat → Int64), (q_eq 958 f fa1_4 ∧ q_cs su sv1_5) ∧ (∃ (y_7 : Int32) (y_8 : Int32) (f_9 : Nat → Int32) (g_10 : Nat → Int64), (y_7 = 0 ∨ y_7 = 1) ∧ ((p3 ≤ y_8 ∧ (∃ (f1_15 : Nat → Int32) (su1_16 : Nat → Int64), (q_eq 958 fa1_4 f1_15 ∧ q_cs sv1_5 su1_16) ∧ (r = y_7 ∧ men1 = 0 ∧ f1 = f1_15 ∧ fa1 = fa1_4 ∧ su1 = su1_16 ∧ sv1 = sv1_5))) ∨ (¬ p3 ≤ y_8 ∧ (y_7 = (0 : Int32) ∧ (∃ (f1_25 : Nat → Int32) (su1_26 : Nat → Int64), (q_eq 958 fa1_4 f1_25 ∧ q_cs sv1_5 su1_26) ∧ (r = y_7 ∧ men1 = 0 ∧ f1 = f1_25 ∧ fa1 = fa1_4 ∧ su1 = su1_26 ∧ sv1 = sv1_5)))))))
set_option maxRecDepth 100000 in
set_option maxHeartbeats 4000000 in
theorem m_X11_isSafe (l : Launch) (D : va_G) (ct : Nat → ClassId) (S : ty_S) (ws : va_W) (ph : va_W → Prop) (xx : Nat → Nat → Nat → Prop) (mo : Nat) (mw : Nat) (ma : Nat) (mf : Nat) (m0 : Nat) (m1 : Nat) (mu : Nat) (mv : Nat) (u0 : Nat) (u1 : Nat) (iz : Nat) (mb : Nat) (th : Int32) (mn : Int32) (mpt : Int32) (mbg : Int32) (mwr : Int32) (mwk : Int32) (mlf : Int32) (men : Int32) (f : Nat → Int32) (G : Nat → Int32) (fa : Nat → Int32) (su : Nat → Int64) (sv : Nat → Int64) (p1 : Int32) (p2 : Int32) (p3 : Int32) (sz : Nat) (hT : ty_V ct S ph ws) (hph : ty_C ph xx) (hy1 : ty_y1 xx) (hy11 : ty_y0 xx 11) (hR : rf_R G (-1) f) (hc : 0 ≤ p1.toInt ∧ p1.toInt < (G 9).toInt) (hi2 : 100 ≤ p2.toInt ∧ p2.toInt ≤ 5000) : Met l yX11_isSafe (ws_ yX11_isSafe cX11_isSafe 6 (some .boolean)) ({ frames := 3, cells := 0, slots := 0, locals := 76 } : Room) (va_Pc [.ref mo, .int p1, .int p2, .int p3] (cmP D ct sz ([(rf_MO mo mw ma mf m0 m1 mu mv u0 u1 iz th mb mn mpt mbg mwr mwk mlf men), (rf_RW ct 0 mw 958 f), (rf_RW ct 0 ma 958 fa), (mu, .inl (ct 1, 42, .inr (.inl su))), (mv, .inl (ct 1, 42, .inr (.inl sv)))] ++ ws))) (va_Qi (fun (r : Int32) (u : va_W × Int32 × (Nat → Int32) × (Nat → Int32) × (Nat → Int64) × (Nat → Int64)) => match u with | (u9, men1, f1, fa1, su1, sv1) => ty_V ct S ph u9 ∧ (q_X11_isSafe f su p3 r men1 f1 fa1 su1 sv1) ∧ rf_d (f 8) f f1 ∧ rf_R G (-1) f1) (cmB D ([(rf_MO mo mw ma mf m0 m1 mu mv u0 u1 iz th mb mn mpt mbg mwr mwk mlf men), (rf_RW ct 0 mw 958 f), (rf_RW ct 0 ma 958 fa), (mu, .inl (ct 1, 42, .inr (.inl su))), (mv, .inl (ct 1, 42, .inr (.inl sv)))] ++ ws) sz (fun (u : va_W × Int32 × (Nat → Int32) × (Nat → Int32) × (Nat → Int64) × (Nat → Int64)) => match u with | (u9, men1, f1, fa1, su1, sv1) => ([(rf_MO mo mw ma mf m0 m1 mu mv u0 u1 iz th mb mn mpt mbg mwr mwk mlf men1), (rf_RW ct 0 mw 958 f1), (rf_RW ct 0 ma 958 fa1), (mu, .inl (ct 1, 42, .inr (.inl su1))), (mv, .inl (ct 1, 42, .inr (.inl sv1)))] ++ u9))) (va_A ([(rf_MO mo mw ma mf m0 m1 mu mv u0 u1 iz th mb mn mpt mbg mwr mwk mlf men), (rf_RW ct 0 mw 958 f), (rf_RW ct 0 ma 958 fa), (mu, .inl (ct 1, 42, .inr (.inl su))), (mv, .inl (ct 1, 42, .inr (.inl sv)))] ++ ws) sz)) 0 0 (va_A ([(rf_MO mo mw ma mf m0 m1 mu mv u0 u1 iz th mb mn mpt mbg mwr mwk mlf men), (rf_RW ct 0 mw 958 f), (rf_RW ct 0 ma 958 fa), (mu, .inl (ct 1, 42, .inr (.inl su))), (mv, .inl (ct 1, 42, .inr (.inl sv)))] ++ ws) sz) := by
  refine Met.ofW (cc := cX11_isSafe) (maxL := 6) (ret := (some .boolean)) (by decide) rfl ?_
  intro p e s m args below meth c s₁ B hml hv
  obtain ⟨rfl, hsz, hP, hK, hD0, hX⟩ := hv
  have hx := B.exec
  have hb := B.bytes
  have hr := B.returns
  have hts := ws_all (atoms_spec (ws := ws_ yX11_isSafe cX11_isSafe 6 (some .boolean)) B.pre)
  have hown : s.vm.findClass RX11 = some m.cls := findClass_of_methodNamed B.named
  have hlocks := B.notSynchronized
  subst hsz
  have hD := hD0.self (sz := s.heap.size)
  generalize hAe : va_A ([(rf_MO mo mw ma mf m0 m1 mu mv u0 u1 iz th mb mn mpt mbg mwr mwk mlf men), (rf_RW ct 0 mw 958 f), (rf_RW ct 0 ma 958 fa), (mu, .inl (ct 1, 42, .inr (.inl su))), (mv, .inl (ct 1, 42, .inr (.inl sv)))] ++ ws) s.heap.size = A at hD hX ⊢
  have hA : ∀ q : Nat, s.heap.size ≤ q → A q := fun q h => by rw [← hAe]; exact Or.inr h
  have hS : va_S A s.heap s.heap [] := va_S.rf
  have hl := lv_entry ([.ref mo, .int p1, .int p2, .int p3]) (n := 6) (Nat.le_of_ble_eq_true rfl)
  rw [lg_entry_eq]
  generalize (lg_sl ([.ref mo, .int p1, .int p2, .int p3]) ++ List.replicate (6 - (lg_sl ([.ref mo, .int p1, .int p2, .int p3])).length) Slot.unset).toArray = ls at hl ⊢
  have hl : lv_has ls 6 [(0, .ref mo), (1, .int p1), (2, .int p2), (3, .int p3)] := hl
  refine lv_aload_n hx hb dX11_isSafe_0 rfl (lv_at hl 0 rfl) ?_
  obtain ⟨hP, hD⟩ := ty_ipPD (E1 := []) (E2 := [(rf_MO mo mw ma mf m0 m1 mu mv u0 u1 iz th mb mn mpt mbg mwr mwk mlf men), (rf_RW ct 0 mw 958 f), (rf_RW ct 0 ma 958 fa), (mu, .inl (ct 1, 42, .inr (.inl su))), (mv, .inl (ct 1, 42, .inr (.inl sv)))]) hP hD rfl ty_mva
  refine ty_Kv hP hD hS hA (va_runV (As := []) (rest := []) ⟨hx, hb, hml, hown, hts⟩ (m_X11_goesAside l D ct S ws ph xx mo mw ma mf m0 m1 mu mv u0 u1 iz mb th mn mpt mbg mwr mwk mlf men f G fa su sv _ hT hph hy1 hy11 hR) (cm_V 0 hts kc_X11_goesAside ki_RX11 kl_RX11_379 kv_X11_goesAside kx_X11_goesAside kd_X11_goesAside ⟨Nat.le_of_ble_eq_true rfl, Nat.le_of_ble_eq_true rfl⟩) (ty_preE (ci := 11) (q0 := 0) hP hK hD hS hA hX rfl rfl) rfl rfl hl.1 rfl (lv_room (Nat.le_of_ble_eq_true rfl)) dX11_isSafe_1 ⟨Nat.le_of_ble_eq_true rfl, Nat.le_of_ble_eq_true rfl⟩) (fun u H locs hw_2 hP hD hS => ?_)
  obtain ⟨ws_3, fa1_4, sv1_5⟩ := u
  obtain ⟨hT, hp_6⟩ := hw_2
  have hp_6 : (rf_R G (-1) fa1_4 ∧ rf_d (f 8) f fa1_4) ∧ q_eq 958 f fa1_4 ∧ q_cs su sv1_5 := hp_6
  obtain ⟨hP, hD⟩ := ty_shPD (w2 := ([(rf_MO mo mw ma mf m0 m1 mu mv u0 u1 iz th mb mn mpt mbg mwr mwk mlf (0)), (rf_RW ct 0 mw 958 f), (rf_RW ct 0 ma 958 fa1_4), (mu, .inl (ct 1, 42, .inr (.inl su))), (mv, .inl (ct 1, 42, .inr (.inl sv1_5)))] ++ ws_3)) hP hD rfl
  refine lv_iconst (v := 1) hx hb dX11_isSafe_4 (by decide) ?_
  refine lv_istore (lv' := [(4, .int 1), (0, .ref mo), (1, .int p1), (2, .int p2), (3, .int p3)]) hx hb dX11_isSafe_5 hl (by decide) rfl (fun ls hl => ?_)
  refine lv_iconst (v := 0) hx hb dX11_isSafe_7 (by decide) ?_
  refine lv_istore (lv' := [(5, .int 0), (4, .int 1), (0, .ref mo), (1, .int p1), (2, .int p2), (3, .int p3)]) hx hb dX11_isSafe_8 hl (by decide) rfl (fun ls hl => ?_)
  refine ty_loop (I := fun μ H locs ls => ∃ (ws : va_W) (y_7 : Int32) (y_8 : Int32) (f_9 : Nat → Int32) (g_10 : Nat → Int64), μ = (2147483648 - y_8.toInt).toNat ∧ ty_V ct S ph ws ∧ va_P D vwCl ([(rf_MO mo mw ma mf m0 m1 mu mv u0 u1 iz th mb mn mpt mbg mwr mwk mlf (0)), (rf_RW ct 0 mw 958 f_9), (rf_RW ct 0 ma 958 fa1_4), (mu, .inl (ct 1, 42, .inr (.inl g_10))), (mv, .inl (ct 1, 42, .inr (.inl sv1_5)))] ++ ws) H ∧ va_D A ([(rf_MO mo mw ma mf m0 m1 mu mv u0 u1 iz th mb mn mpt mbg mwr mwk mlf (0)), (rf_RW ct 0 mw 958 f_9), (rf_RW ct 0 ma 958 fa1_4), (mu, .inl (ct 1, 42, .inr (.inl g_10))), (mv, .inl (ct 1, 42, .inr (.inl sv1_5)))] ++ ws) ∧ va_S A s.heap H locs ∧ lv_has ls 6 [(0, .ref mo), (1, .int p1), (2, .int p2), (3, .int p3), (4, .int y_7), (5, .int y_8)] ∧ rf_R G (-1) f_9 ∧ rf_d (f 8) f f_9 ∧ (y_7 = 0 ∨ y_7 = 1)) ⟨_, ws_3, (1 : Int32), (0 : Int32), f, su, rfl, hT, hP, hD, hS, (lv_sub hl [2, 3, 4, 5, 1, 0] rfl), hR, (rf_dr f), Or.inr rfl⟩ (fun μ H locs ls hI ih_10 => ?_)
  obtain ⟨ws, y_7, y_8, f_9, g_10, rfl, hT, hP, hD, hS, hl, hR_10, hD_10, hex_10⟩ := hI
  refine lv_iload hx hb dX11_isSafe_10 (lv_at hl 5 rfl) ?_
  refine lv_iload_n hx hb dX11_isSafe_12 rfl (lv_at hl 3 rfl) ?_
  refine lv_icmp_ge (tgt := 72) hx hb dX11_isSafe_13 (by decide) (fun hc_11 => ?_) (fun hc_11 => ?_)
  · refine lv_aload_n hx hb dX11_isSafe_72 rfl (lv_at hl 0 rfl) ?_
    obtain ⟨hP, hD⟩ := ty_ipPD (E1 := []) (E2 := [(rf_MO mo mw ma mf m0 m1 mu mv u0 u1 iz th mb mn mpt mbg mwr mwk mlf (0)), (rf_RW ct 0 mw 958 f_9), (rf_RW ct 0 ma 958 fa1_4), (mu, .inl (ct 1, 42, .inr (.inl g_10))), (mv, .inl (ct 1, 42, .inr (.inl sv1_5)))]) hP hD rfl ty_mva
    refine ty_Kv hP hD hS hA (va_runV (As := []) (rest := []) ⟨hx, hb, hml, hown, hts⟩ (m_X11_comesBack l D ct S ws ph xx mo mw ma mf m0 m1 mu mv u0 u1 iz mb th mn mpt mbg mwr mwk mlf (0 : Int32) f_9 G fa1_4 g_10 sv1_5 _ hT hph hy1 hy11 hp_6.1.1) (cm_V 0 hts kc_X11_comesBack ki_RX11 kl_RX11_385 kv_X11_comesBack kx_X11_comesBack kd_X11_comesBack ⟨Nat.le_of_ble_eq_true rfl, Nat.le_of_ble_eq_true rfl⟩) (ty_preE (ci := 11) (q0 := 0) hP hK hD hS hA hX rfl rfl) rfl rfl hl.1 rfl (lv_room (Nat.le_of_ble_eq_true rfl)) dX11_isSafe_73 ⟨Nat.le_of_ble_eq_true rfl, Nat.le_of_ble_eq_true rfl⟩) (fun u H locs hw_13 hP hD hS => ?_)
    obtain ⟨ws_14, f1_15, su1_16⟩ := u
    obtain ⟨hT, hp_17⟩ := hw_13
    have hp_17 : rf_R G (-1) f1_15 ∧ (rf_d (fa1_4 8) fa1_4 f1_15 ∧ q_eq 958 fa1_4 f1_15 ∧ q_cs sv1_5 su1_16) := hp_17
    have hR_18 := hp_17.1
    obtain ⟨hP, hD⟩ := ty_shPD (w2 := ([(rf_MO mo mw ma mf m0 m1 mu mv u0 u1 iz th mb mn mpt mbg mwr mwk mlf (0)), (rf_RW ct 0 mw 958 f1_15), (rf_RW ct 0 ma 958 fa1_4), (mu, .inl (ct 1, 42, .inr (.inl su1_16))), (mv, .inl (ct 1, 42, .inr (.inl sv1_5)))] ++ ws_14)) hP hD rfl
    have hD_20 := rf_dg (rf_dr f) hp_6.1.2 hp_17.2.1
    refine lv_iload hx hb dX11_isSafe_76 (lv_at hl 4 rfl) ?_
    exact W.zret (v := y_7) hx hb hr (rf_z01 hex_10) (fun t ht hW => ⟨⟨y_7, (ws_14, (0 : Int32), f1_15, fa1_4, su1_16, sv1_5), rfl, ⟨hT, ⟨⟨fa1_4, sv1_5, hp_6.2, ⟨y_7, y_8, f_9, g_10, hex_10, (Or.inl ⟨hc_11, ⟨f1_15, su1_16, hp_17.2.2, ⟨rfl, rfl, rfl, rfl, rfl, rfl⟩⟩⟩)⟩⟩, ⟨hD_20, hR_18⟩⟩⟩, by rw [ht]; exact hP, by rw [hAe]; exact hD⟩, hS.F ht⟩) hS.2.2 dX11_isSafe_78
  · refine lv_iload hx hb dX11_isSafe_16 (lv_at hl 4 rfl) ?_
    refine lv_if_eq (tgt := 72) hx hb dX11_isSafe_18 (by decide) (fun hc_21 => ?_) (fun hc_21 => ?_)
    · refine lv_aload_n hx hb dX11_isSafe_72 rfl (lv_at hl 0 rfl) ?_
      obtain ⟨hP, hD⟩ := ty_ipPD (E1 := []) (E2 := [(rf_MO mo mw ma mf m0 m1 mu mv u0 u1 iz th mb mn mpt mbg mwr mwk mlf (0)), (rf_RW ct 0 mw 958 f_9), (rf_RW ct 0 ma 958 fa1_4), (mu, .inl (ct 1, 42, .inr (.inl g_10))), (mv, .inl (ct 1, 42, .inr (.inl sv1_5)))]) hP hD rfl ty_mva
      refine ty_Kv hP hD hS hA (va_runV (As := []) (rest := []) ⟨hx, hb, hml, hown, hts⟩ (m_X11_comesBack l D ct S ws ph xx mo mw ma mf m0 m1 mu mv u0 u1 iz mb th mn mpt mbg mwr mwk mlf (0 : Int32) f_9 G fa1_4 g_10 sv1_5 _ hT hph hy1 hy11 hp_6.1.1) (cm_V 0 hts kc_X11_comesBack ki_RX11 kl_RX11_385 kv_X11_comesBack kx_X11_comesBack kd_X11_comesBack ⟨Nat.le_of_ble_eq_true rfl, Nat.le_of_ble_eq_true rfl⟩) (ty_preE (ci := 11) (q0 := 0) hP hK hD hS hA hX rfl rfl) rfl rfl hl.1 rfl (lv_room (Nat.le_of_ble_eq_true rfl)) dX11_isSafe_73 ⟨Nat.le_of_ble_eq_true rfl, Nat.le_of_ble_eq_true rfl⟩) (fun u H locs hw_23 hP hD hS => ?_)
      obtain ⟨ws_24, f1_25, su1_26⟩ := u
      obtain ⟨hT, hp_27⟩ := hw_23
      have hp_27 : rf_R G (-1) f1_25 ∧ (rf_d (fa1_4 8) fa1_4 f1_25 ∧ q_eq 958 fa1_4 f1_25 ∧ q_cs sv1_5 su1_26) := hp_27
      have hR_28 := hp_27.1
      obtain ⟨hP, hD⟩ := ty_shPD (w2 := ([(rf_MO mo mw ma mf m0 m1 mu mv u0 u1 iz th mb mn mpt mbg mwr mwk mlf (0)), (rf_RW ct 0 mw 958 f1_25), (rf_RW ct 0 ma 958 fa1_4), (mu, .inl (ct 1, 42, .inr (.inl su1_26))), (mv, .inl (ct 1, 42, .inr (.inl sv1_5)))] ++ ws_24)) hP hD rfl
      have hD_30 := rf_dg (rf_dr f) hp_6.1.2 hp_27.2.1
      refine lv_iload hx hb dX11_isSafe_76 (lv_at hl 4 rfl) ?_
      exact W.zret (v := y_7) hx hb hr (rf_z01 hex_10) (fun t ht hW => ⟨⟨y_7, (ws_24, (0 : Int32), f1_25, fa1_4, su1_26, sv1_5), rfl, ⟨hT, ⟨⟨fa1_4, sv1_5, hp_6.2, ⟨y_7, y_8, f_9, g_10, hex_10, (Or.inr ⟨hc_11, ⟨hc_21, ⟨f1_25, su1_26, hp_27.2.2, ⟨rfl, rfl, rfl, rfl, rfl, rfl⟩⟩⟩⟩)⟩⟩, ⟨hD_30, hR_28⟩⟩⟩, by rw [ht]; exact hP, by rw [hAe]; exact hD⟩, hS.F ht⟩) hS.2.2 dX11_isSafe_78
    · refine lv_aload_n hx hb dX11_isSafe_21 rfl (lv_at hl 0 rfl) ?_
      refine lv_iload_n hx hb dX11_isSafe_22 rfl (lv_at hl 1 rfl) ?_
      refine lv_iload_n hx hb dX11_isSafe_23 rfl (lv_at hl 2 rfl) ?_
      obtain ⟨hP, hD⟩ := ty_opPD (E1 := [(rf_RW ct 0 ma 958 fa1_4), (mv, .inl (ct 1, 42, .inr (.inl sv1_5)))]) (E2 := [(rf_MO mo mw ma mf m0 m1 mu mv u0 u1 iz th mb mn mpt mbg mwr mwk mlf (0)), (rf_RW ct 0 mw 958 f_9), (mu, .inl (ct 1, 42, .inr (.inl g_10)))]) (n := 5) [2, 4, 0, 1, 3] hP hD rfl rfl (by decide +kernel) ty_mva
      refine ty_Kv hP hD hS hA (va_runV (As := [.int p1, .int p2]) (rest := []) ⟨hx, hb, hml, hown, hts⟩ (m_X11_flows l D ct S ws ph xx mo mw ma mf m0 m1 mu mv u0 u1 iz mb th mn mpt mbg mwr mwk mlf (0 : Int32) f_9 G (-1) g_10 p1 p2 _ hT hph hy1 hy11 hR_10 hc (by have := rf_qp hR_10 hc; omega)) (cm_V 2 hts kc_X11_flows ki_RX11 kl_RX11_311 kv_X11_flows kx_X11_flows kd_X11_flows ⟨Nat.le_of_ble_eq_true rfl, Nat.le_of_ble_eq_true rfl⟩) (ty_preE (ci := 11) (q0 := 2) hP hK hD hS hA hX rfl rfl) rfl rfl hl.1 rfl (lv_room (Nat.le_of_ble_eq_true rfl)) dX11_isSafe_24 ⟨Nat.le_of_ble_eq_true rfl, Nat.le_of_ble_eq_true rfl⟩) (fun u H locs hw_32 hP hD hS => ?_)
      obtain ⟨ws_33, f1_34, su1_35⟩ := u
      obtain ⟨hT, hp_36⟩ := hw_32
      have hp_36 : (q_X11_flows f_9 g_10 p1 p2 f1_34 su1_35) ∧ rf_d (f_9 8) f_9 f1_34 ∧ rf_R G (-1) f1_34 ∧ rf_sm f_9 f1_34 := hp_36
      obtain ⟨hq_37, hp_38⟩ := hp_36
      obtain ⟨hd_39, hq_40⟩ := hp_38
      have hD_41 := rf_dt hD_10 hd_39
      have hR_42 := hq_40.1
      obtain ⟨hP, hD⟩ := ty_shPD (w2 := ([(rf_RW ct 0 ma 958 fa1_4), (mv, .inl (ct 1, 42, .inr (.inl sv1_5))), (rf_MO mo mw ma mf m0 m1 mu mv u0 u1 iz th mb mn mpt mbg mwr mwk mlf (0)), (rf_RW ct 0 mw 958 f1_34), (mu, .inl (ct 1, 42, .inr (.inl su1_35)))] ++ ws_33)) hP hD rfl
      refine lv_aload_n hx hb dX11_isSafe_27 rfl (lv_at hl 0 rfl) ?_
      refine lv_iload_n hx hb dX11_isSafe_28 rfl (lv_at hl 1 rfl) ?_
      refine lv_iconst (v := 5) hx hb dX11_isSafe_29 (by decide) ?_
      obtain ⟨hP, hD⟩ := ty_opPD (E1 := [(rf_RW ct 0 ma 958 fa1_4), (mv, .inl (ct 1, 42, .inr (.inl sv1_5))), (mu, .inl (ct 1, 42, .inr (.inl su1_35)))]) (E2 := [(rf_MO mo mw ma mf m0 m1 mu mv u0 u1 iz th mb mn mpt mbg mwr mwk mlf (0)), (rf_RW ct 0 mw 958 f1_34)]) (n := 5) [0, 1, 4, 2, 3] hP hD rfl rfl (by decide +kernel) ty_mva
      refine ty_Ki hP hD hS hA (va_runV (As := [.int p1, .int 5]) (rest := []) ⟨hx, hb, hml, hown, hts⟩ (m_of_5 l D ct S ws_33 ph xx mo mw ma mf m0 m1 mu mv u0 u1 iz mb th mn mpt mbg mwr mwk mlf (0 : Int32) f1_34 G (-1) p1 _ hT hph hy1 hR_42 hc) (cm_V 2 hts kc_X11_of ki_RX11 kl_RX11_209 kv_X11_of kx_X11_of kd_X11_of ⟨Nat.le_of_ble_eq_true rfl, Nat.le_of_ble_eq_true rfl⟩) (ty_preE (ci := 11) (q0 := 3) hP hK hD hS hA hX rfl rfl) rfl rfl hl.1 rfl (lv_room (Nat.le_of_ble_eq_true rfl)) dX11_isSafe_30 ⟨Nat.le_of_ble_eq_true rfl, Nat.le_of_ble_eq_true rfl⟩) (fun r_44 u H locs hw_45 hP hD hS => ?_)
      obtain ⟨ws_46, rfl⟩ : ∃ z, z = u := ⟨_, rfl⟩
      obtain ⟨hT, rfl⟩ := hw_45
      obtain ⟨hP, hD⟩ := ty_shPD (w2 := ([(rf_RW ct 0 ma 958 fa1_4), (mv, .inl (ct 1, 42, .inr (.inl sv1_5))), (mu, .inl (ct 1, 42, .inr (.inl su1_35))), (rf_MO mo mw ma mf m0 m1 mu mv u0 u1 iz th mb mn mpt mbg mwr mwk mlf (0)), (rf_RW ct 0 mw 958 f1_34)] ++ ws_46)) hP hD rfl
      refine lv_aload_n hx hb dX11_isSafe_33 rfl (lv_at hl 0 rfl) ?_
      refine va_get (v := .ref mw) (D := D) (ci := 11) (C := RX11) (T := TX11) (N := 19) hx hb hts in_X11 hown hK hP 3 rfl rfl 0 (by decide) (hts _ kl_RX11_9) (fun _ h9 => h9) rfl dX11_isSafe_34 ?_
      refine lv_iconst (v := 5) hx hb dX11_isSafe_37 (by decide) ?_
      refine va_iald hx hb hK hP 4 0 rfl rfl (cm_vin (by decide)) dX11_isSafe_38 ?_
      refine cm_cst (y := (f1_34 5)) (by first | rfl | decide +kernel) ?_
      refine lv_icmp_gt (tgt := 63) hx hb dX11_isSafe_39 (by decide) (fun hc_47 => ?_) (fun hc_47 => ?_)
      · refine lv_iconst (v := 0) hx hb dX11_isSafe_63 (by decide) ?_
        refine lv_istore (lv' := [(4, .int 0), (0, .ref mo), (1, .int p1), (2, .int p2), (3, .int p3), (5, .int y_8)]) hx hb dX11_isSafe_64 hl (by decide) rfl (fun ls hl => ?_)
        refine lv_iinc (v := (y_8 + Int32.ofInt 1)) (lv' := [(5, .int (y_8 + Int32.ofInt 1)), (4, .int 0), (0, .ref mo), (1, .int p1), (2, .int p2), (3, .int p3)]) hx hb dX11_isSafe_66 hl (k := 5) rfl rfl (by decide) rfl (fun ls hl => ?_)
        refine lv_goto (tgt := 10) hx hb dX11_isSafe_69 (by decide) ?_
        obtain ⟨hP, hD⟩ := ty_ordPD (E2 := [(rf_MO mo mw ma mf m0 m1 mu mv u0 u1 iz th mb mn mpt mbg mwr mwk mlf (0)), (rf_RW ct 0 mw 958 f1_34), (rf_RW ct 0 ma 958 fa1_4), (mu, .inl (ct 1, 42, .inr (.inl su1_35))), (mv, .inl (ct 1, 42, .inr (.inl sv1_5)))]) (n := 5) [3, 4, 0, 2, 1] hP hD rfl rfl (by decide +kernel)
        exact ih_10 _ _ _ _ (ty_inc (cm_lt hc_11)) ⟨ws_46, (0 : Int32), (y_8 + Int32.ofInt 1), f1_34, su1_35, rfl, hT, hP, hD, hS, (lv_sub hl [2, 3, 4, 5, 1, 0] rfl), hR_42, hD_41, Or.inl rfl⟩
      · refine lv_aload_n hx hb dX11_isSafe_42 rfl (lv_at hl 0 rfl) ?_
        refine lv_iload_n hx hb dX11_isSafe_43 rfl (lv_at hl 1 rfl) ?_
        refine lv_bipush (v := 9) hx hb dX11_isSafe_44 (by decide) ?_
        obtain ⟨hP, hD⟩ := ty_ipPD (E1 := [(rf_RW ct 0 ma 958 fa1_4), (mv, .inl (ct 1, 42, .inr (.inl sv1_5))), (mu, .inl (ct 1, 42, .inr (.inl su1_35)))]) (E2 := [(rf_MO mo mw ma mf m0 m1 mu mv u0 u1 iz th mb mn mpt mbg mwr mwk mlf (0)), (rf_RW ct 0 mw 958 f1_34)]) hP hD rfl ty_mva
        refine ty_Ki hP hD hS hA (va_runV (As := [.int p1, .int 9]) (rest := []) ⟨hx, hb, hml, hown, hts⟩ (m_of_9 l D ct S ws_46 ph xx mo mw ma mf m0 m1 mu mv u0 u1 iz mb th mn mpt mbg mwr mwk mlf (0 : Int32) f1_34 G (-1) p1 _ hT hph hy1 hR_42 hc) (cm_V 2 hts kc_X11_of ki_RX11 kl_RX11_209 kv_X11_of kx_X11_of kd_X11_of ⟨Nat.le_of_ble_eq_true rfl, Nat.le_of_ble_eq_true rfl⟩) (ty_preE (ci := 11) (q0 := 3) hP hK hD hS hA hX rfl rfl) rfl rfl hl.1 rfl (lv_room (Nat.le_of_ble_eq_true rfl)) dX11_isSafe_46 ⟨Nat.le_of_ble_eq_true rfl, Nat.le_of_ble_eq_true rfl⟩) (fun r_48 u H locs hw_49 hP hD hS => ?_)
        obtain ⟨ws_50, rfl⟩ : ∃ z, z = u := ⟨_, rfl⟩
        obtain ⟨hT, rfl⟩ := hw_49
        obtain ⟨hP, hD⟩ := ty_shPD (w2 := ([(rf_RW ct 0 ma 958 fa1_4), (mv, .inl (ct 1, 42, .inr (.inl sv1_5))), (mu, .inl (ct 1, 42, .inr (.inl su1_35))), (rf_MO mo mw ma mf m0 m1 mu mv u0 u1 iz th mb mn mpt mbg mwr mwk mlf (0)), (rf_RW ct 0 mw 958 f1_34)] ++ ws_50)) hP hD rfl
        refine lv_aload_n hx hb dX11_isSafe_49 rfl (lv_at hl 0 rfl) ?_
        refine va_get (v := .ref mw) (D := D) (ci := 11) (C := RX11) (T := TX11) (N := 19) hx hb hts in_X11 hown hK hP 3 rfl rfl 0 (by decide) (hts _ kl_RX11_9) (fun _ h9 => h9) rfl dX11_isSafe_50 ?_
        refine lv_bipush (v := 6) hx hb dX11_isSafe_53 (by decide) ?_
        refine va_iald hx hb hK hP 4 0 rfl rfl (cm_vin (by decide)) dX11_isSafe_55 ?_
        refine cm_cst (y := (f1_34 6)) (by first | rfl | decide +kernel) ?_
        refine lv_icmp_gt (tgt := 63) hx hb dX11_isSafe_56 (by decide) (fun hc_51 => ?_) (fun hc_51 => ?_)
        · refine lv_iconst (v := 0) hx hb dX11_isSafe_63 (by decide) ?_
          refine lv_istore (lv' := [(4, .int 0), (0, .ref mo), (1, .int p1), (2, .int p2), (3, .int p3), (5, .int y_8)]) hx hb dX11_isSafe_64 hl (by decide) rfl (fun ls hl => ?_)
          refine lv_iinc (v := (y_8 + Int32.ofInt 1)) (lv' := [(5, .int (y_8 + Int32.ofInt 1)), (4, .int 0), (0, .ref mo), (1, .int p1), (2, .int p2), (3, .int p3)]) hx hb dX11_isSafe_66 hl (k := 5) rfl rfl (by decide) rfl (fun ls hl => ?_)
          refine lv_goto (tgt := 10) hx hb dX11_isSafe_69 (by decide) ?_
          obtain ⟨hP, hD⟩ := ty_ordPD (E2 := [(rf_MO mo mw ma mf m0 m1 mu mv u0 u1 iz th mb mn mpt mbg mwr mwk mlf (0)), (rf_RW ct 0 mw 958 f1_34), (rf_RW ct 0 ma 958 fa1_4), (mu, .inl (ct 1, 42, .inr (.inl su1_35))), (mv, .inl (ct 1, 42, .inr (.inl sv1_5)))]) (n := 5) [3, 4, 0, 2, 1] hP hD rfl rfl (by decide +kernel)
          exact ih_10 _ _ _ _ (ty_inc (cm_lt hc_11)) ⟨ws_50, (0 : Int32), (y_8 + Int32.ofInt 1), f1_34, su1_35, rfl, hT, hP, hD, hS, (lv_sub hl [2, 3, 4, 5, 1, 0] rfl), hR_42, hD_41, Or.inl rfl⟩
        · refine lv_iconst (v := 1) hx hb dX11_isSafe_59 (by decide) ?_
          refine lv_goto (tgt := 64) hx hb dX11_isSafe_60 (by decide) ?_
          refine lv_istore (lv' := [(4, .int 1), (0, .ref mo), (1, .int p1), (2, .int p2), (3, .int p3), (5, .int y_8)]) hx hb dX11_isSafe_64 hl (by decide) rfl (fun ls hl => ?_)
          refine lv_iinc (v := (y_8 + Int32.ofInt 1)) (lv' := [(5, .int (y_8 + Int32.ofInt 1)), (4, .int 1), (0, .ref mo), (1, .int p1), (2, .int p2), (3, .int p3)]) hx hb dX11_isSafe_66 hl (k := 5) rfl rfl (by decide) rfl (fun ls hl => ?_)
          refine lv_goto (tgt := 10) hx hb dX11_isSafe_69 (by decide) ?_
          obtain ⟨hP, hD⟩ := ty_ordPD (E2 := [(rf_MO mo mw ma mf m0 m1 mu mv u0 u1 iz th mb mn mpt mbg mwr mwk mlf (0)), (rf_RW ct 0 mw 958 f1_34), (rf_RW ct 0 ma 958 fa1_4), (mu, .inl (ct 1, 42, .inr (.inl su1_35))), (mv, .inl (ct 1, 42, .inr (.inl sv1_5)))]) (n := 5) [3, 4, 0, 2, 1] hP hD rfl rfl (by decide +kernel)
          exact ih_10 _ _ _ _ (ty_inc (cm_lt hc_11)) ⟨ws_50, (1 : Int32), (y_8 + Int32.ofInt 1), f1_34, su1_35, rfl, hT, hP, hD, hS, (lv_sub hl [2, 3, 4, 5, 1, 0] rfl), hR_42, hD_41, Or.inr rfl⟩
theorem q_ise {f f2 f1 fa : Nat → Int32} {su s2 s1 sv : Nat → Int64} {p r m : Int32} (I : q_eq 958 f f2 ∧ q_cs su s2) (q : q_X11_isSafe f2 s2 p r m f1 fa s1 sv) : q_eq 958 f f1 ∧ q_cs su s1 := by
  obtain ⟨a, b, ⟨e1, e2⟩, _, _, _, _, _, h⟩ := q
  rcases h with ⟨_, c, d, ⟨e3, e4⟩, _, _, e5, _, e6, _⟩ | ⟨_, _, c, d, ⟨e3, e4⟩, _, _, e5, _, e6, _⟩
  · rw [e5, e6]
    exact ⟨fun j hj => (e3 j hj).trans ((e1 j hj).trans (I.1 j hj)), fun j hj => (e4 j hj).trans ((e2 j hj).trans (I.2 j hj))⟩
  · rw [e5, e6]
    exact ⟨fun j hj => (e3 j hj).trans ((e1 j hj).trans (I.1 j hj)), fun j hj => (e4 j hj).trans ((e2 j hj).trans (I.2 j hj))⟩
def q_X11_safeCurrent (men : Int32) (f : Nat → Int32) (G : Nat → Int32) (fa : Nat → Int32) (su : Nat → Int64) (sv : Nat → Int64) (p1 : Int32) (p2 : Int32) (r : Int32) (men1 : Int32) (th1 : Int32) (f1 : Nat → Int32) (fa1 : Nat → Int32) (su1 : Nat → Int64) (sv1 : Nat → Int64) : Prop := (∃ (th1_4 : Int32), True ∧ ((((0 ≤ p1.toInt ∧ p1.toInt < (G 9).toInt) ∧ th1_4 = 0) ∧ ((¬ (cm_rng p2.toInt64 1 1000) = (0 : Int32) ∧ (∃ (th1_16 : Int32), True ∧ (((0 : Int32) = 0 ∧ th1_16 = 0) ∧ (∃ (y_21 : Int32) (y_22 : Int32) (f_23 : Nat → Int32) (g_24 : Nat → Int32) (g_25 : Nat → Int64) (g_26 : Nat → Int64), (y_21.toInt ≤ 5000 ∧ q_eq 958 f f_23 ∧ q_cs su g_26) ∧ ((y_21 < (100 : Int32) ∧ (r = (-1) ∧ men1 = y_22 ∧ th1 = 0 ∧ f1 = f_23 ∧ fa1 = g_24 ∧ su1 = g_26 ∧ sv1 = g_25)) ∨ (¬ y_21 < (100 : Int32) ∧ (∃ (r_28 : Int32) (men1_31 : Int32) (f1_32 : Nat → Int32) (fa1_33 : Nat → Int32) (su1_34 : Nat → Int64) (sv1_35 : Nat → Int64), (q_X11_isSafe f_23 g_26 p2 r_28 men1_31 f1_32 fa1_33 su1_34 sv1_35) ∧ (¬ r_28 = (0 : Int32) ∧ (r = y_21 ∧ men1 = men1_31 ∧ th1 = 0 ∧ f1 = f1_32 ∧ fa1 = fa1_33 ∧ su1 = su1_34 ∧ sv1 = sv1_35))))))))) ∨ ((cm_rng p2.toInt64 1 1000) = (0 : Int32) ∧ (∃ (th1_48 : Int32), True ∧ ((¬ (1 : Int32) = 0 ∧ th1_48 = (2 : Int32)) ∧ (r = 0 ∧ men1 = men ∧ th1 = 2 ∧ f1 = f ∧ fa1 = fa ∧ su1 = su ∧ sv1 = sv)))))) ∨ ((¬ (0 ≤ p1.toInt ∧ p1.toInt < (G 9).toInt) ∧ th1_4 = 1) ∧ (r = 0 ∧ men1 = men ∧ th1 = 1 ∧ f1 = f ∧ fa1 = fa ∧ su1 = su ∧ sv1 = sv))))
set_option maxRecDepth 100000 in
set_option maxHeartbeats 4000000 in
theorem m_X11_safeCurrent (l : Launch) (D : va_G) (ct : Nat → ClassId) (S : ty_S) (ws : va_W) (ph : va_W → Prop) (xx : Nat → Nat → Nat → Prop) (mo : Nat) (mw : Nat) (ma : Nat) (mf : Nat) (m0 : Nat) (m1 : Nat) (mu : Nat) (mv : Nat) (u0 : Nat) (u1 : Nat) (iz : Nat) (mb : Nat) (th : Int32) (mn : Int32) (mpt : Int32) (mbg : Int32) (mwr : Int32) (mwk : Int32) (mlf : Int32) (men : Int32) (f : Nat → Int32) (G : Nat → Int32) (fa : Nat → Int32) (su : Nat → Int64) (sv : Nat → Int64) (p1 : Int32) (p2 : Int32) (sz : Nat) (hT : ty_V ct S ph ws) (hph : ty_C ph xx) (hy1 : ty_y1 xx) (hy11 : ty_y0 xx 11) (hR : rf_R G (-1) f) : Met l yX11_safeCurrent (ws_ yX11_safeCurrent cX11_safeCurrent 4 (some .int)) ({ frames := 4, cells := 0, slots := 0, locals := 101 } : Room) (va_Pc [.ref mo, .int p1, .int p2] (cmP D ct sz ([(rf_MO mo mw ma mf m0 m1 mu mv u0 u1 iz th mb mn mpt mbg mwr mwk mlf men), (rf_RW ct 0 mw 958 f), (rf_RW ct 0 ma 958 fa), (mu, .inl (ct 1, 42, .inr (.inl su))), (mv, .inl (ct 1, 42, .inr (.inl sv)))] ++ ws))) (va_Qi (fun (r : Int32) (u : va_W × Int32 × Int32 × (Nat → Int32) × (Nat → Int32) × (Nat → Int64) × (Nat → Int64)) => match u with | (u9, men1, th1, f1, fa1, su1, sv1) => ty_V ct S ph u9 ∧ (q_X11_safeCurrent men f G fa su sv p1 p2 r men1 th1 f1 fa1 su1 sv1) ∧ rf_d (f 8) f f1 ∧ rf_R G (-1) f1) (cmB D ([(rf_MO mo mw ma mf m0 m1 mu mv u0 u1 iz th mb mn mpt mbg mwr mwk mlf men), (rf_RW ct 0 mw 958 f), (rf_RW ct 0 ma 958 fa), (mu, .inl (ct 1, 42, .inr (.inl su))), (mv, .inl (ct 1, 42, .inr (.inl sv)))] ++ ws) sz (fun (u : va_W × Int32 × Int32 × (Nat → Int32) × (Nat → Int32) × (Nat → Int64) × (Nat → Int64)) => match u with | (u9, men1, th1, f1, fa1, su1, sv1) => ([(rf_MO mo mw ma mf m0 m1 mu mv u0 u1 iz th1 mb mn mpt mbg mwr mwk mlf men1), (rf_RW ct 0 mw 958 f1), (rf_RW ct 0 ma 958 fa1), (mu, .inl (ct 1, 42, .inr (.inl su1))), (mv, .inl (ct 1, 42, .inr (.inl sv1)))] ++ u9))) (va_A ([(rf_MO mo mw ma mf m0 m1 mu mv u0 u1 iz th mb mn mpt mbg mwr mwk mlf men), (rf_RW ct 0 mw 958 f), (rf_RW ct 0 ma 958 fa), (mu, .inl (ct 1, 42, .inr (.inl su))), (mv, .inl (ct 1, 42, .inr (.inl sv)))] ++ ws) sz)) 0 0 (va_A ([(rf_MO mo mw ma mf m0 m1 mu mv u0 u1 iz th mb mn mpt mbg mwr mwk mlf men), (rf_RW ct 0 mw 958 f), (rf_RW ct 0 ma 958 fa), (mu, .inl (ct 1, 42, .inr (.inl su))), (mv, .inl (ct 1, 42, .inr (.inl sv)))] ++ ws) sz) := by
  refine Met.ofW (cc := cX11_safeCurrent) (maxL := 4) (ret := (some .int)) (by decide) rfl ?_
  intro p e s m args below meth c s₁ B hml hv
  obtain ⟨rfl, hsz, hP, hK, hD0, hX⟩ := hv
  have hx := B.exec
  have hb := B.bytes
  have hr := B.returns
  have hts := ws_all (atoms_spec (ws := ws_ yX11_safeCurrent cX11_safeCurrent 4 (some .int)) B.pre)
  have hown : s.vm.findClass RX11 = some m.cls := findClass_of_methodNamed B.named
  have hlocks := B.notSynchronized
  subst hsz
  have hD := hD0.self (sz := s.heap.size)
  generalize hAe : va_A ([(rf_MO mo mw ma mf m0 m1 mu mv u0 u1 iz th mb mn mpt mbg mwr mwk mlf men), (rf_RW ct 0 mw 958 f), (rf_RW ct 0 ma 958 fa), (mu, .inl (ct 1, 42, .inr (.inl su))), (mv, .inl (ct 1, 42, .inr (.inl sv)))] ++ ws) s.heap.size = A at hD hX ⊢
  have hA : ∀ q : Nat, s.heap.size ≤ q → A q := fun q h => by rw [← hAe]; exact Or.inr h
  have hS : va_S A s.heap s.heap [] := va_S.rf
  have hl := lv_entry ([.ref mo, .int p1, .int p2]) (n := 4) (Nat.le_of_ble_eq_true rfl)
  rw [lg_entry_eq]
  generalize (lg_sl ([.ref mo, .int p1, .int p2]) ++ List.replicate (4 - (lg_sl ([.ref mo, .int p1, .int p2])).length) Slot.unset).toArray = ls at hl ⊢
  have hl : lv_has ls 4 [(0, .ref mo), (1, .int p1), (2, .int p2)] := hl
  refine lv_aload_n hx hb dX11_safeCurrent_0 rfl (lv_at hl 0 rfl) ?_
  refine lv_iload_n hx hb dX11_safeCurrent_1 rfl (lv_at hl 1 rfl) ?_
  obtain ⟨hP, hD⟩ := ty_opPD (E1 := [(rf_RW ct 0 ma 958 fa), (mu, .inl (ct 1, 42, .inr (.inl su))), (mv, .inl (ct 1, 42, .inr (.inl sv)))]) (E2 := [(rf_MO mo mw ma mf m0 m1 mu mv u0 u1 iz th mb mn mpt mbg mwr mwk mlf men), (rf_RW ct 0 mw 958 f)]) (n := 5) [2, 3, 4, 0, 1] hP hD rfl rfl (by decide +kernel) ty_mva
  refine ty_Ki hP hD hS hA (va_runV (As := [.int p1]) (rest := []) ⟨hx, hb, hml, hown, hts⟩ (m_X11_noChannel l D ct S ws ph xx mo mw ma mf m0 m1 mu mv u0 u1 iz mb th mn mpt mbg mwr mwk mlf men f G (-1) p1 _ hT hph hy1 hR) (cm_V 1 hts kc_X11_noChannel ki_RX11 kl_RX11_344 kv_X11_noChannel kx_X11_noChannel kd_X11_noChannel ⟨Nat.le_of_ble_eq_true rfl, Nat.le_of_ble_eq_true rfl⟩) (ty_preE (ci := 11) (q0 := 3) hP hK hD hS hA hX rfl rfl) rfl rfl hl.1 rfl (lv_room (Nat.le_of_ble_eq_true rfl)) dX11_safeCurrent_2 ⟨Nat.le_of_ble_eq_true rfl, Nat.le_of_ble_eq_true rfl⟩) (fun r_1 u H locs hw_2 hP hD hS => ?_)
  obtain ⟨ws_3, th1_4⟩ := u
  obtain ⟨hT, hp_5⟩ := hw_2
  have hp_5 : ((r_1 = 0 ∧ (0 ≤ p1.toInt ∧ p1.toInt < (G 9).toInt) ∧ th1_4 = 0) ∨ (r_1 = 1 ∧ ¬ (0 ≤ p1.toInt ∧ p1.toInt < (G 9).toInt) ∧ th1_4 = 1)) := hp_5
  obtain ⟨hP, hD⟩ := ty_shPD (w2 := ([(rf_RW ct 0 ma 958 fa), (mu, .inl (ct 1, 42, .inr (.inl su))), (mv, .inl (ct 1, 42, .inr (.inl sv))), (rf_MO mo mw ma mf m0 m1 mu mv u0 u1 iz th1_4 mb mn mpt mbg mwr mwk mlf men), (rf_RW ct 0 mw 958 f)] ++ ws_3)) hP hD rfl
  rcases hp_5 with ⟨rfl, hz_6⟩ | ⟨rfl, hz_7⟩
  · have he_8 := hz_6.2
    have hP : va_P D vwCl ([(rf_RW ct 0 ma 958 fa), (mu, .inl (ct 1, 42, .inr (.inl su))), (mv, .inl (ct 1, 42, .inr (.inl sv))), (rf_MO mo mw ma mf m0 m1 mu mv u0 u1 iz (0) mb mn mpt mbg mwr mwk mlf men), (rf_RW ct 0 mw 958 f)] ++ ws_3) H := by rw [he_8] at hP; exact hP
    have hD : va_D A ([(rf_RW ct 0 ma 958 fa), (mu, .inl (ct 1, 42, .inr (.inl su))), (mv, .inl (ct 1, 42, .inr (.inl sv))), (rf_MO mo mw ma mf m0 m1 mu mv u0 u1 iz (0) mb mn mpt mbg mwr mwk mlf men), (rf_RW ct 0 mw 958 f)] ++ ws_3) := by rw [he_8] at hD; exact hD
    refine lv_if_ne (tgt := 33) hx hb dX11_safeCurrent_5 (by decide) (fun hc => absurd (by decide) hc) (fun _ => ?_)
    refine lv_aload_n hx hb dX11_safeCurrent_8 rfl (lv_at hl 0 rfl) ?_
    refine lv_iload_n hx hb dX11_safeCurrent_9 rfl (lv_at hl 2 rfl) ?_
    refine lv_i2l hx hb dX11_safeCurrent_10 rfl ?_
    refine lv_lconst (v := 1) hx hb dX11_safeCurrent_11 (by decide) ?_
    refine lv_ldc2 hx hb hown (hts _ kl_RX11_303) dX11_safeCurrent_12 ?_
    obtain ⟨hP, hD⟩ := ty_ipPD (E1 := [(rf_RW ct 0 ma 958 fa), (mu, .inl (ct 1, 42, .inr (.inl su))), (mv, .inl (ct 1, 42, .inr (.inl sv))), (rf_MO mo mw ma mf m0 m1 mu mv u0 u1 iz (0) mb mn mpt mbg mwr mwk mlf men), (rf_RW ct 0 mw 958 f)]) (E2 := []) hP hD rfl ty_mva
    refine ty_Ki hP hD hS hA (va_runS (As := [.long p2.toInt64, .long 1, .long 1000]) (rest := [.ref mo]) ⟨hx, hb, hml, hown, hts⟩ (m_X11_in l D ct S ws_3 ph xx p2.toInt64 (1 : Int64) (1000 : Int64) _ hT hph hy1) (cm_S 3 hts kc_X11_in ki_RX11 kl_RX11_70 ks_X11_in kd_X11_in ⟨Nat.le_of_ble_eq_true rfl, Nat.le_of_ble_eq_true rfl⟩) (ty_preS hP hK hD hS hA hX) rfl rfl hl.1 rfl (lv_room (Nat.le_of_ble_eq_true rfl)) dX11_safeCurrent_15 ⟨Nat.le_of_ble_eq_true rfl, Nat.le_of_ble_eq_true rfl⟩) (fun r_9 u H locs hw_10 hP hD hS => ?_)
    obtain ⟨ws_11, rfl⟩ : ∃ z, z = u := ⟨_, rfl⟩
    obtain ⟨hT, rfl⟩ := hw_10
    obtain ⟨hP, hD⟩ := ty_shPD (w2 := ([(rf_RW ct 0 ma 958 fa), (mu, .inl (ct 1, 42, .inr (.inl su))), (mv, .inl (ct 1, 42, .inr (.inl sv))), (rf_MO mo mw ma mf m0 m1 mu mv u0 u1 iz (0) mb mn mpt mbg mwr mwk mlf men), (rf_RW ct 0 mw 958 f)] ++ ws_11)) hP hD rfl
    refine lv_if_ne (tgt := 25) hx hb dX11_safeCurrent_18 (by decide) (fun hc_12 => ?_) (fun hc_12 => ?_)
    · refine lv_iconst (v := 0) hx hb dX11_safeCurrent_25 (by decide) ?_
      refine lv_iconst (v := 2) hx hb dX11_safeCurrent_26 (by decide) ?_
      obtain ⟨hP, hD⟩ := ty_opPD (E1 := [(rf_RW ct 0 ma 958 fa), (mu, .inl (ct 1, 42, .inr (.inl su))), (mv, .inl (ct 1, 42, .inr (.inl sv))), (rf_RW ct 0 mw 958 f)]) (E2 := [(rf_MO mo mw ma mf m0 m1 mu mv u0 u1 iz (0) mb mn mpt mbg mwr mwk mlf men)]) (n := 5) [0, 1, 2, 4, 3] hP hD rfl rfl (by decide +kernel) ty_mva
      refine ty_Ki hP hD hS hA (va_runV (As := [.int 0, .int 2]) (rest := []) ⟨hx, hb, hml, hown, hts⟩ (m_throwsIf_0 l D ct S ws_11 ph xx mo mw ma mf m0 m1 mu mv u0 u1 iz mb mn mpt mbg mwr mwk mlf men (0 : Int32) (2 : Int32) _ hT hph hy1 (by decide)) (cm_V 2 hts kc_X11_throwsIf ki_RX11 kl_RX11_328 kv_X11_throwsIf kx_X11_throwsIf kd_X11_throwsIf ⟨Nat.le_of_ble_eq_true rfl, Nat.le_of_ble_eq_true rfl⟩) (ty_preE (ci := 11) (q0 := 4) hP hK hD hS hA hX rfl rfl) rfl rfl hl.1 rfl (lv_room (Nat.le_of_ble_eq_true rfl)) dX11_safeCurrent_27 ⟨Nat.le_of_ble_eq_true rfl, Nat.le_of_ble_eq_true rfl⟩) (fun r_13 u H locs hw_14 hP hD hS => ?_)
      obtain ⟨ws_15, th1_16⟩ := u
      obtain ⟨hT, hp_17⟩ := hw_14
      have hp_17 : ((r_13 = 0 ∧ (0 : Int32) = 0 ∧ th1_16 = 0) ∨ (r_13 = 1 ∧ ¬ (0 : Int32) = 0 ∧ th1_16 = (2 : Int32))) := hp_17
      obtain ⟨hP, hD⟩ := ty_shPD (w2 := ([(rf_RW ct 0 ma 958 fa), (mu, .inl (ct 1, 42, .inr (.inl su))), (mv, .inl (ct 1, 42, .inr (.inl sv))), (rf_RW ct 0 mw 958 f), (rf_MO mo mw ma mf m0 m1 mu mv u0 u1 iz th1_16 mb mn mpt mbg mwr mwk mlf men)] ++ ws_15)) hP hD rfl
      rcases hp_17 with ⟨rfl, hz_18⟩ | ⟨rfl, hz_19⟩
      · have he_20 := hz_18.2
        have hP : va_P D vwCl ([(rf_RW ct 0 ma 958 fa), (mu, .inl (ct 1, 42, .inr (.inl su))), (mv, .inl (ct 1, 42, .inr (.inl sv))), (rf_RW ct 0 mw 958 f), (rf_MO mo mw ma mf m0 m1 mu mv u0 u1 iz (0) mb mn mpt mbg mwr mwk mlf men)] ++ ws_15) H := by rw [he_20] at hP; exact hP
        have hD : va_D A ([(rf_RW ct 0 ma 958 fa), (mu, .inl (ct 1, 42, .inr (.inl su))), (mv, .inl (ct 1, 42, .inr (.inl sv))), (rf_RW ct 0 mw 958 f), (rf_MO mo mw ma mf m0 m1 mu mv u0 u1 iz (0) mb mn mpt mbg mwr mwk mlf men)] ++ ws_15) := by rw [he_20] at hD; exact hD
        refine lv_if_eq (tgt := 35) hx hb dX11_safeCurrent_30 (by decide) (fun _ => ?_) (fun hc => absurd (by decide) hc)
        refine lv_sipush (v := 5000) hx hb dX11_safeCurrent_35 (by decide) ?_
        refine lv_istore_n (lv' := [(3, .int 5000), (0, .ref mo), (1, .int p1), (2, .int p2)]) hx hb dX11_safeCurrent_38 rfl hl (by decide) rfl (fun ls hl => ?_)
        refine ty_loop (I := fun μ H locs ls => ∃ (ws : va_W) (y_21 : Int32) (y_22 : Int32) (f_23 : Nat → Int32) (g_24 : Nat → Int32) (g_25 : Nat → Int64) (g_26 : Nat → Int64), μ = (y_21.toInt + 2147483648).toNat ∧ ty_V ct S ph ws ∧ va_P D vwCl ([(rf_RW ct 0 ma 958 g_24), (mu, .inl (ct 1, 42, .inr (.inl g_26))), (mv, .inl (ct 1, 42, .inr (.inl g_25))), (rf_RW ct 0 mw 958 f_23), (rf_MO mo mw ma mf m0 m1 mu mv u0 u1 iz (0) mb mn mpt mbg mwr mwk mlf y_22)] ++ ws) H ∧ va_D A ([(rf_RW ct 0 ma 958 g_24), (mu, .inl (ct 1, 42, .inr (.inl g_26))), (mv, .inl (ct 1, 42, .inr (.inl g_25))), (rf_RW ct 0 mw 958 f_23), (rf_MO mo mw ma mf m0 m1 mu mv u0 u1 iz (0) mb mn mpt mbg mwr mwk mlf y_22)] ++ ws) ∧ va_S A s.heap H locs ∧ lv_has ls 4 [(0, .ref mo), (1, .int p1), (2, .int p2), (3, .int y_21)] ∧ rf_R G (-1) f_23 ∧ rf_d (f 8) f f_23 ∧ y_21.toInt ≤ 5000 ∧ q_eq 958 f f_23 ∧ q_cs su g_26) ⟨_, ws_15, (5000 : Int32), men, f, fa, sv, su, rfl, hT, hP, hD, hS, (lv_sub hl [1, 2, 3, 0] rfl), hR, (rf_dr f), ⟨by decide, fun _ _ => rfl, fun _ _ => rfl⟩⟩ (fun μ H locs ls hI ih_39 => ?_)
        obtain ⟨ws, y_21, y_22, f_23, g_24, g_25, g_26, rfl, hT, hP, hD, hS, hl, hR_39, hD_39, hex_39⟩ := hI
        refine lv_iload_n hx hb dX11_safeCurrent_39 rfl (lv_at hl 3 rfl) ?_
        refine lv_bipush (v := 100) hx hb dX11_safeCurrent_40 (by decide) ?_
        refine lv_icmp_lt (tgt := 63) hx hb dX11_safeCurrent_42 (by decide) (fun hc_27 => ?_) (fun hc_27 => ?_)
        · refine lv_iconst (v := (-1)) hx hb dX11_safeCurrent_63 (by decide) ?_
          obtain ⟨hP, hD⟩ := ty_ordPD (E2 := [(rf_MO mo mw ma mf m0 m1 mu mv u0 u1 iz (0) mb mn mpt mbg mwr mwk mlf y_22), (rf_RW ct 0 mw 958 f_23), (rf_RW ct 0 ma 958 g_24), (mu, .inl (ct 1, 42, .inr (.inl g_26))), (mv, .inl (ct 1, 42, .inr (.inl g_25)))]) (n := 5) [4, 3, 0, 1, 2] hP hD rfl rfl (by decide +kernel)
          exact W.iret (v := (-1)) hx hb hr (fun t ht hW => ⟨⟨(-1), (ws, y_22, (0 : Int32), f_23, g_24, g_26, g_25), rfl, ⟨hT, ⟨⟨th1_4, trivial, (Or.inl ⟨hz_6, (Or.inl ⟨hc_12, ⟨th1_16, trivial, ⟨hz_18, ⟨y_21, y_22, f_23, g_24, g_25, g_26, hex_39, (Or.inl ⟨hc_27, ⟨rfl, rfl, rfl, rfl, rfl, rfl, rfl⟩⟩)⟩⟩⟩⟩)⟩)⟩, ⟨hD_39, hR_39⟩⟩⟩, by rw [ht]; exact hP, by rw [hAe]; exact hD⟩, hS.F ht⟩) hS.2.2 dX11_safeCurrent_64
        · refine lv_aload_n hx hb dX11_safeCurrent_45 rfl (lv_at hl 0 rfl) ?_
          refine lv_iload_n hx hb dX11_safeCurrent_46 rfl (lv_at hl 1 rfl) ?_
          refine lv_iload_n hx hb dX11_safeCurrent_47 rfl (lv_at hl 3 rfl) ?_
          refine lv_iload_n hx hb dX11_safeCurrent_48 rfl (lv_at hl 2 rfl) ?_
          obtain ⟨hP, hD⟩ := ty_opPD (E1 := []) (E2 := [(rf_MO mo mw ma mf m0 m1 mu mv u0 u1 iz (0) mb mn mpt mbg mwr mwk mlf y_22), (rf_RW ct 0 mw 958 f_23), (rf_RW ct 0 ma 958 g_24), (mu, .inl (ct 1, 42, .inr (.inl g_26))), (mv, .inl (ct 1, 42, .inr (.inl g_25)))]) (n := 5) [4, 3, 0, 1, 2] hP hD rfl rfl (by decide +kernel) ty_mva
          refine ty_Ki hP hD hS hA (va_runV (As := [.int p1, .int y_21, .int p2]) (rest := []) ⟨hx, hb, hml, hown, hts⟩ (m_X11_isSafe l D ct S ws ph xx mo mw ma mf m0 m1 mu mv u0 u1 iz mb (0 : Int32) mn mpt mbg mwr mwk mlf y_22 f_23 G g_24 g_26 g_25 p1 y_21 p2 _ hT hph hy1 hy11 hR_39 hz_6.1 ⟨rf_n100 hc_27, hex_39.1⟩) (cm_V 3 hts kc_X11_isSafe ki_RX11 kl_RX11_399 kv_X11_isSafe kx_X11_isSafe kd_X11_isSafe ⟨Nat.le_of_ble_eq_true rfl, Nat.le_of_ble_eq_true rfl⟩) (ty_preE (ci := 11) (q0 := 0) hP hK hD hS hA hX rfl rfl) rfl rfl hl.1 rfl (lv_room (Nat.le_of_ble_eq_true rfl)) dX11_safeCurrent_49 ⟨Nat.le_of_ble_eq_true rfl, Nat.le_of_ble_eq_true rfl⟩) (fun r_28 u H locs hw_29 hP hD hS => ?_)
          obtain ⟨ws_30, men1_31, f1_32, fa1_33, su1_34, sv1_35⟩ := u
          obtain ⟨hT, hp_36⟩ := hw_29
          have hp_36 : (q_X11_isSafe f_23 g_26 p2 r_28 men1_31 f1_32 fa1_33 su1_34 sv1_35) ∧ rf_d (f_23 8) f_23 f1_32 ∧ rf_R G (-1) f1_32 := hp_36
          obtain ⟨hq_37, hp_38⟩ := hp_36
          obtain ⟨hd_39, hq_40⟩ := hp_38
          have hD_41 := rf_dt hD_39 hd_39
          have hR_42 := hq_40
          obtain ⟨hP, hD⟩ := ty_shPD (w2 := ([(rf_MO mo mw ma mf m0 m1 mu mv u0 u1 iz (0) mb mn mpt mbg mwr mwk mlf men1_31), (rf_RW ct 0 mw 958 f1_32), (rf_RW ct 0 ma 958 fa1_33), (mu, .inl (ct 1, 42, .inr (.inl su1_34))), (mv, .inl (ct 1, 42, .inr (.inl sv1_35)))] ++ ws_30)) hP hD rfl
          refine lv_if_eq (tgt := 57) hx hb dX11_safeCurrent_52 (by decide) (fun hc_44 => ?_) (fun hc_44 => ?_)
          · refine lv_iinc (v := (y_21 + Int32.ofInt (-100))) (lv' := [(3, .int (y_21 + Int32.ofInt (-100))), (0, .ref mo), (1, .int p1), (2, .int p2)]) hx hb dX11_safeCurrent_57 hl (k := 3) rfl rfl (by decide) rfl (fun ls hl => ?_)
            refine lv_goto (tgt := 39) hx hb dX11_safeCurrent_60 (by decide) ?_
            obtain ⟨hP, hD⟩ := ty_ordPD (E2 := [(rf_RW ct 0 ma 958 fa1_33), (mu, .inl (ct 1, 42, .inr (.inl su1_34))), (mv, .inl (ct 1, 42, .inr (.inl sv1_35))), (rf_RW ct 0 mw 958 f1_32), (rf_MO mo mw ma mf m0 m1 mu mv u0 u1 iz (0) mb mn mpt mbg mwr mwk mlf men1_31)]) (n := 5) [2, 3, 4, 1, 0] hP hD rfl rfl (by decide +kernel)
            exact ih_39 _ _ _ _ (by have := rf_n100 hc_27; have := rf_m100 this; omega) ⟨ws_30, (y_21 + Int32.ofInt (-100)), men1_31, f1_32, fa1_33, sv1_35, su1_34, rfl, hT, hP, hD, hS, (lv_sub hl [1, 2, 3, 0] rfl), hR_42, hD_41, ⟨(by have := rf_n100 hc_27; have := rf_m100 this; have := hex_39.1; omega), q_ise hex_39.2 hq_37⟩⟩
          · refine lv_iload_n hx hb dX11_safeCurrent_55 rfl (lv_at hl 3 rfl) ?_
            exact W.iret (v := y_21) hx hb hr (fun t ht hW => ⟨⟨y_21, (ws_30, men1_31, (0 : Int32), f1_32, fa1_33, su1_34, sv1_35), rfl, ⟨hT, ⟨⟨th1_4, trivial, (Or.inl ⟨hz_6, (Or.inl ⟨hc_12, ⟨th1_16, trivial, ⟨hz_18, ⟨y_21, y_22, f_23, g_24, g_25, g_26, hex_39, (Or.inr ⟨hc_27, ⟨r_28, men1_31, f1_32, fa1_33, su1_34, sv1_35, hq_37, ⟨hc_44, ⟨rfl, rfl, rfl, rfl, rfl, rfl, rfl⟩⟩⟩⟩)⟩⟩⟩⟩)⟩)⟩, ⟨hD_41, hR_42⟩⟩⟩, by rw [ht]; exact hP, by rw [hAe]; exact hD⟩, hS.F ht⟩) hS.2.2 dX11_safeCurrent_56
      · exact absurd rfl hz_19.1
    · refine lv_iconst (v := 1) hx hb dX11_safeCurrent_21 (by decide) ?_
      refine lv_goto (tgt := 26) hx hb dX11_safeCurrent_22 (by decide) ?_
      refine lv_iconst (v := 2) hx hb dX11_safeCurrent_26 (by decide) ?_
      obtain ⟨hP, hD⟩ := ty_opPD (E1 := [(rf_RW ct 0 ma 958 fa), (mu, .inl (ct 1, 42, .inr (.inl su))), (mv, .inl (ct 1, 42, .inr (.inl sv))), (rf_RW ct 0 mw 958 f)]) (E2 := [(rf_MO mo mw ma mf m0 m1 mu mv u0 u1 iz (0) mb mn mpt mbg mwr mwk mlf men)]) (n := 5) [0, 1, 2, 4, 3] hP hD rfl rfl (by decide +kernel) ty_mva
      refine ty_Ki hP hD hS hA (va_runV (As := [.int 1, .int 2]) (rest := []) ⟨hx, hb, hml, hown, hts⟩ (m_throwsIf_0 l D ct S ws_11 ph xx mo mw ma mf m0 m1 mu mv u0 u1 iz mb mn mpt mbg mwr mwk mlf men (1 : Int32) (2 : Int32) _ hT hph hy1 (by decide)) (cm_V 2 hts kc_X11_throwsIf ki_RX11 kl_RX11_328 kv_X11_throwsIf kx_X11_throwsIf kd_X11_throwsIf ⟨Nat.le_of_ble_eq_true rfl, Nat.le_of_ble_eq_true rfl⟩) (ty_preE (ci := 11) (q0 := 4) hP hK hD hS hA hX rfl rfl) rfl rfl hl.1 rfl (lv_room (Nat.le_of_ble_eq_true rfl)) dX11_safeCurrent_27 ⟨Nat.le_of_ble_eq_true rfl, Nat.le_of_ble_eq_true rfl⟩) (fun r_45 u H locs hw_46 hP hD hS => ?_)
      obtain ⟨ws_47, th1_48⟩ := u
      obtain ⟨hT, hp_49⟩ := hw_46
      have hp_49 : ((r_45 = 0 ∧ (1 : Int32) = 0 ∧ th1_48 = 0) ∨ (r_45 = 1 ∧ ¬ (1 : Int32) = 0 ∧ th1_48 = (2 : Int32))) := hp_49
      obtain ⟨hP, hD⟩ := ty_shPD (w2 := ([(rf_RW ct 0 ma 958 fa), (mu, .inl (ct 1, 42, .inr (.inl su))), (mv, .inl (ct 1, 42, .inr (.inl sv))), (rf_RW ct 0 mw 958 f), (rf_MO mo mw ma mf m0 m1 mu mv u0 u1 iz th1_48 mb mn mpt mbg mwr mwk mlf men)] ++ ws_47)) hP hD rfl
      rcases hp_49 with ⟨rfl, hz_50⟩ | ⟨rfl, hz_51⟩
      · exact absurd hz_50.1 (by decide)
      · have he_52 := hz_51.2
        have hP : va_P D vwCl ([(rf_RW ct 0 ma 958 fa), (mu, .inl (ct 1, 42, .inr (.inl su))), (mv, .inl (ct 1, 42, .inr (.inl sv))), (rf_RW ct 0 mw 958 f), (rf_MO mo mw ma mf m0 m1 mu mv u0 u1 iz (2) mb mn mpt mbg mwr mwk mlf men)] ++ ws_47) H := by rw [he_52] at hP; exact hP
        have hD : va_D A ([(rf_RW ct 0 ma 958 fa), (mu, .inl (ct 1, 42, .inr (.inl su))), (mv, .inl (ct 1, 42, .inr (.inl sv))), (rf_RW ct 0 mw 958 f), (rf_MO mo mw ma mf m0 m1 mu mv u0 u1 iz (2) mb mn mpt mbg mwr mwk mlf men)] ++ ws_47) := by rw [he_52] at hD; exact hD
        refine lv_if_eq (tgt := 35) hx hb dX11_safeCurrent_30 (by decide) (fun hc => absurd hc (by decide)) (fun _ => ?_)
        refine lv_iconst (v := 0) hx hb dX11_safeCurrent_33 (by decide) ?_
        obtain ⟨hP, hD⟩ := ty_ordPD (E2 := [(rf_MO mo mw ma mf m0 m1 mu mv u0 u1 iz (2) mb mn mpt mbg mwr mwk mlf men), (rf_RW ct 0 mw 958 f), (rf_RW ct 0 ma 958 fa), (mu, .inl (ct 1, 42, .inr (.inl su))), (mv, .inl (ct 1, 42, .inr (.inl sv)))]) (n := 5) [4, 3, 0, 1, 2] hP hD rfl rfl (by decide +kernel)
        exact W.iret (v := 0) hx hb hr (fun t ht hW => ⟨⟨0, (ws_47, men, (2 : Int32), f, fa, su, sv), rfl, ⟨hT, ⟨⟨th1_4, trivial, (Or.inl ⟨hz_6, (Or.inr ⟨hc_12, ⟨th1_48, trivial, ⟨hz_51, ⟨rfl, rfl, rfl, rfl, rfl, rfl, rfl⟩⟩⟩⟩)⟩)⟩, ⟨(rf_dr f), hR⟩⟩⟩, by rw [ht]; exact hP, by rw [hAe]; exact hD⟩, hS.F ht⟩) hS.2.2 dX11_safeCurrent_34
  · have he_53 := hz_7.2
    have hP : va_P D vwCl ([(rf_RW ct 0 ma 958 fa), (mu, .inl (ct 1, 42, .inr (.inl su))), (mv, .inl (ct 1, 42, .inr (.inl sv))), (rf_MO mo mw ma mf m0 m1 mu mv u0 u1 iz (1) mb mn mpt mbg mwr mwk mlf men), (rf_RW ct 0 mw 958 f)] ++ ws_3) H := by rw [he_53] at hP; exact hP
    have hD : va_D A ([(rf_RW ct 0 ma 958 fa), (mu, .inl (ct 1, 42, .inr (.inl su))), (mv, .inl (ct 1, 42, .inr (.inl sv))), (rf_MO mo mw ma mf m0 m1 mu mv u0 u1 iz (1) mb mn mpt mbg mwr mwk mlf men), (rf_RW ct 0 mw 958 f)] ++ ws_3) := by rw [he_53] at hD; exact hD
    refine lv_if_ne (tgt := 33) hx hb dX11_safeCurrent_5 (by decide) (fun _ => ?_) (fun hc => absurd hc (by decide))
    refine lv_iconst (v := 0) hx hb dX11_safeCurrent_33 (by decide) ?_
    obtain ⟨hP, hD⟩ := ty_ordPD (E2 := [(rf_MO mo mw ma mf m0 m1 mu mv u0 u1 iz (1) mb mn mpt mbg mwr mwk mlf men), (rf_RW ct 0 mw 958 f), (rf_RW ct 0 ma 958 fa), (mu, .inl (ct 1, 42, .inr (.inl su))), (mv, .inl (ct 1, 42, .inr (.inl sv)))]) (n := 5) [3, 4, 0, 1, 2] hP hD rfl rfl (by decide +kernel)
    exact W.iret (v := 0) hx hb hr (fun t ht hW => ⟨⟨0, (ws_3, men, (1 : Int32), f, fa, su, sv), rfl, ⟨hT, ⟨⟨th1_4, trivial, (Or.inr ⟨hz_7, ⟨rfl, rfl, rfl, rfl, rfl, rfl, rfl⟩⟩)⟩, ⟨(rf_dr f), hR⟩⟩⟩, by rw [ht]; exact hP, by rw [hAe]; exact hD⟩, hS.F ht⟩) hS.2.2 dX11_safeCurrent_34
