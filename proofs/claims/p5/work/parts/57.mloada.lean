def rf_E (f : Nat → Int32) : Prop := ∃ G : Nat → Int32, rf_R G (-1) f
theorem rf_E11 {f : Nat → Int32} (h : rf_E f) : 0 ≤ (f 11).toInt ∧ (f 11).toInt ≤ 4 := by
  obtain ⟨G, hR⟩ := h
  rw [hR.2.1.2.2.2.2.2.2]
  exact hR.1.2.2.2.2.1
theorem rf_ld00 (g : Nat → Int32) : rf_ld g g (0 : Int32).toInt.toNat := by
  have z : (0 : Int32).toInt = 0 := by decide
  rw [z]
  exact rf_ld0 g
theorem rf_ldp {c : Int32} (hc : 0 ≤ c.toInt ∧ c.toInt < 6) : (244 + (54 * c)).toInt = 244 + 54 * c.toInt := rf_mk9 (by decide) (by decide) (by omega) (by omega) (by omega)
theorem rf_ldx {g h h2 : Nat → Int32} {c : Int32} (l : rf_L g) (hd : rf_ld g h c.toInt.toNat) (hc : 0 ≤ c.toInt) (hlt : c.toInt < (g 9).toInt) (b : rf_bg h h2 (244 + (54 * c)).toInt.toNat ((h ((244 + (54 * c)) + 12).toNatClampNeg) / 2)) : rf_ld g h2 (c + Int32.ofInt 1).toInt.toNat := by
  have c9 := l.1.2.2.1
  have e1 := rf_ldp (c := c) (by omega)
  have e2 : (244 + (54 * c)).toInt.toNat = 244 + 54 * c.toInt.toNat := by omega
  have e3 : ((244 + (54 * c)) + 12).toNatClampNeg = 244 + 54 * c.toInt.toNat + 12 := by
    have e := rf_pk (x := 244 + (54 * c)) (k := 12) (K := 12) (by decide) (by omega) (by omega)
    show ((244 + (54 * c)) + 12).toInt.toNat = _
    omega
  have e4 : (c + Int32.ofInt 1).toInt.toNat = c.toInt.toNat + 1 := by
    have e := rf_oi (n := c) (by omega)
    omega
  have cap := (l.1.2.2.2.2.2.2.2.2.1 c.toInt.toNat (by omega)).2.1
  rw [e2, e3, hd.1 _ (by omega)] at b
  rw [e4]
  have t : (2 : Int32).toInt = 2 := by decide
  have e5 : (g (244 + 54 * c.toInt.toNat + 12) / 2).toInt = (g (244 + 54 * c.toInt.toNat + 12)).toInt / 2 := by rw [Jvm.Kit.i32_div (by omega), t, Int.tdiv_eq_ediv_of_nonneg (by omega)]
  exact rf_ldn hd b (by rw [e5]; omega)
theorem rf_lde {g h : Nat → Int32} {c : Int32} (l : rf_L g) (hd : rf_ld g h c.toInt.toNat) (hc : 0 ≤ c.toInt ∧ c.toInt ≤ (g 9).toInt) (he : (h 9) ≤ c) : rf_R g (-1) h := by
  have e9 : h 9 = g 9 := hd.1 9 (by omega)
  rw [e9, Int32.le_iff_toInt_le] at he
  have e : c.toInt.toNat = (g 9).toInt.toNat := by omega
  rw [e] at hd
  exact rf_ldR l hd
theorem rf_ldl {g h : Nat → Int32} {n : Nat} {c : Int32} (hd : rf_ld g h n) (hl : ¬ (h 9) ≤ c) : c.toInt < (g 9).toInt := by
  have e9 : h 9 = g 9 := hd.1 9 (by omega)
  rw [e9, Int32.le_iff_toInt_le] at hl
  omega
theorem rq_ldx {g h h2 : Nat → Int32} {c : Int32} (hd : h = rq_ld g c.toInt.toNat) (hc : 0 ≤ c.toInt ∧ c.toInt < 6) (b : h2 = rq_beg h (244 + (54 * c)).toInt.toNat ((h ((244 + (54 * c)) + 12).toNatClampNeg) / 2)) : h2 = rq_ld g (c + Int32.ofInt 1).toInt.toNat := by
  have e1 := rf_ldp (c := c) hc
  have e2 : (244 + (54 * c)).toInt.toNat = 244 + 54 * c.toInt.toNat := by omega
  have e3 : ((244 + (54 * c)) + 12).toNatClampNeg = 244 + 54 * c.toInt.toNat + 12 := by
    have e := rf_pk (x := 244 + (54 * c)) (k := 12) (K := 12) (by decide) (by omega) (by omega)
    show ((244 + (54 * c)) + 12).toInt.toNat = _
    omega
  have e4 : (c + Int32.ofInt 1).toInt.toNat = c.toInt.toNat + 1 := by
    have e := rf_oi (n := c) (by omega)
    omega
  rw [e4, b, e2, e3, hd]
  rfl
theorem rq_lz {s t : Nat → Int64} {y : Int32} (h : ∀ j : Nat, (j : Int) < y.toInt → s j = 0) (hy : 0 ≤ y.toInt ∧ y.toInt < 42) : ∀ j : Nat, (j : Int) < (y + Int32.ofInt 1).toInt → vp_updL s y.toNatClampNeg 0 j = 0 := by
  have e : (y + Int32.ofInt 1).toInt = y.toInt + 1 := rf_oi (by omega)
  intro j hj
  show (if j = y.toInt.toNat then 0 else s j) = 0
  by_cases q : j = y.toInt.toNat
  · rw [if_pos q]
  · rw [if_neg q]
    exact h j (by omega)
/-- what load() leaves, where nothing is wrong -/
def rq_L (b : Nat → Int32) (n : Int32) (f1 : Nat → Int32) (su1 : Nat → Int64) : Prop := ∃ g0 g : Nat → Int32, q_eq 958 rq_W0 g0 ∧ g = rq_x b n 802 [] 0 0 0 g0 ∧ rf_L g ∧ q_eq 958 (rq_ld g (g 9).toInt.toNat) f1 ∧ ∀ j : Nat, j < 42 → su1 j = 0
set_option maxRecDepth 100000 in
set_option maxHeartbeats 4000000 in
theorem m_load (l : Launch) (D : va_G) (ct : Nat → ClassId) (S : ty_S) (ws : va_W) (ph : va_W → Prop) (xx : Nat → Nat → Nat → Prop) (mo : Nat) (mw : Nat) (ma : Nat) (mf : Nat) (m0 : Nat) (m1 : Nat) (mu : Nat) (mv : Nat) (u0 : Nat) (u1 : Nat) (iz : Nat) (mb : Nat) (th : Int32) (mn : Int32) (mpt : Int32) (mbg : Int32) (mwr : Int32) (mwk : Int32) (mlf : Int32) (men : Int32) (b : Nat → Int32) (g : Nat → Int32) (f : Nat → Int32) (su : Nat → Int64) (sz : Nat) (hT : ty_V ct S ph ws) (hph : ty_C ph xx) (hy1 : ty_y1 xx) (hy11 : ty_y0 xx 11) (hE : rf_E f) (hmn : 0 ≤ mn.toInt ∧ mn.toInt ≤ 800) : Met l yX11_load (ws_ yX11_load cX11_load 3 (some .int)) ({ frames := 9, cells := 0, slots := 0, locals := 195 } : Room) (va_Pc [.ref mo] (cmP D ct sz ([(rf_MO mo mw ma mf m0 m1 mu mv u0 u1 iz th mb mn mpt mbg mwr mwk mlf men), (rf_RW ct 0 mb 800 b), (rf_RW ct 0 mf 958 g), (rf_RW ct 0 mw 958 f), (mu, .inl (ct 1, 42, .inr (.inl su)))] ++ ws))) (va_Qi (fun (r : Int32) (u : va_W × Int32 × Int32 × Int32 × Int32 × Int32 × (Nat → Int32) × (Nat → Int32) × (Nat → Int64)) => match u with | (u9, mpt1, mbg1, mwr1, mwk1, mlf1, g1, f1, su1) => ty_V ct S ph u9 ∧ r = (rp_A b mn) ∧ mlf1 = rp_K b mn ∧ rf_E f1 ∧ f1 8 = rp_lt b mn (f 8) ∧ (¬ rp_K b mn = 0 → f1 = f ∧ su1 = su) ∧ (rp_K b mn = 0 → rq_L b mn f1 su1)) (cmB D ([(rf_MO mo mw ma mf m0 m1 mu mv u0 u1 iz th mb mn mpt mbg mwr mwk mlf men), (rf_RW ct 0 mb 800 b), (rf_RW ct 0 mf 958 g), (rf_RW ct 0 mw 958 f), (mu, .inl (ct 1, 42, .inr (.inl su)))] ++ ws) sz (fun (u : va_W × Int32 × Int32 × Int32 × Int32 × Int32 × (Nat → Int32) × (Nat → Int32) × (Nat → Int64)) => match u with | (u9, mpt1, mbg1, mwr1, mwk1, mlf1, g1, f1, su1) => ([(rf_MO mo mw ma mf m0 m1 mu mv u0 u1 iz (0) mb (0) mpt1 mbg1 mwr1 mwk1 mlf1 men), (rf_RW ct 0 mb 800 b), (rf_RW ct 0 mf 958 g1), (rf_RW ct 0 mw 958 f1), (mu, .inl (ct 1, 42, .inr (.inl su1)))] ++ u9))) (va_A ([(rf_MO mo mw ma mf m0 m1 mu mv u0 u1 iz th mb mn mpt mbg mwr mwk mlf men), (rf_RW ct 0 mb 800 b), (rf_RW ct 0 mf 958 g), (rf_RW ct 0 mw 958 f), (mu, .inl (ct 1, 42, .inr (.inl su)))] ++ ws) sz)) 0 0 (va_A ([(rf_MO mo mw ma mf m0 m1 mu mv u0 u1 iz th mb mn mpt mbg mwr mwk mlf men), (rf_RW ct 0 mb 800 b), (rf_RW ct 0 mf 958 g), (rf_RW ct 0 mw 958 f), (mu, .inl (ct 1, 42, .inr (.inl su)))] ++ ws) sz) := by
  refine Met.ofW (cc := cX11_load) (maxL := 3) (ret := (some .int)) (by decide) rfl ?_
  intro p e s m args below meth c s₁ B hml hv
  obtain ⟨rfl, hsz, hP, hK, hD0, hX⟩ := hv
  have hx := B.exec
  have hb := B.bytes
  have hr := B.returns
  have hts := ws_all (atoms_spec (ws := ws_ yX11_load cX11_load 3 (some .int)) B.pre)
  have hown : s.vm.findClass RX11 = some m.cls := findClass_of_methodNamed B.named
  have hlocks := B.notSynchronized
  subst hsz
  have hD := hD0.self (sz := s.heap.size)
  generalize hAe : va_A ([(rf_MO mo mw ma mf m0 m1 mu mv u0 u1 iz th mb mn mpt mbg mwr mwk mlf men), (rf_RW ct 0 mb 800 b), (rf_RW ct 0 mf 958 g), (rf_RW ct 0 mw 958 f), (mu, .inl (ct 1, 42, .inr (.inl su)))] ++ ws) s.heap.size = A at hD hX ⊢
  have hA : ∀ q : Nat, s.heap.size ≤ q → A q := fun q h => by rw [← hAe]; exact Or.inr h
  have hS : va_S A s.heap s.heap [] := va_S.rf
  have hl := lv_entry ([.ref mo]) (n := 3) (Nat.le_of_ble_eq_true rfl)
  rw [lg_entry_eq]
  generalize (lg_sl ([.ref mo]) ++ List.replicate (3 - (lg_sl ([.ref mo])).length) Slot.unset).toArray = ls at hl ⊢
  have hl : lv_has ls 3 [(0, .ref mo)] := hl
  refine lv_aload_n hx hb dX11_load_0 rfl (lv_at hl 0 rfl) ?_
  refine lv_iconst (v := 0) hx hb dX11_load_1 (by decide) ?_
  refine va_put (v := .int 0) (ty := .int) (D := D) (ci := 11) (C := RX11) (T := TX11) (N := 19) hx hb hts in_X11 tyX11 tyX11_ok nmX11 hown hK hP hD hS 0 rfl rfl 10 (by decide) (hts _ kl_RX11_49) (fun _ h9 => h9) rfl (by decide +kernel) rfl rfl (Nat.le_of_ble_eq_true rfl) dX11_load_2 (fun H locs hP hD hS => ?_)
  have hP : va_P D vwCl ([(rf_MO mo mw ma mf m0 m1 mu mv u0 u1 iz (0) mb mn mpt mbg mwr mwk mlf men), (rf_RW ct 0 mb 800 b), (rf_RW ct 0 mf 958 g), (rf_RW ct 0 mw 958 f), (mu, .inl (ct 1, 42, .inr (.inl su)))] ++ ws) H := hP
  have hD : va_D A ([(rf_MO mo mw ma mf m0 m1 mu mv u0 u1 iz (0) mb mn mpt mbg mwr mwk mlf men), (rf_RW ct 0 mb 800 b), (rf_RW ct 0 mf 958 g), (rf_RW ct 0 mw 958 f), (mu, .inl (ct 1, 42, .inr (.inl su)))] ++ ws) := hD
  refine lv_aload_n hx hb dX11_load_5 rfl (lv_at hl 0 rfl) ?_
  refine va_get (v := .ref mf) (D := D) (ci := 11) (C := RX11) (T := TX11) (N := 19) hx hb hts in_X11 hown hK hP 0 rfl rfl 2 (by decide) (hts _ kl_RX11_16) (fun _ h9 => h9) rfl dX11_load_6 ?_
  obtain ⟨hP, hD⟩ := ty_opPD (E1 := [(rf_MO mo mw ma mf m0 m1 mu mv u0 u1 iz (0) mb mn mpt mbg mwr mwk mlf men), (rf_RW ct 0 mb 800 b), (rf_RW ct 0 mw 958 f), (mu, .inl (ct 1, 42, .inr (.inl su)))]) (E2 := [(rf_RW ct 0 mf 958 g)]) (n := 5) [0, 1, 3, 4, 2] hP hD rfl rfl (by decide +kernel) ty_mva
  refine ty_Kv hP hD hS hA (va_runS (As := [.ref mf]) (rest := []) ⟨hx, hb, hml, hown, hts⟩ (m_starts l D ct S ws ph xx mf g _ hT hph hy1) (cm_S 1 hts kc_X11_starts ki_RX11 kl_RX11_45 ks_X11_starts kd_X11_starts ⟨Nat.le_of_ble_eq_true rfl, Nat.le_of_ble_eq_true rfl⟩) (ty_preS hP hK hD hS hA hX) rfl rfl hl.1 rfl (lv_room (Nat.le_of_ble_eq_true rfl)) dX11_load_9 ⟨Nat.le_of_ble_eq_true rfl, Nat.le_of_ble_eq_true rfl⟩) (fun u H locs hw_2 hP hD hS => ?_)
  obtain ⟨ws_3, h_4⟩ := u
  obtain ⟨hT, hp_5⟩ := hw_2
  have hp_5 : (rf_L h_4 ∧ h_4 9 = 0 ∧ h_4 10 = 0 ∧ h_4 11 = 0) ∧ q_eq 958 rq_W0 h_4 := hp_5
  obtain ⟨hP, hD⟩ := ty_shPD (w2 := ([(rf_MO mo mw ma mf m0 m1 mu mv u0 u1 iz (0) mb mn mpt mbg mwr mwk mlf men), (rf_RW ct 0 mb 800 b), (rf_RW ct 0 mw 958 f), (mu, .inl (ct 1, 42, .inr (.inl su))), (rf_RW ct 0 mf 958 h_4)] ++ ws_3)) hP hD rfl
  refine lv_aload_n hx hb dX11_load_12 rfl (lv_at hl 0 rfl) ?_
  refine lv_iconst (v := 0) hx hb dX11_load_13 (by decide) ?_
  refine va_put (v := .int 0) (ty := .int) (D := D) (ci := 11) (C := RX11) (T := TX11) (N := 19) hx hb hts in_X11 tyX11 tyX11_ok nmX11 hown hK hP hD hS 0 rfl rfl 13 (by decide) (hts _ kl_RX11_78) (fun _ h9 => h9) rfl (by decide +kernel) rfl rfl (Nat.le_of_ble_eq_true rfl) dX11_load_14 (fun H locs hP hD hS => ?_)
  have hP : va_P D vwCl ([(rf_MO mo mw ma mf m0 m1 mu mv u0 u1 iz (0) mb mn (0) mbg mwr mwk mlf men), (rf_RW ct 0 mb 800 b), (rf_RW ct 0 mw 958 f), (mu, .inl (ct 1, 42, .inr (.inl su))), (rf_RW ct 0 mf 958 h_4)] ++ ws_3) H := hP
  have hD : va_D A ([(rf_MO mo mw ma mf m0 m1 mu mv u0 u1 iz (0) mb mn (0) mbg mwr mwk mlf men), (rf_RW ct 0 mb 800 b), (rf_RW ct 0 mw 958 f), (mu, .inl (ct 1, 42, .inr (.inl su))), (rf_RW ct 0 mf 958 h_4)] ++ ws_3) := hD
  refine lv_aload_n hx hb dX11_load_17 rfl (lv_at hl 0 rfl) ?_
  refine lv_iconst (v := 0) hx hb dX11_load_18 (by decide) ?_
  refine va_put (v := .int 0) (ty := .int) (D := D) (ci := 11) (C := RX11) (T := TX11) (N := 19) hx hb hts in_X11 tyX11 tyX11_ok nmX11 hown hK hP hD hS 0 rfl rfl 16 (by decide) (hts _ kl_RX11_84) (fun _ h9 => h9) rfl (by decide +kernel) rfl rfl (Nat.le_of_ble_eq_true rfl) dX11_load_19 (fun H locs hP hD hS => ?_)
  have hP : va_P D vwCl ([(rf_MO mo mw ma mf m0 m1 mu mv u0 u1 iz (0) mb mn (0) mbg mwr (0) mlf men), (rf_RW ct 0 mb 800 b), (rf_RW ct 0 mw 958 f), (mu, .inl (ct 1, 42, .inr (.inl su))), (rf_RW ct 0 mf 958 h_4)] ++ ws_3) H := hP
  have hD : va_D A ([(rf_MO mo mw ma mf m0 m1 mu mv u0 u1 iz (0) mb mn (0) mbg mwr (0) mlf men), (rf_RW ct 0 mb 800 b), (rf_RW ct 0 mw 958 f), (mu, .inl (ct 1, 42, .inr (.inl su))), (rf_RW ct 0 mf 958 h_4)] ++ ws_3) := hD
  refine lv_aload_n hx hb dX11_load_22 rfl (lv_at hl 0 rfl) ?_
  obtain ⟨hP, hD⟩ := ty_opPD (E1 := [(rf_RW ct 0 mw 958 f), (mu, .inl (ct 1, 42, .inr (.inl su)))]) (E2 := [(rf_MO mo mw ma mf m0 m1 mu mv u0 u1 iz (0) mb mn (0) mbg mwr (0) mlf men), (rf_RW ct 0 mb 800 b), (rf_RW ct 0 mf 958 h_4)]) (n := 5) [2, 3, 0, 1, 4] hP hD rfl rfl (by decide +kernel) ty_mva
  refine ty_Ki hP hD hS hA (va_runV (As := []) (rest := []) ⟨hx, hb, hml, hown, hts⟩ (m_X11_readsAll l D ct S ws_3 ph xx mo mw ma mf m0 m1 mu mv u0 u1 iz mb (0 : Int32) mn mbg mwr mlf men b h_4 _ hT hph hy1 hmn hp_5.1.1 (rm_N0 hp_5.1.2.2.2) hp_5.1.2.1 hp_5.1.2.2.1) (cm_V 0 hts kc_X11_readsAll ki_RX11 kl_RX11_198 kv_X11_readsAll kx_X11_readsAll kd_X11_readsAll ⟨Nat.le_of_ble_eq_true rfl, Nat.le_of_ble_eq_true rfl⟩) (ty_preE (ci := 11) (q0 := 2) hP hK hD hS hA hX rfl rfl) rfl rfl hl.1 rfl (lv_room (Nat.le_of_ble_eq_true rfl)) dX11_load_23 ⟨Nat.le_of_ble_eq_true rfl, Nat.le_of_ble_eq_true rfl⟩) (fun r_6 u H locs hw_7 hP hD hS => ?_)
  obtain ⟨ws_8, mpt1_9, mbg1_10, mwr1_11, mwk1_12, g1_13⟩ := u
  obtain ⟨hT, hp_14⟩ := hw_7
  have hp_14 : (((0 : Int32).toInt ≤ mpt1_9.toInt ∧ mpt1_9.toInt ≤ mn.toInt) ∧ 0 ≤ mbg1_10.toInt ∧ mbg1_10.toInt ≤ mn.toInt) ∧ ((r_6 = 0 ∧ (¬ mwk1_12 = 0 ∧ rp_K b mn = mwk1_12 ∧ rp_P b mn = mwr1_11)) ∨ (r_6 = 1 ∧ mwk1_12 = 0 ∧ rp_K b mn = 0 ∧ rf_L g1_13 ∧ rp_C b mn = (g1_13 9).toInt ∧ g1_13 = rq_x b mn 802 [] 0 0 0 h_4)) := hp_14
  obtain ⟨hP, hD⟩ := ty_shPD (w2 := ([(rf_RW ct 0 mw 958 f), (mu, .inl (ct 1, 42, .inr (.inl su))), (rf_MO mo mw ma mf m0 m1 mu mv u0 u1 iz (0) mb mn mpt1_9 mbg1_10 mwr1_11 mwk1_12 mlf men), (rf_RW ct 0 mb 800 b), (rf_RW ct 0 mf 958 g1_13)] ++ ws_8)) hP hD rfl
  obtain ⟨hb_15, hc_16⟩ := hp_14
  rcases hc_16 with ⟨rfl, hz_17⟩ | ⟨rfl, hz_18⟩
  · refine lv_istore_n (lv' := [(1, .int 0), (0, .ref mo)]) hx hb dX11_load_26 rfl hl (by decide) rfl (fun ls hl => ?_)
    refine lv_aload_n hx hb dX11_load_27 rfl (lv_at hl 1 rfl) ?_
    refine lv_iconst (v := 0) hx hb dX11_load_28 (by decide) ?_
    refine va_put (v := .int 0) (ty := .int) (D := D) (ci := 11) (C := RX11) (T := TX11) (N := 19) hx hb hts in_X11 tyX11 tyX11_ok nmX11 hown hK hP hD hS 2 rfl rfl 12 (by decide) (hts _ kl_RX11_56) (fun _ h9 => h9) rfl (by decide +kernel) rfl rfl (Nat.le_of_ble_eq_true rfl) dX11_load_29 (fun H locs hP hD hS => ?_)
    have hP : va_P D vwCl ([(rf_RW ct 0 mw 958 f), (mu, .inl (ct 1, 42, .inr (.inl su))), (rf_MO mo mw ma mf m0 m1 mu mv u0 u1 iz (0) mb (0) mpt1_9 mbg1_10 mwr1_11 mwk1_12 mlf men), (rf_RW ct 0 mb 800 b), (rf_RW ct 0 mf 958 g1_13)] ++ ws_8) H := hP
    have hD : va_D A ([(rf_RW ct 0 mw 958 f), (mu, .inl (ct 1, 42, .inr (.inl su))), (rf_MO mo mw ma mf m0 m1 mu mv u0 u1 iz (0) mb (0) mpt1_9 mbg1_10 mwr1_11 mwk1_12 mlf men), (rf_RW ct 0 mb 800 b), (rf_RW ct 0 mf 958 g1_13)] ++ ws_8) := hD
    refine lv_aload_n hx hb dX11_load_32 rfl (lv_at hl 1 rfl) ?_
    refine lv_aload_n hx hb dX11_load_33 rfl (lv_at hl 1 rfl) ?_
    refine va_get (v := .int mwk1_12) (D := D) (ci := 11) (C := RX11) (T := TX11) (N := 19) hx hb hts in_X11 hown hK hP 2 rfl rfl 16 (by decide) (hts _ kl_RX11_84) (fun _ h9 => h9) rfl dX11_load_34 ?_
    refine va_put (v := .int mwk1_12) (ty := .int) (D := D) (ci := 11) (C := RX11) (T := TX11) (N := 19) hx hb hts in_X11 tyX11 tyX11_ok nmX11 hown hK hP hD hS 2 rfl rfl 17 (by decide) (hts _ kl_RX11_59) (fun _ h9 => h9) rfl (by decide +kernel) rfl rfl (Nat.le_of_ble_eq_true rfl) dX11_load_37 (fun H locs hP hD hS => ?_)
    have hP : va_P D vwCl ([(rf_RW ct 0 mw 958 f), (mu, .inl (ct 1, 42, .inr (.inl su))), (rf_MO mo mw ma mf m0 m1 mu mv u0 u1 iz (0) mb (0) mpt1_9 mbg1_10 mwr1_11 mwk1_12 mwk1_12 men), (rf_RW ct 0 mb 800 b), (rf_RW ct 0 mf 958 g1_13)] ++ ws_8) H := hP
    have hD : va_D A ([(rf_RW ct 0 mw 958 f), (mu, .inl (ct 1, 42, .inr (.inl su))), (rf_MO mo mw ma mf m0 m1 mu mv u0 u1 iz (0) mb (0) mpt1_9 mbg1_10 mwr1_11 mwk1_12 mwk1_12 men), (rf_RW ct 0 mb 800 b), (rf_RW ct 0 mf 958 g1_13)] ++ ws_8) := hD
    refine lv_iload_n hx hb dX11_load_40 rfl (lv_at hl 0 rfl) ?_
    refine lv_if_ne (tgt := 52) hx hb dX11_load_41 (by decide) (fun hc => absurd (by decide) hc) (fun _ => ?_)
    refine lv_bipush (v := (-100)) hx hb dX11_load_44 (by decide) ?_
    refine lv_aload_n hx hb dX11_load_46 rfl (lv_at hl 1 rfl) ?_
    refine va_get (v := .int mwr1_11) (D := D) (ci := 11) (C := RX11) (T := TX11) (N := 19) hx hb hts in_X11 hown hK hP 2 rfl rfl 15 (by decide) (hts _ kl_RX11_87) (fun _ h9 => h9) rfl dX11_load_47 ?_
    refine lv_isub hx hb dX11_load_50 ?_
    obtain ⟨hP, hD⟩ := ty_ordPD (E2 := [(rf_MO mo mw ma mf m0 m1 mu mv u0 u1 iz (0) mb (0) mpt1_9 mbg1_10 mwr1_11 mwk1_12 mwk1_12 men), (rf_RW ct 0 mb 800 b), (rf_RW ct 0 mf 958 g1_13), (rf_RW ct 0 mw 958 f), (mu, .inl (ct 1, 42, .inr (.inl su)))]) (n := 5) [2, 3, 4, 0, 1] hP hD rfl rfl (by decide +kernel)
    exact W.iret (v := ((-100) - mwr1_11)) hx hb hr (fun t ht hW => ⟨⟨((-100) - mwr1_11), (ws_8, mpt1_9, mbg1_10, mwr1_11, mwk1_12, mwk1_12, g1_13, f, su), rfl, ⟨hT, (rm_A1 hz_17), ⟨hz_17.2.1.symm, hE, (if_neg (by rw [hz_17.2.1]; exact hz_17.1)).symm, (fun _ => ⟨rfl, rfl⟩), (fun z => absurd z (by rw [hz_17.2.1]; exact hz_17.1))⟩⟩, by rw [ht]; exact hP, by rw [hAe]; exact hD⟩, hS.F ht⟩) hS.2.2 dX11_load_51
  · obtain ⟨hq_19, hq_20, hq_21, hq_22, hq_23⟩ := hz_18
    subst hq_19
    have hLg := hq_21
    refine lv_istore_n (lv' := [(1, .int 1), (0, .ref mo)]) hx hb dX11_load_26 rfl hl (by decide) rfl (fun ls hl => ?_)
    refine lv_aload_n hx hb dX11_load_27 rfl (lv_at hl 1 rfl) ?_
    refine lv_iconst (v := 0) hx hb dX11_load_28 (by decide) ?_
    refine va_put (v := .int 0) (ty := .int) (D := D) (ci := 11) (C := RX11) (T := TX11) (N := 19) hx hb hts in_X11 tyX11 tyX11_ok nmX11 hown hK hP hD hS 2 rfl rfl 12 (by decide) (hts _ kl_RX11_56) (fun _ h9 => h9) rfl (by decide +kernel) rfl rfl (Nat.le_of_ble_eq_true rfl) dX11_load_29 (fun H locs hP hD hS => ?_)
    have hP : va_P D vwCl ([(rf_RW ct 0 mw 958 f), (mu, .inl (ct 1, 42, .inr (.inl su))), (rf_MO mo mw ma mf m0 m1 mu mv u0 u1 iz (0) mb (0) mpt1_9 mbg1_10 mwr1_11 (0) mlf men), (rf_RW ct 0 mb 800 b), (rf_RW ct 0 mf 958 g1_13)] ++ ws_8) H := hP
    have hD : va_D A ([(rf_RW ct 0 mw 958 f), (mu, .inl (ct 1, 42, .inr (.inl su))), (rf_MO mo mw ma mf m0 m1 mu mv u0 u1 iz (0) mb (0) mpt1_9 mbg1_10 mwr1_11 (0) mlf men), (rf_RW ct 0 mb 800 b), (rf_RW ct 0 mf 958 g1_13)] ++ ws_8) := hD
    refine lv_aload_n hx hb dX11_load_32 rfl (lv_at hl 1 rfl) ?_
    refine lv_aload_n hx hb dX11_load_33 rfl (lv_at hl 1 rfl) ?_
    refine va_get (v := .int 0) (D := D) (ci := 11) (C := RX11) (T := TX11) (N := 19) hx hb hts in_X11 hown hK hP 2 rfl rfl 16 (by decide) (hts _ kl_RX11_84) (fun _ h9 => h9) rfl dX11_load_34 ?_
    refine va_put (v := .int 0) (ty := .int) (D := D) (ci := 11) (C := RX11) (T := TX11) (N := 19) hx hb hts in_X11 tyX11 tyX11_ok nmX11 hown hK hP hD hS 2 rfl rfl 17 (by decide) (hts _ kl_RX11_59) (fun _ h9 => h9) rfl (by decide +kernel) rfl rfl (Nat.le_of_ble_eq_true rfl) dX11_load_37 (fun H locs hP hD hS => ?_)
    have hP : va_P D vwCl ([(rf_RW ct 0 mw 958 f), (mu, .inl (ct 1, 42, .inr (.inl su))), (rf_MO mo mw ma mf m0 m1 mu mv u0 u1 iz (0) mb (0) mpt1_9 mbg1_10 mwr1_11 (0) (0) men), (rf_RW ct 0 mb 800 b), (rf_RW ct 0 mf 958 g1_13)] ++ ws_8) H := hP
    have hD : va_D A ([(rf_RW ct 0 mw 958 f), (mu, .inl (ct 1, 42, .inr (.inl su))), (rf_MO mo mw ma mf m0 m1 mu mv u0 u1 iz (0) mb (0) mpt1_9 mbg1_10 mwr1_11 (0) (0) men), (rf_RW ct 0 mb 800 b), (rf_RW ct 0 mf 958 g1_13)] ++ ws_8) := hD
    refine lv_iload_n hx hb dX11_load_40 rfl (lv_at hl 0 rfl) ?_
    refine lv_if_ne (tgt := 52) hx hb dX11_load_41 (by decide) (fun _ => ?_) (fun hc => absurd hc (by decide))
    refine lv_iconst (v := 0) hx hb dX11_load_52 (by decide) ?_
    refine lv_istore_n (lv' := [(2, .int 0), (1, .int 1), (0, .ref mo)]) hx hb dX11_load_53 rfl hl (by decide) rfl (fun ls hl => ?_)
    refine ty_loop (I := fun μ H locs ls => ∃ (ws : va_W) (y_24 : Int32) (g_25 : Nat → Int32), μ = (2147483648 - y_24.toInt).toNat ∧ ty_V ct S ph ws ∧ va_P D vwCl ([(rf_RW ct 0 mw 958 f), (mu, .inl (ct 1, 42, .inr (.inl su))), (rf_MO mo mw ma mf m0 m1 mu mv u0 u1 iz (0) mb (0) mpt1_9 mbg1_10 mwr1_11 (0) (0) men), (rf_RW ct 0 mb 800 b), (rf_RW ct 0 mf 958 g_25)] ++ ws) H ∧ va_D A ([(rf_RW ct 0 mw 958 f), (mu, .inl (ct 1, 42, .inr (.inl su))), (rf_MO mo mw ma mf m0 m1 mu mv u0 u1 iz (0) mb (0) mpt1_9 mbg1_10 mwr1_11 (0) (0) men), (rf_RW ct 0 mb 800 b), (rf_RW ct 0 mf 958 g_25)] ++ ws) ∧ va_S A s.heap H locs ∧ lv_has ls 3 [(0, .ref mo), (1, .int 1), (2, .int y_24)] ∧ (0 ≤ y_24.toInt ∧ y_24.toInt ≤ (g1_13 9).toInt) ∧ rf_ld g1_13 g_25 y_24.toInt.toNat ∧ g_25 = rq_ld g1_13 y_24.toInt.toNat) ⟨_, ws_8, (0 : Int32), g1_13, rfl, hT, hP, hD, hS, (lv_sub hl [2, 1, 0] rfl), ⟨by have z0 : (0 : Int32).toInt = 0 := (by decide); have := (rf_Ls hLg).1; omega, rf_ld00 _, (by rw [show (0 : Int32).toInt.toNat = 0 from by decide]; rfl)⟩⟩ (fun μ H locs ls hI ih_54 => ?_)
    obtain ⟨ws, y_24, g_25, rfl, hT, hP, hD, hS, hl, hex_54⟩ := hI
    refine lv_iload_n hx hb dX11_load_54 rfl (lv_at hl 2 rfl) ?_
    refine lv_aload_n hx hb dX11_load_55 rfl (lv_at hl 0 rfl) ?_
    refine va_get (v := .ref mf) (D := D) (ci := 11) (C := RX11) (T := TX11) (N := 19) hx hb hts in_X11 hown hK hP 2 rfl rfl 2 (by decide) (hts _ kl_RX11_16) (fun _ h9 => h9) rfl dX11_load_56 ?_
    refine lv_bipush (v := 9) hx hb dX11_load_59 (by decide) ?_
    refine va_iald hx hb hK hP 4 0 rfl rfl (cm_vin (by decide)) dX11_load_61 ?_
    refine cm_cst (y := (g_25 9)) (by first | rfl | decide +kernel) ?_
    refine lv_icmp_ge (tgt := 104) hx hb dX11_load_62 (by decide) (fun hc_26 => ?_) (fun hc_26 => ?_)
    · refine lv_aload_n hx hb dX11_load_104 rfl (lv_at hl 0 rfl) ?_
      refine va_get (v := .ref mf) (D := D) (ci := 11) (C := RX11) (T := TX11) (N := 19) hx hb hts in_X11 hown hK hP 2 rfl rfl 2 (by decide) (hts _ kl_RX11_16) (fun _ h9 => h9) rfl dX11_load_105 ?_
      refine lv_aload_n hx hb dX11_load_108 rfl (lv_at hl 0 rfl) ?_
      refine va_get (v := .ref mw) (D := D) (ci := 11) (C := RX11) (T := TX11) (N := 19) hx hb hts in_X11 hown hK hP 2 rfl rfl 0 (by decide) (hts _ kl_RX11_9) (fun _ h9 => h9) rfl dX11_load_109 ?_
      obtain ⟨hP, hD⟩ := ty_opPD (E1 := [(mu, .inl (ct 1, 42, .inr (.inl su))), (rf_MO mo mw ma mf m0 m1 mu mv u0 u1 iz (0) mb (0) mpt1_9 mbg1_10 mwr1_11 (0) (0) men), (rf_RW ct 0 mb 800 b)]) (E2 := [(rf_RW ct 0 mf 958 g_25), (rf_RW ct 0 mw 958 f)]) (n := 5) [1, 2, 3, 4, 0] hP hD rfl rfl (by decide +kernel) ty_mva
      refine ty_Kv hP hD hS hA (va_runS (As := [.ref mf, .ref mw]) (rest := []) ⟨hx, hb, hml, hown, hts⟩ (m_copies l D ct S ws ph xx mf mw g_25 f _ hT hph hy1) (cm_S 2 hts kc_X11_copies ki_RX11 kl_RX11_205 ks_X11_copies kd_X11_copies ⟨Nat.le_of_ble_eq_true rfl, Nat.le_of_ble_eq_true rfl⟩) (ty_preS hP hK hD hS hA hX) rfl rfl hl.1 rfl (lv_room (Nat.le_of_ble_eq_true rfl)) dX11_load_112 ⟨Nat.le_of_ble_eq_true rfl, Nat.le_of_ble_eq_true rfl⟩) (fun u H locs hw_28 hP hD hS => ?_)
      obtain ⟨ws_29, h_30⟩ := u
      obtain ⟨hT, hp_31⟩ := hw_28
      have hp_31 : (q_copies g_25 h_30) ∧ ∀ j : Nat, j < 958 → h_30 j = g_25 j := hp_31
      obtain ⟨hq_32, hp_33⟩ := hp_31
      obtain ⟨hP, hD⟩ := ty_shPD (w2 := ([(mu, .inl (ct 1, 42, .inr (.inl su))), (rf_MO mo mw ma mf m0 m1 mu mv u0 u1 iz (0) mb (0) mpt1_9 mbg1_10 mwr1_11 (0) (0) men), (rf_RW ct 0 mb 800 b), (rf_RW ct 0 mf 958 g_25), (rf_RW ct 0 mw 958 h_30)] ++ ws_29)) hP hD rfl
      have hld_34 : q_eq 958 (rq_ld g1_13 (g1_13 9).toInt.toNat) h_30 := (by have e9 := hex_54.2.2; have e8 := (hex_54.2.1.1 9 (by omega)); have q := hc_26; rw [e8, Int32.le_iff_toInt_le] at q; rw [show y_24.toInt.toNat = (g1_13 9).toInt.toNat from by have := hex_54.1; omega] at e9; intro j hj; rw [← e9]; exact hp_33 j hj)
      refine lv_iconst (v := 0) hx hb dX11_load_115 (by decide) ?_
      refine lv_istore_n (lv' := [(2, .int 0), (0, .ref mo), (1, .int 1)]) hx hb dX11_load_116 rfl hl (by decide) rfl (fun ls hl => ?_)
      refine ty_loop (I := fun μ H locs ls => ∃ (ws : va_W) (y_35 : Int32) (g_36 : Nat → Int64), μ = (2147483648 - y_35.toInt).toNat ∧ ty_V ct S ph ws ∧ va_P D vwCl ([(mu, .inl (ct 1, 42, .inr (.inl g_36))), (rf_MO mo mw ma mf m0 m1 mu mv u0 u1 iz (0) mb (0) mpt1_9 mbg1_10 mwr1_11 (0) (0) men), (rf_RW ct 0 mb 800 b), (rf_RW ct 0 mf 958 g_25), (rf_RW ct 0 mw 958 h_30)] ++ ws) H ∧ va_D A ([(mu, .inl (ct 1, 42, .inr (.inl g_36))), (rf_MO mo mw ma mf m0 m1 mu mv u0 u1 iz (0) mb (0) mpt1_9 mbg1_10 mwr1_11 (0) (0) men), (rf_RW ct 0 mb 800 b), (rf_RW ct 0 mf 958 g_25), (rf_RW ct 0 mw 958 h_30)] ++ ws) ∧ va_S A s.heap H locs ∧ lv_has ls 3 [(0, .ref mo), (1, .int 1), (2, .int y_35)] ∧ 0 ≤ y_35.toInt ∧ ∀ j : Nat, (j : Int) < y_35.toInt → g_36 j = 0) ⟨_, ws_29, (0 : Int32), su, rfl, hT, hP, hD, hS, (lv_sub hl [1, 2, 0] rfl), (by decide), (fun j hj => absurd hj (by have z0 : (0 : Int32).toInt = 0 := (by decide); omega))⟩ (fun μ H locs ls hI ih_117 => ?_)
      obtain ⟨ws, y_35, g_36, rfl, hT, hP, hD, hS, hl, hex_117⟩ := hI
      refine lv_iload_n hx hb dX11_load_117 rfl (lv_at hl 2 rfl) ?_
      refine lv_bipush (v := 42) hx hb dX11_load_118 (by decide) ?_
      refine lv_icmp_ge (tgt := 136) hx hb dX11_load_120 (by decide) (fun hc_37 => ?_) (fun hc_37 => ?_)
      · refine lv_aload_n hx hb dX11_load_136 rfl (lv_at hl 0 rfl) ?_
        refine va_get (v := .ref mw) (D := D) (ci := 11) (C := RX11) (T := TX11) (N := 19) hx hb hts in_X11 hown hK hP 1 rfl rfl 0 (by decide) (hts _ kl_RX11_9) (fun _ h9 => h9) rfl dX11_load_137 ?_
        refine lv_bipush (v := 9) hx hb dX11_load_140 (by decide) ?_
        refine va_iald hx hb hK hP 4 0 rfl rfl (cm_vin (by decide)) dX11_load_142 ?_
        refine cm_cst (y := (h_30 9)) (by first | rfl | decide +kernel) ?_
        obtain ⟨hP, hD⟩ := ty_ordPD (E2 := [(rf_MO mo mw ma mf m0 m1 mu mv u0 u1 iz (0) mb (0) mpt1_9 mbg1_10 mwr1_11 (0) (0) men), (rf_RW ct 0 mb 800 b), (rf_RW ct 0 mf 958 g_25), (rf_RW ct 0 mw 958 h_30), (mu, .inl (ct 1, 42, .inr (.inl g_36)))]) (n := 5) [1, 2, 3, 4, 0] hP hD rfl rfl (by decide +kernel)
        exact W.iret (v := (h_30 9)) hx hb hr (fun t ht hW => ⟨⟨(h_30 9), (ws, mpt1_9, mbg1_10, mwr1_11, (0 : Int32), (0 : Int32), g_25, h_30, g_36), rfl, ⟨hT, (rm_A0 hq_20 (hq_22.trans (congrArg Int32.toInt ((hp_33 9 (by omega)).trans (hex_54.2.1.1 9 (by omega))).symm))), ⟨hq_20.symm, ⟨_, rf_Req (rf_lde hLg hex_54.2.1 hex_54.1 hc_26) hp_33⟩, ((hp_33 8 (by omega)).trans ((hex_54.2.1.1 8 (by omega)).trans hLg.2.2.2.2.2)).trans (if_pos hq_20).symm, (fun z => absurd hq_20 z), (fun _ => ⟨_, _, hp_5.2, hq_23, hLg, hld_34, (fun j hj => hex_117.2 j (by have q := hc_37; rw [Int32.le_iff_toInt_le, show (42 : Int32).toInt = 42 from by decide] at q; omega))⟩)⟩⟩, by rw [ht]; exact hP, by rw [hAe]; exact hD⟩, hS.F ht⟩) hS.2.2 dX11_load_143
      · refine lv_aload_n hx hb dX11_load_123 rfl (lv_at hl 0 rfl) ?_
        refine va_get (v := .ref mu) (D := D) (ci := 11) (C := RX11) (T := TX11) (N := 19) hx hb hts in_X11 hown hK hP 1 rfl rfl 5 (by decide) (hts _ kl_RX11_25) (fun _ h9 => h9) rfl dX11_load_124 ?_
        refine lv_iload_n hx hb dX11_load_127 rfl (lv_at hl 2 rfl) ?_
        refine lv_lconst (v := 0) hx hb dX11_load_128 (by decide) ?_
        refine va_last hx hb hK hP hD hS 0 1 rfl rfl (cm_vin2 (by decide) (ty_nneg hex_117.1) (cm_lt hc_37)) dX11_load_129 (fun H locs hP hD hS => ?_)
        have hP : va_P D vwCl ([(mu, .inl (ct 1, 42, .inr (.inl (vp_updL g_36 y_35.toNatClampNeg 0)))), (rf_MO mo mw ma mf m0 m1 mu mv u0 u1 iz (0) mb (0) mpt1_9 mbg1_10 mwr1_11 (0) (0) men), (rf_RW ct 0 mb 800 b), (rf_RW ct 0 mf 958 g_25), (rf_RW ct 0 mw 958 h_30)] ++ ws) H := hP
        have hD : va_D A ([(mu, .inl (ct 1, 42, .inr (.inl (vp_updL g_36 y_35.toNatClampNeg 0)))), (rf_MO mo mw ma mf m0 m1 mu mv u0 u1 iz (0) mb (0) mpt1_9 mbg1_10 mwr1_11 (0) (0) men), (rf_RW ct 0 mb 800 b), (rf_RW ct 0 mf 958 g_25), (rf_RW ct 0 mw 958 h_30)] ++ ws) := hD
        generalize hg_39 : (vp_updL g_36 y_35.toNatClampNeg 0) = g_38 at hP hD
        refine lv_iinc (v := (y_35 + Int32.ofInt 1)) (lv' := [(2, .int (y_35 + Int32.ofInt 1)), (0, .ref mo), (1, .int 1)]) hx hb dX11_load_130 hl (k := 2) rfl rfl (by decide) rfl (fun ls hl => ?_)
        refine lv_goto (tgt := 117) hx hb dX11_load_133 (by decide) ?_
        exact ih_117 _ _ _ _ (ty_inc (cm_lt hc_37)) ⟨ws, (y_35 + Int32.ofInt 1), g_38, rfl, hT, hP, hD, hS, (lv_sub hl [1, 2, 0] rfl), (ty_nn hex_117.1 (cm_lt hc_37)), (by rw [← hg_39]; exact rq_lz (t := fun _ => 0) hex_117.2 (by have q := hc_37; rw [Int32.le_iff_toInt_le, show (42 : Int32).toInt = 42 from by decide] at q; have := hex_117.1; omega))⟩
    · refine lv_aload_n hx hb dX11_load_65 rfl (lv_at hl 0 rfl) ?_
      refine va_get (v := .ref mf) (D := D) (ci := 11) (C := RX11) (T := TX11) (N := 19) hx hb hts in_X11 hown hK hP 2 rfl rfl 2 (by decide) (hts _ kl_RX11_16) (fun _ h9 => h9) rfl dX11_load_66 ?_
      refine lv_sipush (v := 244) hx hb dX11_load_69 (by decide) ?_
      refine lv_bipush (v := 54) hx hb dX11_load_72 (by decide) ?_
      refine lv_iload_n hx hb dX11_load_74 rfl (lv_at hl 2 rfl) ?_
      refine lv_imul hx hb dX11_load_75 ?_
      refine lv_iadd hx hb dX11_load_76 ?_
      refine lv_aload_n hx hb dX11_load_77 rfl (lv_at hl 0 rfl) ?_
      refine va_get (v := .ref mf) (D := D) (ci := 11) (C := RX11) (T := TX11) (N := 19) hx hb hts in_X11 hown hK hP 2 rfl rfl 2 (by decide) (hts _ kl_RX11_16) (fun _ h9 => h9) rfl dX11_load_78 ?_
      refine lv_sipush (v := 244) hx hb dX11_load_81 (by decide) ?_
      refine lv_bipush (v := 54) hx hb dX11_load_84 (by decide) ?_
      refine lv_iload_n hx hb dX11_load_86 rfl (lv_at hl 2 rfl) ?_
      refine lv_imul hx hb dX11_load_87 ?_
      refine lv_iadd hx hb dX11_load_88 ?_
      refine lv_bipush (v := 12) hx hb dX11_load_89 (by decide) ?_
      refine lv_iadd hx hb dX11_load_91 ?_
      refine va_iald hx hb hK hP 4 0 rfl rfl (rf_vin (by have := hex_54.1; have := rf_ldl hex_54.2.1 hc_26; have := (rf_Ls hLg).1; have e70 := rf_ldp (c := y_24) (by omega); have e71 := rf_pk (x := (244 + (54 * y_24))) (k := 12) (K := 12) (by decide) (by omega) (by omega); omega)) dX11_load_92 ?_
      refine lv_iconst (v := 2) hx hb dX11_load_93 (by decide) ?_
      refine lv_idiv hx hb dX11_load_94 (by decide) ?_
      obtain ⟨hP, hD⟩ := ty_ipPD (E1 := [(rf_RW ct 0 mw 958 f), (mu, .inl (ct 1, 42, .inr (.inl su))), (rf_MO mo mw ma mf m0 m1 mu mv u0 u1 iz (0) mb (0) mpt1_9 mbg1_10 mwr1_11 (0) (0) men), (rf_RW ct 0 mb 800 b)]) (E2 := [(rf_RW ct 0 mf 958 g_25)]) hP hD rfl ty_mva
      refine ty_Kv hP hD hS hA (va_runS (As := [.ref mf, .int (244 + (54 * y_24)), .int ((g_25 ((244 + (54 * y_24)) + 12).toNatClampNeg) / 2)]) (rest := []) ⟨hx, hb, hml, hown, hts⟩ (m_begins l D ct S ws ph xx mf (244 + (54 * y_24)) ((g_25 ((244 + (54 * y_24)) + 12).toNatClampNeg) / 2) g_25 _ hT hph hy1 (by have := hex_54.1; have := rf_ldl hex_54.2.1 hc_26; have := (rf_Ls hLg).1; have e70 := rf_ldp (c := y_24) (by omega); omega)) (cm_S 3 hts kc_X11_begins ki_RX11 kl_RX11_201 ks_X11_begins kd_X11_begins ⟨Nat.le_of_ble_eq_true rfl, Nat.le_of_ble_eq_true rfl⟩) (ty_preS hP hK hD hS hA hX) rfl rfl hl.1 rfl (lv_room (Nat.le_of_ble_eq_true rfl)) dX11_load_95 ⟨Nat.le_of_ble_eq_true rfl, Nat.le_of_ble_eq_true rfl⟩) (fun u H locs hw_41 hP hD hS => ?_)
      obtain ⟨ws_42, h_43⟩ := u
      obtain ⟨hT, hp_44⟩ := hw_41
      have hp_44 : rf_bg g_25 h_43 (244 + (54 * y_24)).toInt.toNat ((g_25 ((244 + (54 * y_24)) + 12).toNatClampNeg) / 2) ∧ h_43 = rq_beg g_25 (244 + (54 * y_24)).toInt.toNat ((g_25 ((244 + (54 * y_24)) + 12).toNatClampNeg) / 2) := hp_44
      obtain ⟨hP, hD⟩ := ty_shPD (w2 := ([(rf_RW ct 0 mw 958 f), (mu, .inl (ct 1, 42, .inr (.inl su))), (rf_MO mo mw ma mf m0 m1 mu mv u0 u1 iz (0) mb (0) mpt1_9 mbg1_10 mwr1_11 (0) (0) men), (rf_RW ct 0 mb 800 b), (rf_RW ct 0 mf 958 h_43)] ++ ws_42)) hP hD rfl
      refine lv_iinc (v := (y_24 + Int32.ofInt 1)) (lv' := [(2, .int (y_24 + Int32.ofInt 1)), (0, .ref mo), (1, .int 1)]) hx hb dX11_load_98 hl (k := 2) rfl rfl (by decide) rfl (fun ls hl => ?_)
      refine lv_goto (tgt := 54) hx hb dX11_load_101 (by decide) ?_
      exact ih_54 _ _ _ _ (ty_inc (cm_lt hc_26)) ⟨ws_42, (y_24 + Int32.ofInt 1), h_43, rfl, hT, hP, hD, hS, (lv_sub hl [1, 2, 0] rfl), ⟨by have := hex_54.1; have := rf_ldl hex_54.2.1 hc_26; have := (rf_Ls hLg).1; have e70 := rf_ldp (c := y_24) (by omega); have := rf_oi (n := y_24) (by omega); omega, rf_ldx hLg hex_54.2.1 hex_54.1.1 (rf_ldl hex_54.2.1 hc_26) hp_44.1, rq_ldx hex_54.2.2 (by have := hex_54.1; have := rf_ldl hex_54.2.1 hc_26; have := (rf_Ls hLg).1; have e70 := rf_ldp (c := y_24) (by omega); omega) hp_44.2⟩⟩
set_option maxRecDepth 100000 in
set_option maxHeartbeats 4000000 in
theorem m_curveNamed (l : Launch) (D : va_G) (ct : Nat → ClassId) (S : ty_S) (ws : va_W) (ph : va_W → Prop) (xx : Nat → Nat → Nat → Prop) (mo : Nat) (mw : Nat) (ma : Nat) (mf : Nat) (m0 : Nat) (m1 : Nat) (mu : Nat) (mv : Nat) (u0 : Nat) (u1 : Nat) (iz : Nat) (mb : Nat) (th : Int32) (mn : Int32) (mpt : Int32) (mbg : Int32) (mwr : Int32) (mwk : Int32) (mlf : Int32) (men : Int32) (b : Nat → Int32) (f : Nat → Int32) (N : List (List Int32)) (sz : Nat) (hT : ty_V ct S ph ws) (hph : ty_C ph xx) (hy1 : ty_y1 xx) (hE : rf_E f) (hN : rm_N N f) (hmn : 0 ≤ mn.toInt ∧ mn.toInt ≤ 800) : Met l yX11_curveNamed (ws_ yX11_curveNamed cX11_curveNamed 2 (some .int)) ({ frames := 2, cells := 0, slots := 0, locals := 52 } : Room) (va_Pc [.ref mo] (cmP D ct sz ([(rf_MO mo mw ma mf m0 m1 mu mv u0 u1 iz th mb mn mpt mbg mwr mwk mlf men), (rf_RW ct 0 mb 800 b), (rf_RW ct 0 mw 958 f)] ++ ws))) (va_Qi (fun (r : Int32) (u9 : va_W) => ty_V ct S ph u9 ∧ r = rq_ix N (rm_w b 0 mn) N.length) (cmB D ([(rf_MO mo mw ma mf m0 m1 mu mv u0 u1 iz th mb mn mpt mbg mwr mwk mlf men), (rf_RW ct 0 mb 800 b), (rf_RW ct 0 mw 958 f)] ++ ws) sz (fun (u9 : va_W) => ([(rf_MO mo mw ma mf m0 m1 mu mv u0 u1 iz (0) mb (0) mpt mbg mwr mwk mlf men), (rf_RW ct 0 mb 800 b), (rf_RW ct 0 mw 958 f)] ++ u9))) (va_A ([(rf_MO mo mw ma mf m0 m1 mu mv u0 u1 iz th mb mn mpt mbg mwr mwk mlf men), (rf_RW ct 0 mb 800 b), (rf_RW ct 0 mw 958 f)] ++ ws) sz)) 0 0 (va_A ([(rf_MO mo mw ma mf m0 m1 mu mv u0 u1 iz th mb mn mpt mbg mwr mwk mlf men), (rf_RW ct 0 mb 800 b), (rf_RW ct 0 mw 958 f)] ++ ws) sz) := by
  refine Met.ofW (cc := cX11_curveNamed) (maxL := 2) (ret := (some .int)) (by decide) rfl ?_
  intro p e s m args below meth c s₁ B hml hv
  obtain ⟨rfl, hsz, hP, hK, hD0, hX⟩ := hv
  have hx := B.exec
  have hb := B.bytes
  have hr := B.returns
  have hts := ws_all (atoms_spec (ws := ws_ yX11_curveNamed cX11_curveNamed 2 (some .int)) B.pre)
  have hown : s.vm.findClass RX11 = some m.cls := findClass_of_methodNamed B.named
  have hlocks := B.notSynchronized
  subst hsz
  have hD := hD0.self (sz := s.heap.size)
  generalize hAe : va_A ([(rf_MO mo mw ma mf m0 m1 mu mv u0 u1 iz th mb mn mpt mbg mwr mwk mlf men), (rf_RW ct 0 mb 800 b), (rf_RW ct 0 mw 958 f)] ++ ws) s.heap.size = A at hD hX ⊢
  have hA : ∀ q : Nat, s.heap.size ≤ q → A q := fun q h => by rw [← hAe]; exact Or.inr h
  have hS : va_S A s.heap s.heap [] := va_S.rf
  have hl := lv_entry ([.ref mo]) (n := 2) (Nat.le_of_ble_eq_true rfl)
  rw [lg_entry_eq]
  generalize (lg_sl ([.ref mo]) ++ List.replicate (2 - (lg_sl ([.ref mo])).length) Slot.unset).toArray = ls at hl ⊢
  have hl : lv_has ls 2 [(0, .ref mo)] := hl
  refine lv_aload_n hx hb dX11_curveNamed_0 rfl (lv_at hl 0 rfl) ?_
  refine lv_iconst (v := 0) hx hb dX11_curveNamed_1 (by decide) ?_
  refine va_put (v := .int 0) (ty := .int) (D := D) (ci := 11) (C := RX11) (T := TX11) (N := 19) hx hb hts in_X11 tyX11 tyX11_ok nmX11 hown hK hP hD hS 0 rfl rfl 10 (by decide) (hts _ kl_RX11_49) (fun _ h9 => h9) rfl (by decide +kernel) rfl rfl (Nat.le_of_ble_eq_true rfl) dX11_curveNamed_2 (fun H locs hP hD hS => ?_)
  have hP : va_P D vwCl ([(rf_MO mo mw ma mf m0 m1 mu mv u0 u1 iz (0) mb mn mpt mbg mwr mwk mlf men), (rf_RW ct 0 mb 800 b), (rf_RW ct 0 mw 958 f)] ++ ws) H := hP
  have hD : va_D A ([(rf_MO mo mw ma mf m0 m1 mu mv u0 u1 iz (0) mb mn mpt mbg mwr mwk mlf men), (rf_RW ct 0 mb 800 b), (rf_RW ct 0 mw 958 f)] ++ ws) := hD
  refine lv_aload_n hx hb dX11_curveNamed_5 rfl (lv_at hl 0 rfl) ?_
  refine lv_aload_n hx hb dX11_curveNamed_6 rfl (lv_at hl 0 rfl) ?_
  refine va_get (v := .ref mw) (D := D) (ci := 11) (C := RX11) (T := TX11) (N := 19) hx hb hts in_X11 hown hK hP 0 rfl rfl 0 (by decide) (hts _ kl_RX11_9) (fun _ h9 => h9) rfl dX11_curveNamed_7 ?_
  refine lv_iconst (v := 0) hx hb dX11_curveNamed_10 (by decide) ?_
  refine lv_aload_n hx hb dX11_curveNamed_11 rfl (lv_at hl 0 rfl) ?_
  refine va_get (v := .int mn) (D := D) (ci := 11) (C := RX11) (T := TX11) (N := 19) hx hb hts in_X11 hown hK hP 0 rfl rfl 12 (by decide) (hts _ kl_RX11_56) (fun _ h9 => h9) rfl dX11_curveNamed_12 ?_
  obtain ⟨hP, hD⟩ := ty_ipPD (E1 := []) (E2 := [(rf_MO mo mw ma mf m0 m1 mu mv u0 u1 iz (0) mb mn mpt mbg mwr mwk mlf men), (rf_RW ct 0 mb 800 b), (rf_RW ct 0 mw 958 f)]) hP hD rfl ty_mva
  refine ty_Ki hP hD hS hA (va_runV (As := [.ref mw, .int 0, .int mn]) (rest := []) ⟨hx, hb, hml, hown, hts⟩ (m_named_v l D ct S ws ph xx mo mw ma mf m0 m1 mu mv u0 u1 iz mb (0 : Int32) mn mpt mbg mwr mwk mlf men b mw (0 : Int32) mn f N _ hT hph hy1 (rf_E11 hE) (by have z0 : (0 : Int32).toInt = 0 := (by decide); omega) hN) (cm_V 3 hts kc_X11_named ki_RX11 kl_RX11_129 kv_X11_named kx_X11_named kd_X11_named ⟨Nat.le_of_ble_eq_true rfl, Nat.le_of_ble_eq_true rfl⟩) (ty_preE (ci := 11) (q0 := 0) hP hK hD hS hA hX rfl rfl) rfl rfl hl.1 rfl (lv_room (Nat.le_of_ble_eq_true rfl)) dX11_curveNamed_15 ⟨Nat.le_of_ble_eq_true rfl, Nat.le_of_ble_eq_true rfl⟩) (fun r_1 u H locs hw_2 hP hD hS => ?_)
  obtain ⟨ws_3, rfl⟩ : ∃ z, z = u := ⟨_, rfl⟩
  obtain ⟨hT, hp_4⟩ := hw_2
  have hp_4 : ((r_1 = -1 ∧ ¬ (rm_w b (0 : Int32) mn) ∈ N) ∨ ((0 ≤ r_1.toInt ∧ r_1.toInt < N.length) ∧ (rm_w b (0 : Int32) mn) ∈ N)) ∧ r_1 = rq_ix N (rm_w b (0 : Int32) mn) N.length := hp_4
  obtain ⟨hP, hD⟩ := ty_shPD (w2 := ([(rf_MO mo mw ma mf m0 m1 mu mv u0 u1 iz (0) mb mn mpt mbg mwr mwk mlf men), (rf_RW ct 0 mb 800 b), (rf_RW ct 0 mw 958 f)] ++ ws_3)) hP hD rfl
  refine lv_istore_n (lv' := [(1, .int r_1), (0, .ref mo)]) hx hb dX11_curveNamed_18 rfl hl (by decide) rfl (fun ls hl => ?_)
  refine lv_aload_n hx hb dX11_curveNamed_19 rfl (lv_at hl 1 rfl) ?_
  refine lv_iconst (v := 0) hx hb dX11_curveNamed_20 (by decide) ?_
  refine va_put (v := .int 0) (ty := .int) (D := D) (ci := 11) (C := RX11) (T := TX11) (N := 19) hx hb hts in_X11 tyX11 tyX11_ok nmX11 hown hK hP hD hS 0 rfl rfl 12 (by decide) (hts _ kl_RX11_56) (fun _ h9 => h9) rfl (by decide +kernel) rfl rfl (Nat.le_of_ble_eq_true rfl) dX11_curveNamed_21 (fun H locs hP hD hS => ?_)
  have hP : va_P D vwCl ([(rf_MO mo mw ma mf m0 m1 mu mv u0 u1 iz (0) mb (0) mpt mbg mwr mwk mlf men), (rf_RW ct 0 mb 800 b), (rf_RW ct 0 mw 958 f)] ++ ws_3) H := hP
  have hD : va_D A ([(rf_MO mo mw ma mf m0 m1 mu mv u0 u1 iz (0) mb (0) mpt mbg mwr mwk mlf men), (rf_RW ct 0 mb 800 b), (rf_RW ct 0 mw 958 f)] ++ ws_3) := hD
  refine lv_iload_n hx hb dX11_curveNamed_24 rfl (lv_at hl 0 rfl) ?_
  exact W.iret (v := r_1) hx hb hr (fun t ht hW => ⟨⟨r_1, ws_3, rfl, ⟨hT, hp_4.2⟩, by rw [ht]; exact hP, by rw [hAe]; exact hD⟩, hS.F ht⟩) hS.2.2 dX11_curveNamed_25
set_option maxRecDepth 100000 in
set_option maxHeartbeats 4000000 in
theorem m_loadError_v (l : Launch) (D : va_G) (ct : Nat → ClassId) (S : ty_S) (ws : va_W) (ph : va_W → Prop) (xx : Nat → Nat → Nat → Prop) (mo : Nat) (mw : Nat) (ma : Nat) (mf : Nat) (m0 : Nat) (m1 : Nat) (mu : Nat) (mv : Nat) (u0 : Nat) (u1 : Nat) (iz : Nat) (mb : Nat) (th : Int32) (mn : Int32) (mpt : Int32) (mbg : Int32) (mwr : Int32) (mwk : Int32) (mlf : Int32) (men : Int32) (sz : Nat) (hT : ty_V ct S ph ws) (hph : ty_C ph xx) (hy1 : ty_y1 xx) : Met l yX11_loadError (ws_ yX11_loadError cX11_loadError 1 (some .int)) ({ frames := 0, cells := 0, slots := 0, locals := 0 } : Room) (va_Pc [.ref mo] (cmP D ct sz ([(rf_MO mo mw ma mf m0 m1 mu mv u0 u1 iz th mb mn mpt mbg mwr mwk mlf men)] ++ ws))) (va_Qi (fun (r : Int32) (u9 : va_W) => ty_V ct S ph u9 ∧ r = mlf) (cmB D ([(rf_MO mo mw ma mf m0 m1 mu mv u0 u1 iz th mb mn mpt mbg mwr mwk mlf men)] ++ ws) sz (fun (u9 : va_W) => ([(rf_MO mo mw ma mf m0 m1 mu mv u0 u1 iz (0) mb mn mpt mbg mwr mwk mlf men)] ++ u9))) (va_A ([(rf_MO mo mw ma mf m0 m1 mu mv u0 u1 iz th mb mn mpt mbg mwr mwk mlf men)] ++ ws) sz)) 0 0 (va_A ([(rf_MO mo mw ma mf m0 m1 mu mv u0 u1 iz th mb mn mpt mbg mwr mwk mlf men)] ++ ws) sz) := by
  refine Met.ofW (cc := cX11_loadError) (maxL := 1) (ret := (some .int)) (by decide) rfl ?_
  intro p e s m args below meth c s₁ B hml hv
  obtain ⟨rfl, hsz, hP, hK, hD0, hX⟩ := hv
  have hx := B.exec
  have hb := B.bytes
  have hr := B.returns
  have hts := ws_all (atoms_spec (ws := ws_ yX11_loadError cX11_loadError 1 (some .int)) B.pre)
  have hown : s.vm.findClass RX11 = some m.cls := findClass_of_methodNamed B.named
  have hlocks := B.notSynchronized
  subst hsz
  have hD := hD0.self (sz := s.heap.size)
  generalize hAe : va_A ([(rf_MO mo mw ma mf m0 m1 mu mv u0 u1 iz th mb mn mpt mbg mwr mwk mlf men)] ++ ws) s.heap.size = A at hD hX ⊢
  have hA : ∀ q : Nat, s.heap.size ≤ q → A q := fun q h => by rw [← hAe]; exact Or.inr h
  have hS : va_S A s.heap s.heap [] := va_S.rf
  have hl := lv_entry ([.ref mo]) (n := 1) (Nat.le_of_ble_eq_true rfl)
  rw [lg_entry_eq]
  generalize (lg_sl ([.ref mo]) ++ List.replicate (1 - (lg_sl ([.ref mo])).length) Slot.unset).toArray = ls at hl ⊢
  have hl : lv_has ls 1 [(0, .ref mo)] := hl
  refine lv_aload_n hx hb dX11_loadError_0 rfl (lv_at hl 0 rfl) ?_
  refine lv_iconst (v := 0) hx hb dX11_loadError_1 (by decide) ?_
  refine va_put (v := .int 0) (ty := .int) (D := D) (ci := 11) (C := RX11) (T := TX11) (N := 19) hx hb hts in_X11 tyX11 tyX11_ok nmX11 hown hK hP hD hS 0 rfl rfl 10 (by decide) (hts _ kl_RX11_49) (fun _ h9 => h9) rfl (by decide +kernel) rfl rfl (Nat.le_of_ble_eq_true rfl) dX11_loadError_2 (fun H locs hP hD hS => ?_)
  have hP : va_P D vwCl ([(rf_MO mo mw ma mf m0 m1 mu mv u0 u1 iz (0) mb mn mpt mbg mwr mwk mlf men)] ++ ws) H := hP
  have hD : va_D A ([(rf_MO mo mw ma mf m0 m1 mu mv u0 u1 iz (0) mb mn mpt mbg mwr mwk mlf men)] ++ ws) := hD
  refine lv_aload_n hx hb dX11_loadError_5 rfl (lv_at hl 0 rfl) ?_
  refine va_get (v := .int mlf) (D := D) (ci := 11) (C := RX11) (T := TX11) (N := 19) hx hb hts in_X11 hown hK hP 0 rfl rfl 17 (by decide) (hts _ kl_RX11_59) (fun _ h9 => h9) rfl dX11_loadError_6 ?_
  exact W.iret (v := mlf) hx hb hr (fun t ht hW => ⟨⟨mlf, ws, rfl, ⟨hT, rfl⟩, by rw [ht]; exact hP, by rw [hAe]; exact hD⟩, hS.F ht⟩) hS.2.2 dX11_loadError_9
