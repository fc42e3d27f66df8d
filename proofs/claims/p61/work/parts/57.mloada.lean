def rf_E (f : Nat → Int32) : Prop := ∃ G : Nat → Int32, rf_R G (-1) f
theorem rf_E11 {f : Nat → Int32} (h : rf_E f) : 0 ≤ (f 11).toInt ∧ (f 11).toInt ≤ 4 := by
  obtain ⟨G, hR⟩ := h
  rw [hR.2.1.2.2.2.2.2.2]
  exact hR.1.2.2.2.2.1
theorem rf_ld00 (g : Nat → Int32) : rf_ld g g (0 : Int32).toInt.toNat := by
  have z : (0 : Int32).toInt = 0 := by decide
  rw [z]
  exact rf_ld0 g
theorem rf_ldp {c : Int32} (hc : 0 ≤ c.toInt ∧ c.toInt < 6) : (244 + (54 * c)).toInt = 244 + 54 * c.toInt := rf_mk9 (by decide) (by decide) (by omega) (by omega) (by omega)
theorem rf_ldx {g h h2 : Nat → Int32} {c : Int32} (l : rf_L g) (hd : rf_ld g h c.toInt.toNat) (hc : 0 ≤ c.toInt) (hlt : c.toInt < (g 9).toInt) (b : rf_bg h h2 (244 + (54 * c)).toInt.toNat ((h ((244 + (54 * c)) + 12).toNatClampNeg) / 2)) : rf_ld g h2 (c + Int32.ofInt 1).toInt.toNat := by
  have c9 := l.1.2.2.1
  have e1 := rf_ldp (c := c) (by omega)
  have e2 : (244 + (54 * c)).toInt.toNat = 244 + 54 * c.toInt.toNat := by omega
  have e3 : ((244 + (54 * c)) + 12).toNatClampNeg = 244 + 54 * c.toInt.toNat + 12 := by
    have e := rf_pk (x := 244 + (54 * c)) (k := 12) (K := 12) (by decide) (by omega) (by omega)
    show ((244 + (54 * c)) + 12).toInt.toNat = _
    omega
  have e4 : (c + Int32.ofInt 1).toInt.toNat = c.toInt.toNat + 1 := by
    have e := rf_oi (n := c) (by omega)
    omega
  have cap := (l.1.2.2.2.2.2.2.2.2.1 c.toInt.toNat (by omega)).2.1
  rw [e2, e3, hd.1 _ (by omega)] at b
  rw [e4]
  have t : (2 : Int32).toInt = 2 := by decide
  have e5 : (g (244 + 54 * c.toInt.toNat + 12) / 2).toInt = (g (244 + 54 * c.toInt.toNat + 12)).toInt / 2 := by rw [Jvm.Kit.i32_div (by omega), t, Int.tdiv_eq_ediv_of_nonneg (by omega)]
  exact rf_ldn hd b (by rw [e5]; omega)
theorem rf_lde {g h : Nat → Int32} {c : Int32} (l : rf_L g) (hd : rf_ld g h c.toInt.toNat) (hc : 0 ≤ c.toInt ∧ c.toInt ≤ (g 9).toInt) (he : (h 9) ≤ c) : rf_R g (-1) h := by
  have e9 : h 9 = g 9 := hd.1 9 (by omega)
  rw [e9, Int32.le_iff_toInt_le] at he
  have e : c.toInt.toNat = (g 9).toInt.toNat := by omega
  rw [e] at hd
  exact rf_ldR l hd
theorem rf_ldl {g h : Nat → Int32} {n : Nat} {c : Int32} (hd : rf_ld g h n) (hl : ¬ (h 9) ≤ c) : c.toInt < (g 9).toInt := by
  have e9 : h 9 = g 9 := hd.1 9 (by omega)
  rw [e9, Int32.le_iff_toInt_le] at hl
  omega
theorem dX11_load_0 : decode cX11_load 0 = .ok (.aload_n 0, 1) := by decide +kernel
theorem dX11_load_1 : decode cX11_load 1 = .ok (.iconst 0, 1) := by decide +kernel
theorem dX11_load_2 : decode cX11_load 2 = .ok (.putfield 49, 3) := by decide +kernel
theorem dX11_load_5 : decode cX11_load 5 = .ok (.aload_n 0, 1) := by decide +kernel
theorem dX11_load_6 : decode cX11_load 6 = .ok (.getfield 16, 3) := by decide +kernel
theorem dX11_load_9 : decode cX11_load 9 = .ok (.invokestatic 45, 3) := by decide +kernel
theorem dX11_load_12 : decode cX11_load 12 = .ok (.aload_n 0, 1) := by decide +kernel
theorem dX11_load_13 : decode cX11_load 13 = .ok (.iconst 0, 1) := by decide +kernel
theorem dX11_load_14 : decode cX11_load 14 = .ok (.putfield 78, 3) := by decide +kernel
theorem dX11_load_17 : decode cX11_load 17 = .ok (.aload_n 0, 1) := by decide +kernel
theorem dX11_load_18 : decode cX11_load 18 = .ok (.iconst 0, 1) := by decide +kernel
theorem dX11_load_19 : decode cX11_load 19 = .ok (.putfield 84, 3) := by decide +kernel
theorem dX11_load_22 : decode cX11_load 22 = .ok (.aload_n 0, 1) := by decide +kernel
theorem dX11_load_23 : decode cX11_load 23 = .ok (.invokevirtual 198, 3) := by decide +kernel
theorem dX11_load_26 : decode cX11_load 26 = .ok (.istore_n 1, 1) := by decide +kernel
theorem dX11_load_27 : decode cX11_load 27 = .ok (.aload_n 0, 1) := by decide +kernel
theorem dX11_load_28 : decode cX11_load 28 = .ok (.iconst 0, 1) := by decide +kernel
theorem dX11_load_29 : decode cX11_load 29 = .ok (.putfield 56, 3) := by decide +kernel
theorem dX11_load_32 : decode cX11_load 32 = .ok (.aload_n 0, 1) := by decide +kernel
theorem dX11_load_33 : decode cX11_load 33 = .ok (.aload_n 0, 1) := by decide +kernel
theorem dX11_load_34 : decode cX11_load 34 = .ok (.getfield 84, 3) := by decide +kernel
theorem dX11_load_37 : decode cX11_load 37 = .ok (.putfield 59, 3) := by decide +kernel
theorem dX11_load_40 : decode cX11_load 40 = .ok (.iload_n 1, 1) := by decide +kernel
theorem dX11_load_41 : decode cX11_load 41 = .ok (.ifCond .ne 11, 3) := by decide +kernel
theorem dX11_load_44 : decode cX11_load 44 = .ok (.bipush (-100), 2) := by decide +kernel
theorem dX11_load_46 : decode cX11_load 46 = .ok (.aload_n 0, 1) := by decide +kernel
theorem dX11_load_47 : decode cX11_load 47 = .ok (.getfield 87, 3) := by decide +kernel
theorem dX11_load_50 : decode cX11_load 50 = .ok (.isub, 1) := by decide +kernel
theorem dX11_load_51 : decode cX11_load 51 = .ok (.ireturn, 1) := by decide +kernel
theorem dX11_load_52 : decode cX11_load 52 = .ok (.iconst 0, 1) := by decide +kernel
theorem dX11_load_53 : decode cX11_load 53 = .ok (.istore_n 2, 1) := by decide +kernel
theorem dX11_load_54 : decode cX11_load 54 = .ok (.iload_n 2, 1) := by decide +kernel
theorem dX11_load_55 : decode cX11_load 55 = .ok (.aload_n 0, 1) := by decide +kernel
theorem dX11_load_56 : decode cX11_load 56 = .ok (.getfield 16, 3) := by decide +kernel
theorem dX11_load_59 : decode cX11_load 59 = .ok (.bipush 9, 2) := by decide +kernel
theorem dX11_load_61 : decode cX11_load 61 = .ok (.iaload, 1) := by decide +kernel
theorem dX11_load_62 : decode cX11_load 62 = .ok (.if_icmp .ge 42, 3) := by decide +kernel
theorem dX11_load_65 : decode cX11_load 65 = .ok (.aload_n 0, 1) := by decide +kernel
theorem dX11_load_66 : decode cX11_load 66 = .ok (.getfield 16, 3) := by decide +kernel
theorem dX11_load_69 : decode cX11_load 69 = .ok (.sipush 244, 3) := by decide +kernel
theorem dX11_load_72 : decode cX11_load 72 = .ok (.bipush 54, 2) := by decide +kernel
theorem dX11_load_74 : decode cX11_load 74 = .ok (.iload_n 2, 1) := by decide +kernel
theorem dX11_load_75 : decode cX11_load 75 = .ok (.imul, 1) := by decide +kernel
theorem dX11_load_76 : decode cX11_load 76 = .ok (.iadd, 1) := by decide +kernel
theorem dX11_load_77 : decode cX11_load 77 = .ok (.aload_n 0, 1) := by decide +kernel
theorem dX11_load_78 : decode cX11_load 78 = .ok (.getfield 16, 3) := by decide +kernel
theorem dX11_load_81 : decode cX11_load 81 = .ok (.sipush 244, 3) := by decide +kernel
theorem dX11_load_84 : decode cX11_load 84 = .ok (.bipush 54, 2) := by decide +kernel
theorem dX11_load_86 : decode cX11_load 86 = .ok (.iload_n 2, 1) := by decide +kernel
theorem dX11_load_87 : decode cX11_load 87 = .ok (.imul, 1) := by decide +kernel
theorem dX11_load_88 : decode cX11_load 88 = .ok (.iadd, 1) := by decide +kernel
theorem dX11_load_89 : decode cX11_load 89 = .ok (.bipush 12, 2) := by decide +kernel
theorem dX11_load_91 : decode cX11_load 91 = .ok (.iadd, 1) := by decide +kernel
theorem dX11_load_92 : decode cX11_load 92 = .ok (.iaload, 1) := by decide +kernel
theorem dX11_load_93 : decode cX11_load 93 = .ok (.iconst 2, 1) := by decide +kernel
theorem dX11_load_94 : decode cX11_load 94 = .ok (.idiv, 1) := by decide +kernel
theorem dX11_load_95 : decode cX11_load 95 = .ok (.invokestatic 201, 3) := by decide +kernel
theorem dX11_load_98 : decode cX11_load 98 = .ok (.iinc 2 1, 3) := by decide +kernel
theorem dX11_load_101 : decode cX11_load 101 = .ok (.goto (-47), 3) := by decide +kernel
theorem dX11_load_104 : decode cX11_load 104 = .ok (.aload_n 0, 1) := by decide +kernel
theorem dX11_load_105 : decode cX11_load 105 = .ok (.getfield 16, 3) := by decide +kernel
theorem dX11_load_108 : decode cX11_load 108 = .ok (.aload_n 0, 1) := by decide +kernel
theorem dX11_load_109 : decode cX11_load 109 = .ok (.getfield 9, 3) := by decide +kernel
theorem dX11_load_112 : decode cX11_load 112 = .ok (.invokestatic 205, 3) := by decide +kernel
theorem dX11_load_115 : decode cX11_load 115 = .ok (.iconst 0, 1) := by decide +kernel
theorem dX11_load_116 : decode cX11_load 116 = .ok (.istore_n 2, 1) := by decide +kernel
theorem dX11_load_117 : decode cX11_load 117 = .ok (.iload_n 2, 1) := by decide +kernel
theorem dX11_load_118 : decode cX11_load 118 = .ok (.bipush 42, 2) := by decide +kernel
theorem dX11_load_120 : decode cX11_load 120 = .ok (.if_icmp .ge 16, 3) := by decide +kernel
theorem dX11_load_123 : decode cX11_load 123 = .ok (.aload_n 0, 1) := by decide +kernel
theorem dX11_load_124 : decode cX11_load 124 = .ok (.getfield 25, 3) := by decide +kernel
theorem dX11_load_127 : decode cX11_load 127 = .ok (.iload_n 2, 1) := by decide +kernel
theorem dX11_load_128 : decode cX11_load 128 = .ok (.lconst 0, 1) := by decide +kernel
theorem dX11_load_129 : decode cX11_load 129 = .ok (.lastore, 1) := by decide +kernel
theorem dX11_load_130 : decode cX11_load 130 = .ok (.iinc 2 1, 3) := by decide +kernel
theorem dX11_load_133 : decode cX11_load 133 = .ok (.goto (-16), 3) := by decide +kernel
theorem dX11_load_136 : decode cX11_load 136 = .ok (.aload_n 0, 1) := by decide +kernel
theorem dX11_load_137 : decode cX11_load 137 = .ok (.getfield 9, 3) := by decide +kernel
theorem dX11_load_140 : decode cX11_load 140 = .ok (.bipush 9, 2) := by decide +kernel
theorem dX11_load_142 : decode cX11_load 142 = .ok (.iaload, 1) := by decide +kernel
theorem dX11_load_143 : decode cX11_load 143 = .ok (.ireturn, 1) := by decide +kernel
set_option maxRecDepth 100000 in
set_option maxHeartbeats 4000000 in
theorem m_load (l : Launch) (D : va_G) (ct : Nat → ClassId) (S : ty_S) (ws : va_W) (ph : va_W → Prop) (xx : Nat → Nat → Nat → Prop) (mo : Nat) (mw : Nat) (ma : Nat) (mf : Nat) (m0 : Nat) (m1 : Nat) (mu : Nat) (mv : Nat) (u0 : Nat) (u1 : Nat) (iz : Nat) (mb : Nat) (th : Int32) (mn : Int32) (mpt : Int32) (mbg : Int32) (mwr : Int32) (mwk : Int32) (mlf : Int32) (men : Int32) (b : Nat → Int32) (g : Nat → Int32) (f : Nat → Int32) (sz : Nat) (hT : ty_V ct S ph ws) (h_mu : S mu = some (.inr (1, 42))) (h_mv : S mv = some (.inr (1, 42))) (h_u0 : S u0 = some (.inr (1, 42))) (h_u1 : S u1 = some (.inr (1, 42))) (hph : ty_C ph xx) (hy1 : ty_y1 xx) (hy11 : ty_y0 xx 11) (hE : rf_E f) (hmn : 0 ≤ mn.toInt ∧ mn.toInt ≤ 800) : Met l yX11_load (ws_ yX11_load cX11_load 3 (some .int)) ({ frames := 9, cells := 0, slots := 0, locals := 195 } : Room) (va_Pc [.ref mo] (cmP D ct sz ([(rf_MO mo mw ma mf m0 m1 mu mv u0 u1 iz th mb mn mpt mbg mwr mwk mlf men), (rf_RW ct 0 mb 800 b), (rf_RW ct 0 mf 958 g), (rf_RW ct 0 mw 958 f)] ++ ws))) (va_Qi (fun (r : Int32) (u : va_W × Int32 × Int32 × Int32 × Int32 × Int32 × (Nat → Int32) × (Nat → Int32)) => match u with | (u9, mpt1, mbg1, mwr1, mwk1, mlf1, g1, f1) => ty_V ct S ph u9 ∧ r = (rp_A b mn) ∧ mlf1 = rp_K b mn ∧ rf_E f1 ∧ f1 8 = rp_lt b mn (f 8)) (cmB D ([(rf_MO mo mw ma mf m0 m1 mu mv u0 u1 iz th mb mn mpt mbg mwr mwk mlf men), (rf_RW ct 0 mb 800 b), (rf_RW ct 0 mf 958 g), (rf_RW ct 0 mw 958 f)] ++ ws) sz (fun (u : va_W × Int32 × Int32 × Int32 × Int32 × Int32 × (Nat → Int32) × (Nat → Int32)) => match u with | (u9, mpt1, mbg1, mwr1, mwk1, mlf1, g1, f1) => ([(rf_MO mo mw ma mf m0 m1 mu mv u0 u1 iz (0) mb (0) mpt1 mbg1 mwr1 mwk1 mlf1 men), (rf_RW ct 0 mb 800 b), (rf_RW ct 0 mf 958 g1), (rf_RW ct 0 mw 958 f1)] ++ u9))) (va_A ([(rf_MO mo mw ma mf m0 m1 mu mv u0 u1 iz th mb mn mpt mbg mwr mwk mlf men), (rf_RW ct 0 mb 800 b), (rf_RW ct 0 mf 958 g), (rf_RW ct 0 mw 958 f)] ++ ws) sz)) 0 0 (va_A ([(rf_MO mo mw ma mf m0 m1 mu mv u0 u1 iz th mb mn mpt mbg mwr mwk mlf men), (rf_RW ct 0 mb 800 b), (rf_RW ct 0 mf 958 g), (rf_RW ct 0 mw 958 f)] ++ ws) sz) := by
  refine Met.ofW (cc := cX11_load) (maxL := 3) (ret := (some .int)) (by decide) rfl ?_
  intro p e s m args below meth c s₁ B hml hv
  obtain ⟨rfl, hsz, hP, hK, hD0, hX⟩ := hv
  have hx := B.exec
  have hb := B.bytes
  have hr := B.returns
  have hts := ws_all (atoms_spec (ws := ws_ yX11_load cX11_load 3 (some .int)) B.pre)
  have hown : s.vm.findClass RX11 = some m.cls := findClass_of_methodNamed B.named
  have hlocks := B.notSynchronized
  subst hsz
  have hD := hD0.self (sz := s.heap.size)
  generalize hAe : va_A ([(rf_MO mo mw ma mf m0 m1 mu mv u0 u1 iz th mb mn mpt mbg mwr mwk mlf men), (rf_RW ct 0 mb 800 b), (rf_RW ct 0 mf 958 g), (rf_RW ct 0 mw 958 f)] ++ ws) s.heap.size = A at hD hX ⊢
  have hA : ∀ q : Nat, s.heap.size ≤ q → A q := fun q h => by rw [← hAe]; exact Or.inr h
  have hS : va_S A s.heap s.heap [] := va_S.rf
  have hl := lv_entry ([.ref mo]) (n := 3) (Nat.le_of_ble_eq_true rfl)
  rw [lg_entry_eq]
  generalize (lg_sl ([.ref mo]) ++ List.replicate (3 - (lg_sl ([.ref mo])).length) Slot.unset).toArray = ls at hl ⊢
  have hl : lv_has ls 3 [(0, .ref mo)] := hl
  refine lv_aload_n hx hb dX11_load_0 rfl (lv_at hl 0 rfl) ?_
  refine lv_iconst (v := 0) hx hb dX11_load_1 (by decide) ?_
  refine va_put (v := .int 0) (ty := .int) (D := D) (ci := 11) (C := RX11) (T := TX11) (N := 19) hx hb hts in_X11 tyX11 tyX11_ok nmX11 hown hK hP hD hS 0 rfl rfl 10 (by decide) (hts _ kl_RX11_49) (fun _ h9 => h9) rfl (by decide +kernel) rfl rfl (Nat.le_of_ble_eq_true rfl) dX11_load_2 (fun H locs hP hD hS => ?_)
  have hP : va_P D vwCl ([(rf_MO mo mw ma mf m0 m1 mu mv u0 u1 iz (0) mb mn mpt mbg mwr mwk mlf men), (rf_RW ct 0 mb 800 b), (rf_RW ct 0 mf 958 g), (rf_RW ct 0 mw 958 f)] ++ ws) H := hP
  have hD : va_D A ([(rf_MO mo mw ma mf m0 m1 mu mv u0 u1 iz (0) mb mn mpt mbg mwr mwk mlf men), (rf_RW ct 0 mb 800 b), (rf_RW ct 0 mf 958 g), (rf_RW ct 0 mw 958 f)] ++ ws) := hD
  refine lv_aload_n hx hb dX11_load_5 rfl (lv_at hl 0 rfl) ?_
  refine va_get (v := .ref mf) (D := D) (ci := 11) (C := RX11) (T := TX11) (N := 19) hx hb hts in_X11 hown hK hP 0 rfl rfl 2 (by decide) (hts _ kl_RX11_16) (fun _ h9 => h9) rfl dX11_load_6 ?_
  have hP : va_P D vwCl ([(rf_MO mo mw ma mf m0 m1 mu mv u0 u1 iz (0) mb mn mpt mbg mwr mwk mlf men), (rf_RW ct 0 mb 800 b), (rf_RW ct 0 mw 958 f), (rf_RW ct 0 mf 958 g)] ++ ws) H := ty_permP hP (ty_ordp (E := [(rf_MO mo mw ma mf m0 m1 mu mv u0 u1 iz (0) mb mn mpt mbg mwr mwk mlf men), (rf_RW ct 0 mb 800 b), (rf_RW ct 0 mf 958 g), (rf_RW ct 0 mw 958 f)]) (E2 := [(rf_MO mo mw ma mf m0 m1 mu mv u0 u1 iz (0) mb mn mpt mbg mwr mwk mlf men), (rf_RW ct 0 mb 800 b), (rf_RW ct 0 mw 958 f), (rf_RW ct 0 mf 958 g)]) (n := 4) [0, 1, 3, 2] rfl rfl (by decide))
  have hD : va_D A ([(rf_MO mo mw ma mf m0 m1 mu mv u0 u1 iz (0) mb mn mpt mbg mwr mwk mlf men), (rf_RW ct 0 mb 800 b), (rf_RW ct 0 mw 958 f), (rf_RW ct 0 mf 958 g)] ++ ws) := ty_permD hD (ty_ordp (E := [(rf_MO mo mw ma mf m0 m1 mu mv u0 u1 iz (0) mb mn mpt mbg mwr mwk mlf men), (rf_RW ct 0 mb 800 b), (rf_RW ct 0 mf 958 g), (rf_RW ct 0 mw 958 f)]) (E2 := [(rf_MO mo mw ma mf m0 m1 mu mv u0 u1 iz (0) mb mn mpt mbg mwr mwk mlf men), (rf_RW ct 0 mb 800 b), (rf_RW ct 0 mw 958 f), (rf_RW ct 0 mf 958 g)]) (n := 4) [0, 1, 3, 2] rfl rfl (by decide))
  refine ty_kv (wr := [(rf_MO mo mw ma mf m0 m1 mu mv u0 u1 iz (0) mb mn mpt mbg mwr mwk mlf men), (rf_RW ct 0 mb 800 b), (rf_RW ct 0 mw 958 f)]) (wc := ([(rf_RW ct 0 mf 958 g)] ++ ws)) (va_runS (As := [.ref mf]) (rest := []) ⟨hx, hb, hml, hown, hts⟩ (m_starts l D ct S ws ph xx mf g _ hT hph hy1) (cm_S 1 hts kc_X11_starts ki_RX11 kl_RX11_45 ks_X11_starts kd_X11_starts ⟨Nat.le_of_ble_eq_true rfl, Nat.le_of_ble_eq_true rfl⟩) (ty_preS (wr := [(rf_MO mo mw ma mf m0 m1 mu mv u0 u1 iz (0) mb mn mpt mbg mwr mwk mlf men), (rf_RW ct 0 mb 800 b), (rf_RW ct 0 mw 958 f)]) (wc := ([(rf_RW ct 0 mf 958 g)] ++ ws)) hP hK hD hS hA hX) rfl rfl hl.1 rfl (lv_room (Nat.le_of_ble_eq_true rfl)) dX11_load_9 ⟨Nat.le_of_ble_eq_true rfl, Nat.le_of_ble_eq_true rfl⟩) hP hD hS hA (fun u H locs hw_2 hP hD hS => ?_)
  obtain ⟨ws_3, h_4⟩ := u
  obtain ⟨hT, hp_5⟩ := hw_2
  have hp_5 : rf_L h_4 ∧ h_4 9 = 0 ∧ h_4 10 = 0 ∧ h_4 11 = 0 := hp_5
  have hP : va_P D vwCl ([(rf_MO mo mw ma mf m0 m1 mu mv u0 u1 iz (0) mb mn mpt mbg mwr mwk mlf men), (rf_RW ct 0 mb 800 b), (rf_RW ct 0 mw 958 f), (rf_RW ct 0 mf 958 h_4)] ++ ws_3) H := hP
  have hD : va_D A ([(rf_MO mo mw ma mf m0 m1 mu mv u0 u1 iz (0) mb mn mpt mbg mwr mwk mlf men), (rf_RW ct 0 mb 800 b), (rf_RW ct 0 mw 958 f), (rf_RW ct 0 mf 958 h_4)] ++ ws_3) := hD
  refine lv_aload_n hx hb dX11_load_12 rfl (lv_at hl 0 rfl) ?_
  refine lv_iconst (v := 0) hx hb dX11_load_13 (by decide) ?_
  refine va_put (v := .int 0) (ty := .int) (D := D) (ci := 11) (C := RX11) (T := TX11) (N := 19) hx hb hts in_X11 tyX11 tyX11_ok nmX11 hown hK hP hD hS 0 rfl rfl 13 (by decide) (hts _ kl_RX11_78) (fun _ h9 => h9) rfl (by decide +kernel) rfl rfl (Nat.le_of_ble_eq_true rfl) dX11_load_14 (fun H locs hP hD hS => ?_)
  have hP : va_P D vwCl ([(rf_MO mo mw ma mf m0 m1 mu mv u0 u1 iz (0) mb mn (0) mbg mwr mwk mlf men), (rf_RW ct 0 mb 800 b), (rf_RW ct 0 mw 958 f), (rf_RW ct 0 mf 958 h_4)] ++ ws_3) H := hP
  have hD : va_D A ([(rf_MO mo mw ma mf m0 m1 mu mv u0 u1 iz (0) mb mn (0) mbg mwr mwk mlf men), (rf_RW ct 0 mb 800 b), (rf_RW ct 0 mw 958 f), (rf_RW ct 0 mf 958 h_4)] ++ ws_3) := hD
  refine lv_aload_n hx hb dX11_load_17 rfl (lv_at hl 0 rfl) ?_
  refine lv_iconst (v := 0) hx hb dX11_load_18 (by decide) ?_
  refine va_put (v := .int 0) (ty := .int) (D := D) (ci := 11) (C := RX11) (T := TX11) (N := 19) hx hb hts in_X11 tyX11 tyX11_ok nmX11 hown hK hP hD hS 0 rfl rfl 16 (by decide) (hts _ kl_RX11_84) (fun _ h9 => h9) rfl (by decide +kernel) rfl rfl (Nat.le_of_ble_eq_true rfl) dX11_load_19 (fun H locs hP hD hS => ?_)
  have hP : va_P D vwCl ([(rf_MO mo mw ma mf m0 m1 mu mv u0 u1 iz (0) mb mn (0) mbg mwr (0) mlf men), (rf_RW ct 0 mb 800 b), (rf_RW ct 0 mw 958 f), (rf_RW ct 0 mf 958 h_4)] ++ ws_3) H := hP
  have hD : va_D A ([(rf_MO mo mw ma mf m0 m1 mu mv u0 u1 iz (0) mb mn (0) mbg mwr (0) mlf men), (rf_RW ct 0 mb 800 b), (rf_RW ct 0 mw 958 f), (rf_RW ct 0 mf 958 h_4)] ++ ws_3) := hD
  refine lv_aload_n hx hb dX11_load_22 rfl (lv_at hl 0 rfl) ?_
  have hP : va_P D vwCl ([(rf_RW ct 0 mw 958 f), (rf_MO mo mw ma mf m0 m1 mu mv u0 u1 iz (0) mb mn (0) mbg mwr (0) mlf men), (rf_RW ct 0 mb 800 b), (rf_RW ct 0 mf 958 h_4)] ++ ws_3) H := ty_permP hP (ty_ordp (E := [(rf_MO mo mw ma mf m0 m1 mu mv u0 u1 iz (0) mb mn (0) mbg mwr (0) mlf men), (rf_RW ct 0 mb 800 b), (rf_RW ct 0 mw 958 f), (rf_RW ct 0 mf 958 h_4)]) (E2 := [(rf_RW ct 0 mw 958 f), (rf_MO mo mw ma mf m0 m1 mu mv u0 u1 iz (0) mb mn (0) mbg mwr (0) mlf men), (rf_RW ct 0 mb 800 b), (rf_RW ct 0 mf 958 h_4)]) (n := 4) [2, 0, 1, 3] rfl rfl (by decide))
  have hD : va_D A ([(rf_RW ct 0 mw 958 f), (rf_MO mo mw ma mf m0 m1 mu mv u0 u1 iz (0) mb mn (0) mbg mwr (0) mlf men), (rf_RW ct 0 mb 800 b), (rf_RW ct 0 mf 958 h_4)] ++ ws_3) := ty_permD hD (ty_ordp (E := [(rf_MO mo mw ma mf m0 m1 mu mv u0 u1 iz (0) mb mn (0) mbg mwr (0) mlf men), (rf_RW ct 0 mb 800 b), (rf_RW ct 0 mw 958 f), (rf_RW ct 0 mf 958 h_4)]) (E2 := [(rf_RW ct 0 mw 958 f), (rf_MO mo mw ma mf m0 m1 mu mv u0 u1 iz (0) mb mn (0) mbg mwr (0) mlf men), (rf_RW ct 0 mb 800 b), (rf_RW ct 0 mf 958 h_4)]) (n := 4) [2, 0, 1, 3] rfl rfl (by decide))
  refine ty_ki (wr := [(rf_RW ct 0 mw 958 f)]) (wc := ([(rf_MO mo mw ma mf m0 m1 mu mv u0 u1 iz (0) mb mn (0) mbg mwr (0) mlf men), (rf_RW ct 0 mb 800 b), (rf_RW ct 0 mf 958 h_4)] ++ ws_3)) (va_runV (As := []) (rest := []) ⟨hx, hb, hml, hown, hts⟩ (m_X11_readsAll l D ct S ws_3 ph xx mo mw ma mf m0 m1 mu mv u0 u1 iz mb (0 : Int32) mn mbg mwr mlf men b h_4 _ hT hph hy1 hmn hp_5.1 (rm_N0 hp_5.2.2.2) hp_5.2.1 hp_5.2.2.1) (cm_V 0 hts kc_X11_readsAll ki_RX11 kl_RX11_198 kv_X11_readsAll kx_X11_readsAll kd_X11_readsAll ⟨Nat.le_of_ble_eq_true rfl, Nat.le_of_ble_eq_true rfl⟩) (ty_preE (wr := [(rf_RW ct 0 mw 958 f)]) (wc := ([(rf_MO mo mw ma mf m0 m1 mu mv u0 u1 iz (0) mb mn (0) mbg mwr (0) mlf men), (rf_RW ct 0 mb 800 b), (rf_RW ct 0 mf 958 h_4)] ++ ws_3)) (ci := 11) (q0 := 1) hP hK hD hS hA hX rfl rfl) rfl rfl hl.1 rfl (lv_room (Nat.le_of_ble_eq_true rfl)) dX11_load_23 ⟨Nat.le_of_ble_eq_true rfl, Nat.le_of_ble_eq_true rfl⟩) hP hD hS hA (fun r_6 u H locs hw_7 hP hD hS => ?_)
  obtain ⟨ws_8, mpt1_9, mbg1_10, mwr1_11, mwk1_12, g1_13⟩ := u
  obtain ⟨hT, hp_14⟩ := hw_7
  have hp_14 : (((0 : Int32).toInt ≤ mpt1_9.toInt ∧ mpt1_9.toInt ≤ mn.toInt) ∧ 0 ≤ mbg1_10.toInt ∧ mbg1_10.toInt ≤ mn.toInt) ∧ ((r_6 = 0 ∧ (¬ mwk1_12 = 0 ∧ rp_K b mn = mwk1_12 ∧ rp_P b mn = mwr1_11)) ∨ (r_6 = 1 ∧ mwk1_12 = 0 ∧ rp_K b mn = 0 ∧ rf_L g1_13 ∧ rp_C b mn = (g1_13 9).toInt)) := hp_14
  have hP : va_P D vwCl ([(rf_RW ct 0 mw 958 f), (rf_MO mo mw ma mf m0 m1 mu mv u0 u1 iz (0) mb mn mpt1_9 mbg1_10 mwr1_11 mwk1_12 mlf men), (rf_RW ct 0 mb 800 b), (rf_RW ct 0 mf 958 g1_13)] ++ ws_8) H := hP
  have hD : va_D A ([(rf_RW ct 0 mw 958 f), (rf_MO mo mw ma mf m0 m1 mu mv u0 u1 iz (0) mb mn mpt1_9 mbg1_10 mwr1_11 mwk1_12 mlf men), (rf_RW ct 0 mb 800 b), (rf_RW ct 0 mf 958 g1_13)] ++ ws_8) := hD
  obtain ⟨hb_15, hc_16⟩ := hp_14
  rcases hc_16 with ⟨rfl, hz_17⟩ | ⟨rfl, hz_18⟩
  · refine lv_istore_n (lv' := [(1, .int 0), (0, .ref mo)]) hx hb dX11_load_26 rfl hl (by decide) rfl (fun ls hl => ?_)
    refine lv_aload_n hx hb dX11_load_27 rfl (lv_at hl 1 rfl) ?_
    refine lv_iconst (v := 0) hx hb dX11_load_28 (by decide) ?_
    refine va_put (v := .int 0) (ty := .int) (D := D) (ci := 11) (C := RX11) (T := TX11) (N := 19) hx hb hts in_X11 tyX11 tyX11_ok nmX11 hown hK hP hD hS 1 rfl rfl 12 (by decide) (hts _ kl_RX11_56) (fun _ h9 => h9) rfl (by decide +kernel) rfl rfl (Nat.le_of_ble_eq_true rfl) dX11_load_29 (fun H locs hP hD hS => ?_)
    have hP : va_P D vwCl ([(rf_RW ct 0 mw 958 f), (rf_MO mo mw ma mf m0 m1 mu mv u0 u1 iz (0) mb (0) mpt1_9 mbg1_10 mwr1_11 mwk1_12 mlf men), (rf_RW ct 0 mb 800 b), (rf_RW ct 0 mf 958 g1_13)] ++ ws_8) H := hP
    have hD : va_D A ([(rf_RW ct 0 mw 958 f), (rf_MO mo mw ma mf m0 m1 mu mv u0 u1 iz (0) mb (0) mpt1_9 mbg1_10 mwr1_11 mwk1_12 mlf men), (rf_RW ct 0 mb 800 b), (rf_RW ct 0 mf 958 g1_13)] ++ ws_8) := hD
    refine lv_aload_n hx hb dX11_load_32 rfl (lv_at hl 1 rfl) ?_
    refine lv_aload_n hx hb dX11_load_33 rfl (lv_at hl 1 rfl) ?_
    refine va_get (v := .int mwk1_12) (D := D) (ci := 11) (C := RX11) (T := TX11) (N := 19) hx hb hts in_X11 hown hK hP 1 rfl rfl 16 (by decide) (hts _ kl_RX11_84) (fun _ h9 => h9) rfl dX11_load_34 ?_
    refine va_put (v := .int mwk1_12) (ty := .int) (D := D) (ci := 11) (C := RX11) (T := TX11) (N := 19) hx hb hts in_X11 tyX11 tyX11_ok nmX11 hown hK hP hD hS 1 rfl rfl 17 (by decide) (hts _ kl_RX11_59) (fun _ h9 => h9) rfl (by decide +kernel) rfl rfl (Nat.le_of_ble_eq_true rfl) dX11_load_37 (fun H locs hP hD hS => ?_)
    have hP : va_P D vwCl ([(rf_RW ct 0 mw 958 f), (rf_MO mo mw ma mf m0 m1 mu mv u0 u1 iz (0) mb (0) mpt1_9 mbg1_10 mwr1_11 mwk1_12 mwk1_12 men), (rf_RW ct 0 mb 800 b), (rf_RW ct 0 mf 958 g1_13)] ++ ws_8) H := hP
    have hD : va_D A ([(rf_RW ct 0 mw 958 f), (rf_MO mo mw ma mf m0 m1 mu mv u0 u1 iz (0) mb (0) mpt1_9 mbg1_10 mwr1_11 mwk1_12 mwk1_12 men), (rf_RW ct 0 mb 800 b), (rf_RW ct 0 mf 958 g1_13)] ++ ws_8) := hD
    refine lv_iload_n hx hb dX11_load_40 rfl (lv_at hl 0 rfl) ?_
    refine lv_if_ne (tgt := 52) hx hb dX11_load_41 (by decide) (fun hc => absurd (by decide) hc) (fun _ => ?_)
    refine lv_bipush (v := (-100)) hx hb dX11_load_44 (by decide) ?_
    refine lv_aload_n hx hb dX11_load_46 rfl (lv_at hl 1 rfl) ?_
    refine va_get (v := .int mwr1_11) (D := D) (ci := 11) (C := RX11) (T := TX11) (N := 19) hx hb hts in_X11 hown hK hP 1 rfl rfl 15 (by decide) (hts _ kl_RX11_87) (fun _ h9 => h9) rfl dX11_load_47 ?_
    refine lv_isub hx hb dX11_load_50 ?_
    have hP : va_P D vwCl ([(rf_MO mo mw ma mf m0 m1 mu mv u0 u1 iz (0) mb (0) mpt1_9 mbg1_10 mwr1_11 mwk1_12 mwk1_12 men), (rf_RW ct 0 mb 800 b), (rf_RW ct 0 mf 958 g1_13), (rf_RW ct 0 mw 958 f)] ++ ws_8) H := ty_permP hP (ty_ordp (E := [(rf_RW ct 0 mw 958 f), (rf_MO mo mw ma mf m0 m1 mu mv u0 u1 iz (0) mb (0) mpt1_9 mbg1_10 mwr1_11 mwk1_12 mwk1_12 men), (rf_RW ct 0 mb 800 b), (rf_RW ct 0 mf 958 g1_13)]) (E2 := [(rf_MO mo mw ma mf m0 m1 mu mv u0 u1 iz (0) mb (0) mpt1_9 mbg1_10 mwr1_11 mwk1_12 mwk1_12 men), (rf_RW ct 0 mb 800 b), (rf_RW ct 0 mf 958 g1_13), (rf_RW ct 0 mw 958 f)]) (n := 4) [1, 2, 3, 0] rfl rfl (by decide))
    have hD : va_D A ([(rf_MO mo mw ma mf m0 m1 mu mv u0 u1 iz (0) mb (0) mpt1_9 mbg1_10 mwr1_11 mwk1_12 mwk1_12 men), (rf_RW ct 0 mb 800 b), (rf_RW ct 0 mf 958 g1_13), (rf_RW ct 0 mw 958 f)] ++ ws_8) := ty_permD hD (ty_ordp (E := [(rf_RW ct 0 mw 958 f), (rf_MO mo mw ma mf m0 m1 mu mv u0 u1 iz (0) mb (0) mpt1_9 mbg1_10 mwr1_11 mwk1_12 mwk1_12 men), (rf_RW ct 0 mb 800 b), (rf_RW ct 0 mf 958 g1_13)]) (E2 := [(rf_MO mo mw ma mf m0 m1 mu mv u0 u1 iz (0) mb (0) mpt1_9 mbg1_10 mwr1_11 mwk1_12 mwk1_12 men), (rf_RW ct 0 mb 800 b), (rf_RW ct 0 mf 958 g1_13), (rf_RW ct 0 mw 958 f)]) (n := 4) [1, 2, 3, 0] rfl rfl (by decide))
    exact W.iret (v := ((-100) - mwr1_11)) hx hb hr (fun t ht hW => ⟨⟨((-100) - mwr1_11), (ws_8, mpt1_9, mbg1_10, mwr1_11, mwk1_12, mwk1_12, g1_13, f), rfl, ⟨hT, (rm_A1 hz_17), ⟨hz_17.2.1.symm, hE, (if_neg (by rw [hz_17.2.1]; exact hz_17.1)).symm⟩⟩, by rw [ht]; exact hP, by rw [hAe]; exact hD⟩, hS.F ht⟩) hS.2.2 dX11_load_51
  · obtain ⟨hq_19, hq_20, hq_21, hq_22⟩ := hz_18
    subst hq_19
    have hLg := hq_21
    refine lv_istore_n (lv' := [(1, .int 1), (0, .ref mo)]) hx hb dX11_load_26 rfl hl (by decide) rfl (fun ls hl => ?_)
    refine lv_aload_n hx hb dX11_load_27 rfl (lv_at hl 1 rfl) ?_
    refine lv_iconst (v := 0) hx hb dX11_load_28 (by decide) ?_
    refine va_put (v := .int 0) (ty := .int) (D := D) (ci := 11) (C := RX11) (T := TX11) (N := 19) hx hb hts in_X11 tyX11 tyX11_ok nmX11 hown hK hP hD hS 1 rfl rfl 12 (by decide) (hts _ kl_RX11_56) (fun _ h9 => h9) rfl (by decide +kernel) rfl rfl (Nat.le_of_ble_eq_true rfl) dX11_load_29 (fun H locs hP hD hS => ?_)
    have hP : va_P D vwCl ([(rf_RW ct 0 mw 958 f), (rf_MO mo mw ma mf m0 m1 mu mv u0 u1 iz (0) mb (0) mpt1_9 mbg1_10 mwr1_11 (0) mlf men), (rf_RW ct 0 mb 800 b), (rf_RW ct 0 mf 958 g1_13)] ++ ws_8) H := hP
    have hD : va_D A ([(rf_RW ct 0 mw 958 f), (rf_MO mo mw ma mf m0 m1 mu mv u0 u1 iz (0) mb (0) mpt1_9 mbg1_10 mwr1_11 (0) mlf men), (rf_RW ct 0 mb 800 b), (rf_RW ct 0 mf 958 g1_13)] ++ ws_8) := hD
    refine lv_aload_n hx hb dX11_load_32 rfl (lv_at hl 1 rfl) ?_
    refine lv_aload_n hx hb dX11_load_33 rfl (lv_at hl 1 rfl) ?_
    refine va_get (v := .int 0) (D := D) (ci := 11) (C := RX11) (T := TX11) (N := 19) hx hb hts in_X11 hown hK hP 1 rfl rfl 16 (by decide) (hts _ kl_RX11_84) (fun _ h9 => h9) rfl dX11_load_34 ?_
    refine va_put (v := .int 0) (ty := .int) (D := D) (ci := 11) (C := RX11) (T := TX11) (N := 19) hx hb hts in_X11 tyX11 tyX11_ok nmX11 hown hK hP hD hS 1 rfl rfl 17 (by decide) (hts _ kl_RX11_59) (fun _ h9 => h9) rfl (by decide +kernel) rfl rfl (Nat.le_of_ble_eq_true rfl) dX11_load_37 (fun H locs hP hD hS => ?_)
    have hP : va_P D vwCl ([(rf_RW ct 0 mw 958 f), (rf_MO mo mw ma mf m0 m1 mu mv u0 u1 iz (0) mb (0) mpt1_9 mbg1_10 mwr1_11 (0) (0) men), (rf_RW ct 0 mb 800 b), (rf_RW ct 0 mf 958 g1_13)] ++ ws_8) H := hP
    have hD : va_D A ([(rf_RW ct 0 mw 958 f), (rf_MO mo mw ma mf m0 m1 mu mv u0 u1 iz (0) mb (0) mpt1_9 mbg1_10 mwr1_11 (0) (0) men), (rf_RW ct 0 mb 800 b), (rf_RW ct 0 mf 958 g1_13)] ++ ws_8) := hD
    refine lv_iload_n hx hb dX11_load_40 rfl (lv_at hl 0 rfl) ?_
    refine lv_if_ne (tgt := 52) hx hb dX11_load_41 (by decide) (fun _ => ?_) (fun hc => absurd hc (by decide))
    refine lv_iconst (v := 0) hx hb dX11_load_52 (by decide) ?_
    refine lv_istore_n (lv' := [(2, .int 0), (1, .int 1), (0, .ref mo)]) hx hb dX11_load_53 rfl hl (by decide) rfl (fun ls hl => ?_)
    refine ty_loop (I := fun μ H locs ls => ∃ (ws : va_W) (y_23 : Int32) (g_24 : Nat → Int32), μ = (2147483648 - y_23.toInt).toNat ∧ ty_V ct S ph ws ∧ va_P D vwCl ([(rf_RW ct 0 mw 958 f), (rf_MO mo mw ma mf m0 m1 mu mv u0 u1 iz (0) mb (0) mpt1_9 mbg1_10 mwr1_11 (0) (0) men), (rf_RW ct 0 mb 800 b), (rf_RW ct 0 mf 958 g_24)] ++ ws) H ∧ va_D A ([(rf_RW ct 0 mw 958 f), (rf_MO mo mw ma mf m0 m1 mu mv u0 u1 iz (0) mb (0) mpt1_9 mbg1_10 mwr1_11 (0) (0) men), (rf_RW ct 0 mb 800 b), (rf_RW ct 0 mf 958 g_24)] ++ ws) ∧ va_S A s.heap H locs ∧ lv_has ls 3 [(0, .ref mo), (1, .int 1), (2, .int y_23)] ∧ (0 ≤ y_23.toInt ∧ y_23.toInt ≤ (g1_13 9).toInt) ∧ rf_ld g1_13 g_24 y_23.toInt.toNat) ⟨_, ws_8, (0 : Int32), g1_13, rfl, hT, hP, hD, hS, (lv_sub hl [2, 1, 0] rfl), ⟨by have z0 : (0 : Int32).toInt = 0 := (by decide); have := (rf_Ls hLg).1; omega, rf_ld00 _⟩⟩ (fun μ H locs ls hI ih_54 => ?_)
    obtain ⟨ws, y_23, g_24, rfl, hT, hP, hD, hS, hl, hex_54⟩ := hI
    refine lv_iload_n hx hb dX11_load_54 rfl (lv_at hl 2 rfl) ?_
    refine lv_aload_n hx hb dX11_load_55 rfl (lv_at hl 0 rfl) ?_
    refine va_get (v := .ref mf) (D := D) (ci := 11) (C := RX11) (T := TX11) (N := 19) hx hb hts in_X11 hown hK hP 1 rfl rfl 2 (by decide) (hts _ kl_RX11_16) (fun _ h9 => h9) rfl dX11_load_56 ?_
    refine lv_bipush (v := 9) hx hb dX11_load_59 (by decide) ?_
    refine va_iald hx hb hK hP 3 0 rfl rfl (cm_vin (by decide)) dX11_load_61 ?_
    refine cm_cst (y := (g_24 9)) (by first | rfl | decide +kernel) ?_
    refine lv_icmp_ge (tgt := 104) hx hb dX11_load_62 (by decide) (fun hc_25 => ?_) (fun hc_25 => ?_)
    · refine lv_aload_n hx hb dX11_load_104 rfl (lv_at hl 0 rfl) ?_
      refine va_get (v := .ref mf) (D := D) (ci := 11) (C := RX11) (T := TX11) (N := 19) hx hb hts in_X11 hown hK hP 1 rfl rfl 2 (by decide) (hts _ kl_RX11_16) (fun _ h9 => h9) rfl dX11_load_105 ?_
      refine lv_aload_n hx hb dX11_load_108 rfl (lv_at hl 0 rfl) ?_
      refine va_get (v := .ref mw) (D := D) (ci := 11) (C := RX11) (T := TX11) (N := 19) hx hb hts in_X11 hown hK hP 1 rfl rfl 0 (by decide) (hts _ kl_RX11_9) (fun _ h9 => h9) rfl dX11_load_109 ?_
      have hP : va_P D vwCl ([(rf_MO mo mw ma mf m0 m1 mu mv u0 u1 iz (0) mb (0) mpt1_9 mbg1_10 mwr1_11 (0) (0) men), (rf_RW ct 0 mb 800 b), (rf_RW ct 0 mf 958 g_24), (rf_RW ct 0 mw 958 f)] ++ ws) H := ty_permP hP (ty_ordp (E := [(rf_RW ct 0 mw 958 f), (rf_MO mo mw ma mf m0 m1 mu mv u0 u1 iz (0) mb (0) mpt1_9 mbg1_10 mwr1_11 (0) (0) men), (rf_RW ct 0 mb 800 b), (rf_RW ct 0 mf 958 g_24)]) (E2 := [(rf_MO mo mw ma mf m0 m1 mu mv u0 u1 iz (0) mb (0) mpt1_9 mbg1_10 mwr1_11 (0) (0) men), (rf_RW ct 0 mb 800 b), (rf_RW ct 0 mf 958 g_24), (rf_RW ct 0 mw 958 f)]) (n := 4) [1, 2, 3, 0] rfl rfl (by decide))
      have hD : va_D A ([(rf_MO mo mw ma mf m0 m1 mu mv u0 u1 iz (0) mb (0) mpt1_9 mbg1_10 mwr1_11 (0) (0) men), (rf_RW ct 0 mb 800 b), (rf_RW ct 0 mf 958 g_24), (rf_RW ct 0 mw 958 f)] ++ ws) := ty_permD hD (ty_ordp (E := [(rf_RW ct 0 mw 958 f), (rf_MO mo mw ma mf m0 m1 mu mv u0 u1 iz (0) mb (0) mpt1_9 mbg1_10 mwr1_11 (0) (0) men), (rf_RW ct 0 mb 800 b), (rf_RW ct 0 mf 958 g_24)]) (E2 := [(rf_MO mo mw ma mf m0 m1 mu mv u0 u1 iz (0) mb (0) mpt1_9 mbg1_10 mwr1_11 (0) (0) men), (rf_RW ct 0 mb 800 b), (rf_RW ct 0 mf 958 g_24), (rf_RW ct 0 mw 958 f)]) (n := 4) [1, 2, 3, 0] rfl rfl (by decide))
      refine ty_kv (wr := [(rf_MO mo mw ma mf m0 m1 mu mv u0 u1 iz (0) mb (0) mpt1_9 mbg1_10 mwr1_11 (0) (0) men), (rf_RW ct 0 mb 800 b)]) (wc := ([(rf_RW ct 0 mf 958 g_24), (rf_RW ct 0 mw 958 f)] ++ ws)) (va_runS (As := [.ref mf, .ref mw]) (rest := []) ⟨hx, hb, hml, hown, hts⟩ (m_copies l D ct S ws ph xx mf mw g_24 f _ hT hph hy1) (cm_S 2 hts kc_X11_copies ki_RX11 kl_RX11_205 ks_X11_copies kd_X11_copies ⟨Nat.le_of_ble_eq_true rfl, Nat.le_of_ble_eq_true rfl⟩) (ty_preS (wr := [(rf_MO mo mw ma mf m0 m1 mu mv u0 u1 iz (0) mb (0) mpt1_9 mbg1_10 mwr1_11 (0) (0) men), (rf_RW ct 0 mb 800 b)]) (wc := ([(rf_RW ct 0 mf 958 g_24), (rf_RW ct 0 mw 958 f)] ++ ws)) hP hK hD hS hA hX) rfl rfl hl.1 rfl (lv_room (Nat.le_of_ble_eq_true rfl)) dX11_load_112 ⟨Nat.le_of_ble_eq_true rfl, Nat.le_of_ble_eq_true rfl⟩) hP hD hS hA (fun u H locs hw_27 hP hD hS => ?_)
      obtain ⟨ws_28, h_29⟩ := u
      obtain ⟨hT, hp_30⟩ := hw_27
      have hp_30 : ∀ j : Nat, j < 958 → h_29 j = g_24 j := hp_30
      have hP : va_P D vwCl ([(rf_MO mo mw ma mf m0 m1 mu mv u0 u1 iz (0) mb (0) mpt1_9 mbg1_10 mwr1_11 (0) (0) men), (rf_RW ct 0 mb 800 b), (rf_RW ct 0 mf 958 g_24), (rf_RW ct 0 mw 958 h_29)] ++ ws_28) H := hP
      have hD : va_D A ([(rf_MO mo mw ma mf m0 m1 mu mv u0 u1 iz (0) mb (0) mpt1_9 mbg1_10 mwr1_11 (0) (0) men), (rf_RW ct 0 mb 800 b), (rf_RW ct 0 mf 958 g_24), (rf_RW ct 0 mw 958 h_29)] ++ ws_28) := hD
      refine lv_iconst (v := 0) hx hb dX11_load_115 (by decide) ?_
      refine lv_istore_n (lv' := [(2, .int 0), (0, .ref mo), (1, .int 1)]) hx hb dX11_load_116 rfl hl (by decide) rfl (fun ls hl => ?_)
      refine ty_loop (I := fun μ H locs ls => ∃ (ws : va_W) (y_31 : Int32), μ = (2147483648 - y_31.toInt).toNat ∧ ty_V ct S ph ws ∧ va_P D vwCl ([(rf_MO mo mw ma mf m0 m1 mu mv u0 u1 iz (0) mb (0) mpt1_9 mbg1_10 mwr1_11 (0) (0) men), (rf_RW ct 0 mb 800 b), (rf_RW ct 0 mf 958 g_24), (rf_RW ct 0 mw 958 h_29)] ++ ws) H ∧ va_D A ([(rf_MO mo mw ma mf m0 m1 mu mv u0 u1 iz (0) mb (0) mpt1_9 mbg1_10 mwr1_11 (0) (0) men), (rf_RW ct 0 mb 800 b), (rf_RW ct 0 mf 958 g_24), (rf_RW ct 0 mw 958 h_29)] ++ ws) ∧ va_S A s.heap H locs ∧ lv_has ls 3 [(0, .ref mo), (1, .int 1), (2, .int y_31)] ∧ 0 ≤ y_31.toInt) ⟨_, ws_28, (0 : Int32), rfl, hT, hP, hD, hS, (lv_sub hl [1, 2, 0] rfl), (by decide)⟩ (fun μ H locs ls hI ih_117 => ?_)
      obtain ⟨ws, y_31, rfl, hT, hP, hD, hS, hl, hex_117⟩ := hI
      refine lv_iload_n hx hb dX11_load_117 rfl (lv_at hl 2 rfl) ?_
      refine lv_bipush (v := 42) hx hb dX11_load_118 (by decide) ?_
      refine lv_icmp_ge (tgt := 136) hx hb dX11_load_120 (by decide) (fun hc_32 => ?_) (fun hc_32 => ?_)
      · refine lv_aload_n hx hb dX11_load_136 rfl (lv_at hl 0 rfl) ?_
        refine va_get (v := .ref mw) (D := D) (ci := 11) (C := RX11) (T := TX11) (N := 19) hx hb hts in_X11 hown hK hP 0 rfl rfl 0 (by decide) (hts _ kl_RX11_9) (fun _ h9 => h9) rfl dX11_load_137 ?_
        refine lv_bipush (v := 9) hx hb dX11_load_140 (by decide) ?_
        refine va_iald hx hb hK hP 3 0 rfl rfl (cm_vin (by decide)) dX11_load_142 ?_
        refine cm_cst (y := (h_29 9)) (by first | rfl | decide +kernel) ?_
        exact W.iret (v := (h_29 9)) hx hb hr (fun t ht hW => ⟨⟨(h_29 9), (ws, mpt1_9, mbg1_10, mwr1_11, (0 : Int32), (0 : Int32), g_24, h_29), rfl, ⟨hT, (rm_A0 hq_20 (hq_22.trans (congrArg Int32.toInt ((hp_30 9 (by omega)).trans (hex_54.2.1 9 (by omega))).symm))), ⟨hq_20.symm, ⟨_, rf_Req (rf_lde hLg hex_54.2 hex_54.1 hc_25) hp_30⟩, ((hp_30 8 (by omega)).trans ((hex_54.2.1 8 (by omega)).trans hLg.2.2.2.2.2)).trans (if_pos hq_20).symm⟩⟩, by rw [ht]; exact hP, by rw [hAe]; exact hD⟩, hS.F ht⟩) hS.2.2 dX11_load_143
      · refine lv_aload_n hx hb dX11_load_123 rfl (lv_at hl 0 rfl) ?_
        refine va_get (v := .ref mu) (D := D) (ci := 11) (C := RX11) (T := TX11) (N := 19) hx hb hts in_X11 hown hK hP 0 rfl rfl 5 (by decide) (hts _ kl_RX11_25) (fun _ h9 => h9) rfl dX11_load_124 ?_
        refine lv_iload_n hx hb dX11_load_127 rfl (lv_at hl 2 rfl) ?_
        refine lv_lconst (v := 0) hx hb dX11_load_128 (by decide) ?_
        refine ty_last (E := [(rf_MO mo mw ma mf m0 m1 mu mv u0 u1 iz (0) mb (0) mpt1_9 mbg1_10 mwr1_11 (0) (0) men), (rf_RW ct 0 mb 800 b), (rf_RW ct 0 mf 958 g_24), (rf_RW ct 0 mw 958 h_29)]) (ws := ws) hx hb hK hP hD hS hT h_mu (cm_vin2 (by decide) (ty_nneg hex_117) (cm_lt hc_32)) dX11_load_129 hph (hy11 mu) (fun ws_33 H locs hT hP hD hS => ?_)
        refine lv_iinc (v := (y_31 + Int32.ofInt 1)) (lv' := [(2, .int (y_31 + Int32.ofInt 1)), (0, .ref mo), (1, .int 1)]) hx hb dX11_load_130 hl (k := 2) rfl rfl (by decide) rfl (fun ls hl => ?_)
        refine lv_goto (tgt := 117) hx hb dX11_load_133 (by decide) ?_
        exact ih_117 _ _ _ _ (ty_inc (cm_lt hc_32)) ⟨ws_33, (y_31 + Int32.ofInt 1), rfl, hT, hP, hD, hS, (lv_sub hl [1, 2, 0] rfl), (ty_nn hex_117 (cm_lt hc_32))⟩
    · refine lv_aload_n hx hb dX11_load_65 rfl (lv_at hl 0 rfl) ?_
      refine va_get (v := .ref mf) (D := D) (ci := 11) (C := RX11) (T := TX11) (N := 19) hx hb hts in_X11 hown hK hP 1 rfl rfl 2 (by decide) (hts _ kl_RX11_16) (fun _ h9 => h9) rfl dX11_load_66 ?_
      refine lv_sipush (v := 244) hx hb dX11_load_69 (by decide) ?_
      refine lv_bipush (v := 54) hx hb dX11_load_72 (by decide) ?_
      refine lv_iload_n hx hb dX11_load_74 rfl (lv_at hl 2 rfl) ?_
      refine lv_imul hx hb dX11_load_75 ?_
      refine lv_iadd hx hb dX11_load_76 ?_
      refine lv_aload_n hx hb dX11_load_77 rfl (lv_at hl 0 rfl) ?_
      refine va_get (v := .ref mf) (D := D) (ci := 11) (C := RX11) (T := TX11) (N := 19) hx hb hts in_X11 hown hK hP 1 rfl rfl 2 (by decide) (hts _ kl_RX11_16) (fun _ h9 => h9) rfl dX11_load_78 ?_
      refine lv_sipush (v := 244) hx hb dX11_load_81 (by decide) ?_
      refine lv_bipush (v := 54) hx hb dX11_load_84 (by decide) ?_
      refine lv_iload_n hx hb dX11_load_86 rfl (lv_at hl 2 rfl) ?_
      refine lv_imul hx hb dX11_load_87 ?_
      refine lv_iadd hx hb dX11_load_88 ?_
      refine lv_bipush (v := 12) hx hb dX11_load_89 (by decide) ?_
      refine lv_iadd hx hb dX11_load_91 ?_
      refine va_iald hx hb hK hP 3 0 rfl rfl (rf_vin (by have := hex_54.1; have := rf_ldl hex_54.2 hc_25; have := (rf_Ls hLg).1; have e70 := rf_ldp (c := y_23) (by omega); have e71 := rf_pk (x := (244 + (54 * y_23))) (k := 12) (K := 12) (by decide) (by omega) (by omega); omega)) dX11_load_92 ?_
      refine lv_iconst (v := 2) hx hb dX11_load_93 (by decide) ?_
      refine lv_idiv hx hb dX11_load_94 (by decide) ?_
      refine ty_kv (wr := [(rf_RW ct 0 mw 958 f), (rf_MO mo mw ma mf m0 m1 mu mv u0 u1 iz (0) mb (0) mpt1_9 mbg1_10 mwr1_11 (0) (0) men), (rf_RW ct 0 mb 800 b)]) (wc := ([(rf_RW ct 0 mf 958 g_24)] ++ ws)) (va_runS (As := [.ref mf, .int (244 + (54 * y_23)), .int ((g_24 ((244 + (54 * y_23)) + 12).toNatClampNeg) / 2)]) (rest := []) ⟨hx, hb, hml, hown, hts⟩ (m_begins l D ct S ws ph xx mf (244 + (54 * y_23)) ((g_24 ((244 + (54 * y_23)) + 12).toNatClampNeg) / 2) g_24 _ hT hph hy1 (by have := hex_54.1; have := rf_ldl hex_54.2 hc_25; have := (rf_Ls hLg).1; have e70 := rf_ldp (c := y_23) (by omega); omega)) (cm_S 3 hts kc_X11_begins ki_RX11 kl_RX11_201 ks_X11_begins kd_X11_begins ⟨Nat.le_of_ble_eq_true rfl, Nat.le_of_ble_eq_true rfl⟩) (ty_preS (wr := [(rf_RW ct 0 mw 958 f), (rf_MO mo mw ma mf m0 m1 mu mv u0 u1 iz (0) mb (0) mpt1_9 mbg1_10 mwr1_11 (0) (0) men), (rf_RW ct 0 mb 800 b)]) (wc := ([(rf_RW ct 0 mf 958 g_24)] ++ ws)) hP hK hD hS hA hX) rfl rfl hl.1 rfl (lv_room (Nat.le_of_ble_eq_true rfl)) dX11_load_95 ⟨Nat.le_of_ble_eq_true rfl, Nat.le_of_ble_eq_true rfl⟩) hP hD hS hA (fun u H locs hw_35 hP hD hS => ?_)
      obtain ⟨ws_36, h_37⟩ := u
      obtain ⟨hT, hp_38⟩ := hw_35
      have hp_38 : rf_bg g_24 h_37 (244 + (54 * y_23)).toInt.toNat ((g_24 ((244 + (54 * y_23)) + 12).toNatClampNeg) / 2) := hp_38
      have hP : va_P D vwCl ([(rf_RW ct 0 mw 958 f), (rf_MO mo mw ma mf m0 m1 mu mv u0 u1 iz (0) mb (0) mpt1_9 mbg1_10 mwr1_11 (0) (0) men), (rf_RW ct 0 mb 800 b), (rf_RW ct 0 mf 958 h_37)] ++ ws_36) H := hP
      have hD : va_D A ([(rf_RW ct 0 mw 958 f), (rf_MO mo mw ma mf m0 m1 mu mv u0 u1 iz (0) mb (0) mpt1_9 mbg1_10 mwr1_11 (0) (0) men), (rf_RW ct 0 mb 800 b), (rf_RW ct 0 mf 958 h_37)] ++ ws_36) := hD
      refine lv_iinc (v := (y_23 + Int32.ofInt 1)) (lv' := [(2, .int (y_23 + Int32.ofInt 1)), (0, .ref mo), (1, .int 1)]) hx hb dX11_load_98 hl (k := 2) rfl rfl (by decide) rfl (fun ls hl => ?_)
      refine lv_goto (tgt := 54) hx hb dX11_load_101 (by decide) ?_
      exact ih_54 _ _ _ _ (ty_inc (cm_lt hc_25)) ⟨ws_36, (y_23 + Int32.ofInt 1), h_37, rfl, hT, hP, hD, hS, (lv_sub hl [1, 2, 0] rfl), ⟨by have := hex_54.1; have := rf_ldl hex_54.2 hc_25; have := (rf_Ls hLg).1; have e70 := rf_ldp (c := y_23) (by omega); have := rf_oi (n := y_23) (by omega); omega, rf_ldx hLg hex_54.2 hex_54.1.1 (rf_ldl hex_54.2 hc_25) hp_38⟩⟩
theorem dX11_curveNamed_0 : decode cX11_curveNamed 0 = .ok (.aload_n 0, 1) := by decide +kernel
theorem dX11_curveNamed_1 : decode cX11_curveNamed 1 = .ok (.iconst 0, 1) := by decide +kernel
theorem dX11_curveNamed_2 : decode cX11_curveNamed 2 = .ok (.putfield 49, 3) := by decide +kernel
theorem dX11_curveNamed_5 : decode cX11_curveNamed 5 = .ok (.aload_n 0, 1) := by decide +kernel
theorem dX11_curveNamed_6 : decode cX11_curveNamed 6 = .ok (.aload_n 0, 1) := by decide +kernel
theorem dX11_curveNamed_7 : decode cX11_curveNamed 7 = .ok (.getfield 9, 3) := by decide +kernel
theorem dX11_curveNamed_10 : decode cX11_curveNamed 10 = .ok (.iconst 0, 1) := by decide +kernel
theorem dX11_curveNamed_11 : decode cX11_curveNamed 11 = .ok (.aload_n 0, 1) := by decide +kernel
theorem dX11_curveNamed_12 : decode cX11_curveNamed 12 = .ok (.getfield 56, 3) := by decide +kernel
theorem dX11_curveNamed_15 : decode cX11_curveNamed 15 = .ok (.invokevirtual 129, 3) := by decide +kernel
theorem dX11_curveNamed_18 : decode cX11_curveNamed 18 = .ok (.istore_n 1, 1) := by decide +kernel
theorem dX11_curveNamed_19 : decode cX11_curveNamed 19 = .ok (.aload_n 0, 1) := by decide +kernel
theorem dX11_curveNamed_20 : decode cX11_curveNamed 20 = .ok (.iconst 0, 1) := by decide +kernel
theorem dX11_curveNamed_21 : decode cX11_curveNamed 21 = .ok (.putfield 56, 3) := by decide +kernel
theorem dX11_curveNamed_24 : decode cX11_curveNamed 24 = .ok (.iload_n 1, 1) := by decide +kernel
theorem dX11_curveNamed_25 : decode cX11_curveNamed 25 = .ok (.ireturn, 1) := by decide +kernel
set_option maxRecDepth 100000 in
set_option maxHeartbeats 4000000 in
theorem m_curveNamed (l : Launch) (D : va_G) (ct : Nat → ClassId) (S : ty_S) (ws : va_W) (ph : va_W → Prop) (xx : Nat → Nat → Nat → Prop) (mo : Nat) (mw : Nat) (ma : Nat) (mf : Nat) (m0 : Nat) (m1 : Nat) (mu : Nat) (mv : Nat) (u0 : Nat) (u1 : Nat) (iz : Nat) (mb : Nat) (th : Int32) (mn : Int32) (mpt : Int32) (mbg : Int32) (mwr : Int32) (mwk : Int32) (mlf : Int32) (men : Int32) (b : Nat → Int32) (f : Nat → Int32) (sz : Nat) (hT : ty_V ct S ph ws) (hph : ty_C ph xx) (hy1 : ty_y1 xx) (hE : rf_E f) (hmn : 0 ≤ mn.toInt ∧ mn.toInt ≤ 800) : Met l yX11_curveNamed (ws_ yX11_curveNamed cX11_curveNamed 2 (some .int)) ({ frames := 2, cells := 0, slots := 0, locals := 52 } : Room) (va_Pc [.ref mo] (cmP D ct sz ([(rf_MO mo mw ma mf m0 m1 mu mv u0 u1 iz th mb mn mpt mbg mwr mwk mlf men), (rf_RW ct 0 mb 800 b), (rf_RW ct 0 mw 958 f)] ++ ws))) (va_Qi (fun (r : Int32) (u9 : va_W) => ty_V ct S ph u9) (cmB D ([(rf_MO mo mw ma mf m0 m1 mu mv u0 u1 iz th mb mn mpt mbg mwr mwk mlf men), (rf_RW ct 0 mb 800 b), (rf_RW ct 0 mw 958 f)] ++ ws) sz (fun (u9 : va_W) => ([(rf_MO mo mw ma mf m0 m1 mu mv u0 u1 iz (0) mb (0) mpt mbg mwr mwk mlf men), (rf_RW ct 0 mb 800 b), (rf_RW ct 0 mw 958 f)] ++ u9))) (va_A ([(rf_MO mo mw ma mf m0 m1 mu mv u0 u1 iz th mb mn mpt mbg mwr mwk mlf men), (rf_RW ct 0 mb 800 b), (rf_RW ct 0 mw 958 f)] ++ ws) sz)) 0 0 (va_A ([(rf_MO mo mw ma mf m0 m1 mu mv u0 u1 iz th mb mn mpt mbg mwr mwk mlf men), (rf_RW ct 0 mb 800 b), (rf_RW ct 0 mw 958 f)] ++ ws) sz) := by
  refine Met.ofW (cc := cX11_curveNamed) (maxL := 2) (ret := (some .int)) (by decide) rfl ?_
  intro p e s m args below meth c s₁ B hml hv
  obtain ⟨rfl, hsz, hP, hK, hD0, hX⟩ := hv
  have hx := B.exec
  have hb := B.bytes
  have hr := B.returns
  have hts := ws_all (atoms_spec (ws := ws_ yX11_curveNamed cX11_curveNamed 2 (some .int)) B.pre)
  have hown : s.vm.findClass RX11 = some m.cls := findClass_of_methodNamed B.named
  have hlocks := B.notSynchronized
  subst hsz
  have hD := hD0.self (sz := s.heap.size)
  generalize hAe : va_A ([(rf_MO mo mw ma mf m0 m1 mu mv u0 u1 iz th mb mn mpt mbg mwr mwk mlf men), (rf_RW ct 0 mb 800 b), (rf_RW ct 0 mw 958 f)] ++ ws) s.heap.size = A at hD hX ⊢
  have hA : ∀ q : Nat, s.heap.size ≤ q → A q := fun q h => by rw [← hAe]; exact Or.inr h
  have hS : va_S A s.heap s.heap [] := va_S.rf
  have hl := lv_entry ([.ref mo]) (n := 2) (Nat.le_of_ble_eq_true rfl)
  rw [lg_entry_eq]
  generalize (lg_sl ([.ref mo]) ++ List.replicate (2 - (lg_sl ([.ref mo])).length) Slot.unset).toArray = ls at hl ⊢
  have hl : lv_has ls 2 [(0, .ref mo)] := hl
  refine lv_aload_n hx hb dX11_curveNamed_0 rfl (lv_at hl 0 rfl) ?_
  refine lv_iconst (v := 0) hx hb dX11_curveNamed_1 (by decide) ?_
  refine va_put (v := .int 0) (ty := .int) (D := D) (ci := 11) (C := RX11) (T := TX11) (N := 19) hx hb hts in_X11 tyX11 tyX11_ok nmX11 hown hK hP hD hS 0 rfl rfl 10 (by decide) (hts _ kl_RX11_49) (fun _ h9 => h9) rfl (by decide +kernel) rfl rfl (Nat.le_of_ble_eq_true rfl) dX11_curveNamed_2 (fun H locs hP hD hS => ?_)
  have hP : va_P D vwCl ([(rf_MO mo mw ma mf m0 m1 mu mv u0 u1 iz (0) mb mn mpt mbg mwr mwk mlf men), (rf_RW ct 0 mb 800 b), (rf_RW ct 0 mw 958 f)] ++ ws) H := hP
  have hD : va_D A ([(rf_MO mo mw ma mf m0 m1 mu mv u0 u1 iz (0) mb mn mpt mbg mwr mwk mlf men), (rf_RW ct 0 mb 800 b), (rf_RW ct 0 mw 958 f)] ++ ws) := hD
  refine lv_aload_n hx hb dX11_curveNamed_5 rfl (lv_at hl 0 rfl) ?_
  refine lv_aload_n hx hb dX11_curveNamed_6 rfl (lv_at hl 0 rfl) ?_
  refine va_get (v := .ref mw) (D := D) (ci := 11) (C := RX11) (T := TX11) (N := 19) hx hb hts in_X11 hown hK hP 0 rfl rfl 0 (by decide) (hts _ kl_RX11_9) (fun _ h9 => h9) rfl dX11_curveNamed_7 ?_
  refine lv_iconst (v := 0) hx hb dX11_curveNamed_10 (by decide) ?_
  refine lv_aload_n hx hb dX11_curveNamed_11 rfl (lv_at hl 0 rfl) ?_
  refine va_get (v := .int mn) (D := D) (ci := 11) (C := RX11) (T := TX11) (N := 19) hx hb hts in_X11 hown hK hP 0 rfl rfl 12 (by decide) (hts _ kl_RX11_56) (fun _ h9 => h9) rfl dX11_curveNamed_12 ?_
  refine ty_ki (wr := []) (wc := ([(rf_MO mo mw ma mf m0 m1 mu mv u0 u1 iz (0) mb mn mpt mbg mwr mwk mlf men), (rf_RW ct 0 mb 800 b), (rf_RW ct 0 mw 958 f)] ++ ws)) (va_runV (As := [.ref mw, .int 0, .int mn]) (rest := []) ⟨hx, hb, hml, hown, hts⟩ (m_X11_named l D ct S ws ph xx mo mw ma mf m0 m1 mu mv u0 u1 iz mb (0 : Int32) mn mpt mbg mwr mwk mlf men b mw (0 : Int32) mn f _ hT hph hy1 (rf_E11 hE) (by have z0 : (0 : Int32).toInt = 0 := (by decide); omega)) (cm_V 3 hts kc_X11_named ki_RX11 kl_RX11_129 kv_X11_named kx_X11_named kd_X11_named ⟨Nat.le_of_ble_eq_true rfl, Nat.le_of_ble_eq_true rfl⟩) (ty_preE (wr := []) (wc := ([(rf_MO mo mw ma mf m0 m1 mu mv u0 u1 iz (0) mb mn mpt mbg mwr mwk mlf men), (rf_RW ct 0 mb 800 b), (rf_RW ct 0 mw 958 f)] ++ ws)) (ci := 11) (q0 := 0) hP hK hD hS hA hX rfl rfl) rfl rfl hl.1 rfl (lv_room (Nat.le_of_ble_eq_true rfl)) dX11_curveNamed_15 ⟨Nat.le_of_ble_eq_true rfl, Nat.le_of_ble_eq_true rfl⟩) hP hD hS hA (fun r_1 u H locs hw_2 hP hD hS => ?_)
  obtain ⟨ws_3, rfl⟩ : ∃ z, z = u := ⟨_, rfl⟩
  obtain ⟨hT, hp_4⟩ := hw_2
  have hp_4 : (r_1 = -1 ∨ (0 ≤ r_1.toInt ∧ r_1.toInt < (f 11).toInt)) := hp_4
  have hP : va_P D vwCl ([(rf_MO mo mw ma mf m0 m1 mu mv u0 u1 iz (0) mb mn mpt mbg mwr mwk mlf men), (rf_RW ct 0 mb 800 b), (rf_RW ct 0 mw 958 f)] ++ ws_3) H := hP
  have hD : va_D A ([(rf_MO mo mw ma mf m0 m1 mu mv u0 u1 iz (0) mb mn mpt mbg mwr mwk mlf men), (rf_RW ct 0 mb 800 b), (rf_RW ct 0 mw 958 f)] ++ ws_3) := hD
  refine lv_istore_n (lv' := [(1, .int r_1), (0, .ref mo)]) hx hb dX11_curveNamed_18 rfl hl (by decide) rfl (fun ls hl => ?_)
  refine lv_aload_n hx hb dX11_curveNamed_19 rfl (lv_at hl 1 rfl) ?_
  refine lv_iconst (v := 0) hx hb dX11_curveNamed_20 (by decide) ?_
  refine va_put (v := .int 0) (ty := .int) (D := D) (ci := 11) (C := RX11) (T := TX11) (N := 19) hx hb hts in_X11 tyX11 tyX11_ok nmX11 hown hK hP hD hS 0 rfl rfl 12 (by decide) (hts _ kl_RX11_56) (fun _ h9 => h9) rfl (by decide +kernel) rfl rfl (Nat.le_of_ble_eq_true rfl) dX11_curveNamed_21 (fun H locs hP hD hS => ?_)
  have hP : va_P D vwCl ([(rf_MO mo mw ma mf m0 m1 mu mv u0 u1 iz (0) mb (0) mpt mbg mwr mwk mlf men), (rf_RW ct 0 mb 800 b), (rf_RW ct 0 mw 958 f)] ++ ws_3) H := hP
  have hD : va_D A ([(rf_MO mo mw ma mf m0 m1 mu mv u0 u1 iz (0) mb (0) mpt mbg mwr mwk mlf men), (rf_RW ct 0 mb 800 b), (rf_RW ct 0 mw 958 f)] ++ ws_3) := hD
  refine lv_iload_n hx hb dX11_curveNamed_24 rfl (lv_at hl 0 rfl) ?_
  exact W.iret (v := r_1) hx hb hr (fun t ht hW => ⟨⟨r_1, ws_3, rfl, hT, by rw [ht]; exact hP, by rw [hAe]; exact hD⟩, hS.F ht⟩) hS.2.2 dX11_curveNamed_25
set_option maxRecDepth 100000 in
set_option maxHeartbeats 4000000 in
theorem m_loadError_v (l : Launch) (D : va_G) (ct : Nat → ClassId) (S : ty_S) (ws : va_W) (ph : va_W → Prop) (xx : Nat → Nat → Nat → Prop) (mo : Nat) (mw : Nat) (ma : Nat) (mf : Nat) (m0 : Nat) (m1 : Nat) (mu : Nat) (mv : Nat) (u0 : Nat) (u1 : Nat) (iz : Nat) (mb : Nat) (th : Int32) (mn : Int32) (mpt : Int32) (mbg : Int32) (mwr : Int32) (mwk : Int32) (mlf : Int32) (men : Int32) (sz : Nat) (hT : ty_V ct S ph ws) (hph : ty_C ph xx) (hy1 : ty_y1 xx) : Met l yX11_loadError (ws_ yX11_loadError cX11_loadError 1 (some .int)) ({ frames := 0, cells := 0, slots := 0, locals := 0 } : Room) (va_Pc [.ref mo] (cmP D ct sz ([(rf_MO mo mw ma mf m0 m1 mu mv u0 u1 iz th mb mn mpt mbg mwr mwk mlf men)] ++ ws))) (va_Qi (fun (r : Int32) (u9 : va_W) => ty_V ct S ph u9 ∧ r = mlf) (cmB D ([(rf_MO mo mw ma mf m0 m1 mu mv u0 u1 iz th mb mn mpt mbg mwr mwk mlf men)] ++ ws) sz (fun (u9 : va_W) => ([(rf_MO mo mw ma mf m0 m1 mu mv u0 u1 iz (0) mb mn mpt mbg mwr mwk mlf men)] ++ u9))) (va_A ([(rf_MO mo mw ma mf m0 m1 mu mv u0 u1 iz th mb mn mpt mbg mwr mwk mlf men)] ++ ws) sz)) 0 0 (va_A ([(rf_MO mo mw ma mf m0 m1 mu mv u0 u1 iz th mb mn mpt mbg mwr mwk mlf men)] ++ ws) sz) := by
  refine Met.ofW (cc := cX11_loadError) (maxL := 1) (ret := (some .int)) (by decide) rfl ?_
  intro p e s m args below meth c s₁ B hml hv
  obtain ⟨rfl, hsz, hP, hK, hD0, hX⟩ := hv
  have hx := B.exec
  have hb := B.bytes
  have hr := B.returns
  have hts := ws_all (atoms_spec (ws := ws_ yX11_loadError cX11_loadError 1 (some .int)) B.pre)
  have hown : s.vm.findClass RX11 = some m.cls := findClass_of_methodNamed B.named
  have hlocks := B.notSynchronized
  subst hsz
  have hD := hD0.self (sz := s.heap.size)
  generalize hAe : va_A ([(rf_MO mo mw ma mf m0 m1 mu mv u0 u1 iz th mb mn mpt mbg mwr mwk mlf men)] ++ ws) s.heap.size = A at hD hX ⊢
  have hA : ∀ q : Nat, s.heap.size ≤ q → A q := fun q h => by rw [← hAe]; exact Or.inr h
  have hS : va_S A s.heap s.heap [] := va_S.rf
  have hl := lv_entry ([.ref mo]) (n := 1) (Nat.le_of_ble_eq_true rfl)
  rw [lg_entry_eq]
  generalize (lg_sl ([.ref mo]) ++ List.replicate (1 - (lg_sl ([.ref mo])).length) Slot.unset).toArray = ls at hl ⊢
  have hl : lv_has ls 1 [(0, .ref mo)] := hl
  refine lv_aload_n hx hb dX11_loadError_0 rfl (lv_at hl 0 rfl) ?_
  refine lv_iconst (v := 0) hx hb dX11_loadError_1 (by decide) ?_
  refine va_put (v := .int 0) (ty := .int) (D := D) (ci := 11) (C := RX11) (T := TX11) (N := 19) hx hb hts in_X11 tyX11 tyX11_ok nmX11 hown hK hP hD hS 0 rfl rfl 10 (by decide) (hts _ kl_RX11_49) (fun _ h9 => h9) rfl (by decide +kernel) rfl rfl (Nat.le_of_ble_eq_true rfl) dX11_loadError_2 (fun H locs hP hD hS => ?_)
  have hP : va_P D vwCl ([(rf_MO mo mw ma mf m0 m1 mu mv u0 u1 iz (0) mb mn mpt mbg mwr mwk mlf men)] ++ ws) H := hP
  have hD : va_D A ([(rf_MO mo mw ma mf m0 m1 mu mv u0 u1 iz (0) mb mn mpt mbg mwr mwk mlf men)] ++ ws) := hD
  refine lv_aload_n hx hb dX11_loadError_5 rfl (lv_at hl 0 rfl) ?_
  refine va_get (v := .int mlf) (D := D) (ci := 11) (C := RX11) (T := TX11) (N := 19) hx hb hts in_X11 hown hK hP 0 rfl rfl 17 (by decide) (hts _ kl_RX11_59) (fun _ h9 => h9) rfl dX11_loadError_6 ?_
  exact W.iret (v := mlf) hx hb hr (fun t ht hW => ⟨⟨mlf, ws, rfl, ⟨hT, rfl⟩, by rw [ht]; exact hP, by rw [hAe]; exact hD⟩, hS.F ht⟩) hS.2.2 dX11_loadError_9
