theorem rf_Ls {g : Nat → Int32} (h : rf_L g) : (0 ≤ (g 9).toInt ∧ (g 9).toInt ≤ 6) ∧ (0 ≤ (g 10).toInt ∧ (g 10).toInt ≤ 4) ∧ 0 ≤ (g 11).toInt ∧ (g 11).toInt ≤ 4 := ⟨h.1.2.2.1, h.1.2.2.2.1, h.1.2.2.2.2.1⟩
theorem rf_n4b {x : Int32} (h : 0 ≤ x.toInt ∧ x.toInt ≤ 4) (h4 : ¬ x = 4) : x.toInt < 4 := by
  have := rf_ne9 (K := 4) h4 (by decide)
  omega
theorem rf_n6 {x : Int32} (h : 0 ≤ x.toInt ∧ x.toInt ≤ 6) (h6 : ¬ x = 6) : x.toInt < 6 := by
  have := rf_ne9 (K := 6) h6 (by decide)
  omega
theorem rf_c8 {g : Nat → Int32} {n : Int32} (h : rf_L g) (h4 : ¬ g 11 = 4) (hn : 0 ≤ n.toInt ∧ n.toInt ≤ 11) (h11 : ¬ n = 11) : (((20 + (19 * (g 11))) + 8) + n).toInt = 28 + 19 * (g 11).toInt + n.toInt ∧ (0 ≤ (g 11).toInt ∧ (g 11).toInt < 4) ∧ 0 ≤ n.toInt ∧ n.toInt ≤ 10 := by
  have a := (rf_Ls h).2.2
  have b := rf_n4b a h4
  have c := rf_ne9 (K := 11) h11 (by decide)
  have e40 := rf_mk9 (a := 20) (b := 19) (k := (g 11)) (A := 20) (B := 19) (by decide) (by decide) (by omega) (by omega) (by omega)
  have e41 := rf_pk (x := (20 + (19 * (g 11)))) (k := 8) (K := 8) (by decide) (by omega) (by omega)
  have e42 := rf_pk (x := ((20 + (19 * (g 11))) + 8)) (k := n) (K := n.toInt) rfl (by omega) (by omega)
  omega
theorem rf_c7 {g : Nat → Int32} (h : rf_L g) (h4 : ¬ g 11 = 4) : ((20 + (19 * (g 11))) + 7).toInt = 27 + 19 * (g 11).toInt ∧ (20 + (19 * (g 11))).toInt = 20 + 19 * (g 11).toInt ∧ 0 ≤ (g 11).toInt ∧ (g 11).toInt < 4 := by
  have a := (rf_Ls h).2.2
  have b := rf_n4b a h4
  have e40 := rf_mk9 (a := 20) (b := 19) (k := (g 11)) (A := 20) (B := 19) (by decide) (by decide) (by omega) (by omega) (by omega)
  have e41 := rf_pk (x := (20 + (19 * (g 11)))) (k := 7) (K := 7) (by decide) (by omega) (by omega)
  omega
theorem rf_ngt6 {y : Int32} (h : ¬ 6 < y) : y.toInt ≤ 6 := rf_le6 h
theorem rm_cv9 {g c : Nat → Int32} {n v x : Int32} {j : Nat} (h : rf_La g c) (hx : 20 ≤ x.toInt) (hj : j < 20) (h11 : ¬ j = 11) : (upd (upd c x.toNatClampNeg n) (11 : Int32).toNatClampNeg v) j = g j := by
  have ex : x.toNatClampNeg = x.toInt.toNat := rfl
  have e0 : (11 : Int32).toNatClampNeg = 11 := by decide
  rw [e0, rf_upd_ne h11, rf_upd_ne (by omega)]
  exact h.2 j hj
theorem dX11_readName_0 : decode cX11_readName 0 = .ok (.aload_n 0, 1) := by decide +kernel
theorem dX11_readName_1 : decode cX11_readName 1 = .ok (.invokevirtual 106, 3) := by decide +kernel
theorem dX11_readName_4 : decode cX11_readName 4 = .ok (.pop, 1) := by decide +kernel
theorem dX11_readName_5 : decode cX11_readName 5 = .ok (.aload_n 0, 1) := by decide +kernel
theorem dX11_readName_6 : decode cX11_readName 6 = .ok (.aload_n 0, 1) := by decide +kernel
theorem dX11_readName_7 : decode cX11_readName 7 = .ok (.getfield 81, 3) := by decide +kernel
theorem dX11_readName_10 : decode cX11_readName 10 = .ok (.invokevirtual 90, 3) := by decide +kernel
theorem dX11_readName_13 : decode cX11_readName 13 = .ok (.ifCond .ne 9, 3) := by decide +kernel
theorem dX11_readName_16 : decode cX11_readName 16 = .ok (.aload_n 0, 1) := by decide +kernel
theorem dX11_readName_17 : decode cX11_readName 17 = .ok (.iconst 1, 1) := by decide +kernel
theorem dX11_readName_18 : decode cX11_readName 18 = .ok (.invokevirtual 112, 3) := by decide +kernel
theorem dX11_readName_21 : decode cX11_readName 21 = .ok (.ireturn, 1) := by decide +kernel
theorem dX11_readName_22 : decode cX11_readName 22 = .ok (.aload_n 0, 1) := by decide +kernel
theorem dX11_readName_23 : decode cX11_readName 23 = .ok (.invokevirtual 94, 3) := by decide +kernel
theorem dX11_readName_26 : decode cX11_readName 26 = .ok (.aload_n 0, 1) := by decide +kernel
theorem dX11_readName_27 : decode cX11_readName 27 = .ok (.getfield 81, 3) := by decide +kernel
theorem dX11_readName_30 : decode cX11_readName 30 = .ok (.isub, 1) := by decide +kernel
theorem dX11_readName_31 : decode cX11_readName 31 = .ok (.istore_n 2, 1) := by decide +kernel
theorem dX11_readName_32 : decode cX11_readName 32 = .ok (.iload_n 2, 1) := by decide +kernel
theorem dX11_readName_33 : decode cX11_readName 33 = .ok (.bipush 6, 2) := by decide +kernel
theorem dX11_readName_35 : decode cX11_readName 35 = .ok (.if_icmp .gt 20, 3) := by decide +kernel
theorem dX11_readName_38 : decode cX11_readName 38 = .ok (.aload_n 0, 1) := by decide +kernel
theorem dX11_readName_39 : decode cX11_readName 39 = .ok (.aload_n 0, 1) := by decide +kernel
theorem dX11_readName_40 : decode cX11_readName 40 = .ok (.getfield 16, 3) := by decide +kernel
theorem dX11_readName_43 : decode cX11_readName 43 = .ok (.aload_n 0, 1) := by decide +kernel
theorem dX11_readName_44 : decode cX11_readName 44 = .ok (.getfield 81, 3) := by decide +kernel
theorem dX11_readName_47 : decode cX11_readName 47 = .ok (.iload_n 2, 1) := by decide +kernel
theorem dX11_readName_48 : decode cX11_readName 48 = .ok (.invokevirtual 129, 3) := by decide +kernel
theorem dX11_readName_51 : decode cX11_readName 51 = .ok (.iconst (-1), 1) := by decide +kernel
theorem dX11_readName_52 : decode cX11_readName 52 = .ok (.if_icmp .eq 9, 3) := by decide +kernel
theorem dX11_readName_55 : decode cX11_readName 55 = .ok (.aload_n 0, 1) := by decide +kernel
theorem dX11_readName_56 : decode cX11_readName 56 = .ok (.iconst 3, 1) := by decide +kernel
theorem dX11_readName_57 : decode cX11_readName 57 = .ok (.invokevirtual 112, 3) := by decide +kernel
theorem dX11_readName_60 : decode cX11_readName 60 = .ok (.ireturn, 1) := by decide +kernel
theorem dX11_readName_61 : decode cX11_readName 61 = .ok (.aload_n 0, 1) := by decide +kernel
theorem dX11_readName_62 : decode cX11_readName 62 = .ok (.getfield 16, 3) := by decide +kernel
theorem dX11_readName_65 : decode cX11_readName 65 = .ok (.iload_n 1, 1) := by decide +kernel
theorem dX11_readName_66 : decode cX11_readName 66 = .ok (.iload_n 2, 1) := by decide +kernel
theorem dX11_readName_67 : decode cX11_readName 67 = .ok (.iastore, 1) := by decide +kernel
theorem dX11_readName_68 : decode cX11_readName 68 = .ok (.iconst 0, 1) := by decide +kernel
theorem dX11_readName_69 : decode cX11_readName 69 = .ok (.istore_n 3, 1) := by decide +kernel
theorem dX11_readName_70 : decode cX11_readName 70 = .ok (.iload_n 3, 1) := by decide +kernel
theorem dX11_readName_71 : decode cX11_readName 71 = .ok (.iload_n 2, 1) := by decide +kernel
theorem dX11_readName_72 : decode cX11_readName 72 = .ok (.if_icmp .ge 30, 3) := by decide +kernel
theorem dX11_readName_75 : decode cX11_readName 75 = .ok (.aload_n 0, 1) := by decide +kernel
theorem dX11_readName_76 : decode cX11_readName 76 = .ok (.getfield 16, 3) := by decide +kernel
theorem dX11_readName_79 : decode cX11_readName 79 = .ok (.iload_n 1, 1) := by decide +kernel
theorem dX11_readName_80 : decode cX11_readName 80 = .ok (.iconst 1, 1) := by decide +kernel
theorem dX11_readName_81 : decode cX11_readName 81 = .ok (.iadd, 1) := by decide +kernel
theorem dX11_readName_82 : decode cX11_readName 82 = .ok (.iload_n 3, 1) := by decide +kernel
theorem dX11_readName_83 : decode cX11_readName 83 = .ok (.iadd, 1) := by decide +kernel
theorem dX11_readName_84 : decode cX11_readName 84 = .ok (.aload_n 0, 1) := by decide +kernel
theorem dX11_readName_85 : decode cX11_readName 85 = .ok (.getfield 42, 3) := by decide +kernel
theorem dX11_readName_88 : decode cX11_readName 88 = .ok (.aload_n 0, 1) := by decide +kernel
theorem dX11_readName_89 : decode cX11_readName 89 = .ok (.getfield 81, 3) := by decide +kernel
theorem dX11_readName_92 : decode cX11_readName 92 = .ok (.iload_n 3, 1) := by decide +kernel
theorem dX11_readName_93 : decode cX11_readName 93 = .ok (.iadd, 1) := by decide +kernel
theorem dX11_readName_94 : decode cX11_readName 94 = .ok (.iaload, 1) := by decide +kernel
theorem dX11_readName_95 : decode cX11_readName 95 = .ok (.iastore, 1) := by decide +kernel
theorem dX11_readName_96 : decode cX11_readName 96 = .ok (.iinc 3 1, 3) := by decide +kernel
theorem dX11_readName_99 : decode cX11_readName 99 = .ok (.goto (-29), 3) := by decide +kernel
theorem dX11_readName_102 : decode cX11_readName 102 = .ok (.aload_n 0, 1) := by decide +kernel
theorem dX11_readName_103 : decode cX11_readName 103 = .ok (.invokevirtual 133, 3) := by decide +kernel
theorem dX11_readName_106 : decode cX11_readName 106 = .ok (.ireturn, 1) := by decide +kernel
set_option maxRecDepth 100000 in
set_option maxHeartbeats 4000000 in
theorem m_X11_readName (l : Launch) (D : va_G) (ct : Nat → ClassId) (S : ty_S) (ws : va_W) (ph : va_W → Prop) (xx : Nat → Nat → Nat → Prop) (mo : Nat) (mw : Nat) (ma : Nat) (mf : Nat) (m0 : Nat) (m1 : Nat) (mu : Nat) (mv : Nat) (u0 : Nat) (u1 : Nat) (iz : Nat) (mb : Nat) (th : Int32) (mn : Int32) (mpt : Int32) (mbg : Int32) (mwr : Int32) (mlf : Int32) (men : Int32) (b : Nat → Int32) (p1 : Int32) (g : Nat → Int32) (N : List (List Int32)) (sz : Nat) (hT : ty_V ct S ph ws) (hph : ty_C ph xx) (hy1 : ty_y1 xx) (hmn : 0 ≤ mn.toInt ∧ mn.toInt ≤ 800) (hpt : 0 ≤ mpt.toInt ∧ mpt.toInt ≤ mn.toInt) (hL : rf_L g) (hn4 : (g 11).toInt < 4) (hpl : p1.toInt = 20 + 19 * (g 11).toInt) (hN : rm_N N g) : Met l yX11_readName (ws_ yX11_readName cX11_readName 4 (some .boolean)) ({ frames := 4, cells := 0, slots := 0, locals := 87 } : Room) (va_Pc [.ref mo, .int p1] (cmP D ct sz ([(rf_MO mo mw ma mf m0 m1 mu mv u0 u1 iz th mb mn mpt mbg mwr (0) mlf men), (rf_RW ct 0 mb 800 b), (rf_RW ct 0 mf 958 g)] ++ ws))) (va_Qi (fun (r : Int32) (u : va_W × Int32 × Int32 × Int32 × Int32 × (Nat → Int32)) => match u with | (u9, mpt1, mbg1, mwr1, mwk1, g1) => ty_V ct S ph u9 ∧ ((mpt.toInt ≤ mpt1.toInt ∧ mpt1.toInt ≤ mn.toInt) ∧ 0 ≤ mbg1.toInt ∧ mbg1.toInt ≤ mn.toInt) ∧ ((r = 0 ∧ rm_f (rp_nk b mn N (rp_sk b mn mpt)) (rp_sk b mn mpt) mwk1 mwr1) ∨ (r = 1 ∧ (rp_nk b mn N (rp_sk b mn mpt)) = 0 ∧ mwk1 = 0 ∧ mpt1 = rp_we b mn (rp_sk b mn mpt) ∧ rf_La g g1 ∧ (∀ j : Nat, 20 ≤ j → j < 20 + 19 * (g 11).toInt.toNat → g1 j = g j) ∧ rm_W g1 (g 11).toInt.toNat (rp_w b mn (rp_sk b mn mpt))))) (cmB D ([(rf_MO mo mw ma mf m0 m1 mu mv u0 u1 iz th mb mn mpt mbg mwr (0) mlf men), (rf_RW ct 0 mb 800 b), (rf_RW ct 0 mf 958 g)] ++ ws) sz (fun (u : va_W × Int32 × Int32 × Int32 × Int32 × (Nat → Int32)) => match u with | (u9, mpt1, mbg1, mwr1, mwk1, g1) => ([(rf_MO mo mw ma mf m0 m1 mu mv u0 u1 iz th mb mn mpt1 mbg1 mwr1 mwk1 mlf men), (rf_RW ct 0 mb 800 b), (rf_RW ct 0 mf 958 g1)] ++ u9))) (va_A ([(rf_MO mo mw ma mf m0 m1 mu mv u0 u1 iz th mb mn mpt mbg mwr (0) mlf men), (rf_RW ct 0 mb 800 b), (rf_RW ct 0 mf 958 g)] ++ ws) sz)) 0 0 (va_A ([(rf_MO mo mw ma mf m0 m1 mu mv u0 u1 iz th mb mn mpt mbg mwr (0) mlf men), (rf_RW ct 0 mb 800 b), (rf_RW ct 0 mf 958 g)] ++ ws) sz) := by
  refine Met.ofW (cc := cX11_readName) (maxL := 4) (ret := (some .boolean)) (by decide) rfl ?_
  intro p e s m args below meth c s₁ B hml hv
  obtain ⟨rfl, hsz, hP, hK, hD0, hX⟩ := hv
  have hx := B.exec
  have hb := B.bytes
  have hr := B.returns
  have hts := ws_all (atoms_spec (ws := ws_ yX11_readName cX11_readName 4 (some .boolean)) B.pre)
  have hown : s.vm.findClass RX11 = some m.cls := findClass_of_methodNamed B.named
  have hlocks := B.notSynchronized
  subst hsz
  have hD := hD0.self (sz := s.heap.size)
  generalize hAe : va_A ([(rf_MO mo mw ma mf m0 m1 mu mv u0 u1 iz th mb mn mpt mbg mwr (0) mlf men), (rf_RW ct 0 mb 800 b), (rf_RW ct 0 mf 958 g)] ++ ws) s.heap.size = A at hD hX ⊢
  have hA : ∀ q : Nat, s.heap.size ≤ q → A q := fun q h => by rw [← hAe]; exact Or.inr h
  have hS : va_S A s.heap s.heap [] := va_S.rf
  have hl := lv_entry ([.ref mo, .int p1]) (n := 4) (Nat.le_of_ble_eq_true rfl)
  rw [lg_entry_eq]
  generalize (lg_sl ([.ref mo, .int p1]) ++ List.replicate (4 - (lg_sl ([.ref mo, .int p1])).length) Slot.unset).toArray = ls at hl ⊢
  have hl : lv_has ls 4 [(0, .ref mo), (1, .int p1)] := hl
  refine lv_aload_n hx hb dX11_readName_0 rfl (lv_at hl 0 rfl) ?_
  have hP : va_P D vwCl ([(rf_RW ct 0 mf 958 g), (rf_MO mo mw ma mf m0 m1 mu mv u0 u1 iz th mb mn mpt mbg mwr (0) mlf men), (rf_RW ct 0 mb 800 b)] ++ ws) s.heap := ty_permP hP (ty_ordp (E := [(rf_MO mo mw ma mf m0 m1 mu mv u0 u1 iz th mb mn mpt mbg mwr (0) mlf men), (rf_RW ct 0 mb 800 b), (rf_RW ct 0 mf 958 g)]) (E2 := [(rf_RW ct 0 mf 958 g), (rf_MO mo mw ma mf m0 m1 mu mv u0 u1 iz th mb mn mpt mbg mwr (0) mlf men), (rf_RW ct 0 mb 800 b)]) (n := 3) [2, 0, 1] rfl rfl (by decide))
  have hD : va_D A ([(rf_RW ct 0 mf 958 g), (rf_MO mo mw ma mf m0 m1 mu mv u0 u1 iz th mb mn mpt mbg mwr (0) mlf men), (rf_RW ct 0 mb 800 b)] ++ ws) := ty_permD hD (ty_ordp (E := [(rf_MO mo mw ma mf m0 m1 mu mv u0 u1 iz th mb mn mpt mbg mwr (0) mlf men), (rf_RW ct 0 mb 800 b), (rf_RW ct 0 mf 958 g)]) (E2 := [(rf_RW ct 0 mf 958 g), (rf_MO mo mw ma mf m0 m1 mu mv u0 u1 iz th mb mn mpt mbg mwr (0) mlf men), (rf_RW ct 0 mb 800 b)]) (n := 3) [2, 0, 1] rfl rfl (by decide))
  refine ty_ki (wr := [(rf_RW ct 0 mf 958 g)]) (wc := ([(rf_MO mo mw ma mf m0 m1 mu mv u0 u1 iz th mb mn mpt mbg mwr (0) mlf men), (rf_RW ct 0 mb 800 b)] ++ ws)) (va_runV (As := []) (rest := []) ⟨hx, hb, hml, hown, hts⟩ (m_X11_see l D ct S ws ph xx mo mw ma mf m0 m1 mu mv u0 u1 iz mb th mn mpt mbg mwr (0 : Int32) mlf men b _ hT hph hy1 hmn (by omega)) (cm_V 0 hts kc_X11_see ki_RX11 kl_RX11_106 kv_X11_see kx_X11_see kd_X11_see ⟨Nat.le_of_ble_eq_true rfl, Nat.le_of_ble_eq_true rfl⟩) (ty_preE (wr := [(rf_RW ct 0 mf 958 g)]) (wc := ([(rf_MO mo mw ma mf m0 m1 mu mv u0 u1 iz th mb mn mpt mbg mwr (0) mlf men), (rf_RW ct 0 mb 800 b)] ++ ws)) (ci := 11) (q0 := 1) hP hK hD hS hA hX rfl rfl) rfl rfl hl.1 rfl (lv_room (Nat.le_of_ble_eq_true rfl)) dX11_readName_1 ⟨Nat.le_of_ble_eq_true rfl, Nat.le_of_ble_eq_true rfl⟩) hP hD hS hA (fun r_1 u H locs hw_2 hP hD hS => ?_)
  obtain ⟨ws_3, rfl⟩ : ∃ z, z = u := ⟨_, rfl⟩
  obtain ⟨hT, rfl⟩ := hw_2
  have hP : va_P D vwCl ([(rf_RW ct 0 mf 958 g), (rf_MO mo mw ma mf m0 m1 mu mv u0 u1 iz th mb mn (rp_sk b mn mpt) (rp_sk b mn mpt) mwr (0) mlf men), (rf_RW ct 0 mb 800 b)] ++ ws_3) H := hP
  have hD : va_D A ([(rf_RW ct 0 mf 958 g), (rf_MO mo mw ma mf m0 m1 mu mv u0 u1 iz th mb mn (rp_sk b mn mpt) (rp_sk b mn mpt) mwr (0) mlf men), (rf_RW ct 0 mb 800 b)] ++ ws_3) := hD
  have hs_4 := rp_sk_b (b := b) (p := mpt) hmn.2 (by omega)
  refine lv_pop hx hb dX11_readName_4 rfl ?_
  refine lv_aload_n hx hb dX11_readName_5 rfl (lv_at hl 0 rfl) ?_
  refine lv_aload_n hx hb dX11_readName_6 rfl (lv_at hl 0 rfl) ?_
  refine va_get (v := .int (rp_sk b mn mpt)) (D := D) (ci := 11) (C := RX11) (T := TX11) (N := 19) hx hb hts in_X11 hown hK hP 1 rfl rfl 14 (by decide) (hts _ kl_RX11_81) (fun _ h9 => h9) rfl dX11_readName_7 ?_
  refine ty_ki (wr := [(rf_RW ct 0 mf 958 g)]) (wc := ([(rf_MO mo mw ma mf m0 m1 mu mv u0 u1 iz th mb mn (rp_sk b mn mpt) (rp_sk b mn mpt) mwr (0) mlf men), (rf_RW ct 0 mb 800 b)] ++ ws_3)) (va_runV (As := [.int (rp_sk b mn mpt)]) (rest := []) ⟨hx, hb, hml, hown, hts⟩ (m_X11_isLetter l D ct S ws_3 ph xx mo mw ma mf m0 m1 mu mv u0 u1 iz mb th mn (rp_sk b mn mpt) (rp_sk b mn mpt) mwr (0 : Int32) mlf men b (rp_sk b mn mpt) _ hT hph hy1 hmn (by omega)) (cm_V 1 hts kc_X11_isLetter ki_RX11 kl_RX11_90 kv_X11_isLetter kx_X11_isLetter kd_X11_isLetter ⟨Nat.le_of_ble_eq_true rfl, Nat.le_of_ble_eq_true rfl⟩) (ty_preE (wr := [(rf_RW ct 0 mf 958 g)]) (wc := ([(rf_MO mo mw ma mf m0 m1 mu mv u0 u1 iz th mb mn (rp_sk b mn mpt) (rp_sk b mn mpt) mwr (0) mlf men), (rf_RW ct 0 mb 800 b)] ++ ws_3)) (ci := 11) (q0 := 1) hP hK hD hS hA hX rfl rfl) rfl rfl hl.1 rfl (lv_room (Nat.le_of_ble_eq_true rfl)) dX11_readName_10 ⟨Nat.le_of_ble_eq_true rfl, Nat.le_of_ble_eq_true rfl⟩) hP hD hS hA (fun r_5 u H locs hw_6 hP hD hS => ?_)
  obtain ⟨ws_7, rfl⟩ : ∃ z, z = u := ⟨_, rfl⟩
  obtain ⟨hT, rfl⟩ := hw_6
  have hP : va_P D vwCl ([(rf_RW ct 0 mf 958 g), (rf_MO mo mw ma mf m0 m1 mu mv u0 u1 iz th mb mn (rp_sk b mn mpt) (rp_sk b mn mpt) mwr (0) mlf men), (rf_RW ct 0 mb 800 b)] ++ ws_7) H := hP
  have hD : va_D A ([(rf_RW ct 0 mf 958 g), (rf_MO mo mw ma mf m0 m1 mu mv u0 u1 iz th mb mn (rp_sk b mn mpt) (rp_sk b mn mpt) mwr (0) mlf men), (rf_RW ct 0 mb 800 b)] ++ ws_7) := hD
  refine lv_if_ne (tgt := 22) hx hb dX11_readName_13 (by decide) (fun hc_8 => ?_) (fun hc_8 => ?_)
  · refine lv_aload_n hx hb dX11_readName_22 rfl (lv_at hl 0 rfl) ?_
    refine ty_ki (wr := [(rf_RW ct 0 mf 958 g)]) (wc := ([(rf_MO mo mw ma mf m0 m1 mu mv u0 u1 iz th mb mn (rp_sk b mn mpt) (rp_sk b mn mpt) mwr (0) mlf men), (rf_RW ct 0 mb 800 b)] ++ ws_7)) (va_runV (As := []) (rest := []) ⟨hx, hb, hml, hown, hts⟩ (m_X11_wordEnd l D ct S ws_7 ph xx mo mw ma mf m0 m1 mu mv u0 u1 iz mb th mn (rp_sk b mn mpt) (rp_sk b mn mpt) mwr (0 : Int32) mlf men b _ hT hph hy1 hmn (by omega)) (cm_V 0 hts kc_X11_wordEnd ki_RX11 kl_RX11_94 kv_X11_wordEnd kx_X11_wordEnd kd_X11_wordEnd ⟨Nat.le_of_ble_eq_true rfl, Nat.le_of_ble_eq_true rfl⟩) (ty_preE (wr := [(rf_RW ct 0 mf 958 g)]) (wc := ([(rf_MO mo mw ma mf m0 m1 mu mv u0 u1 iz th mb mn (rp_sk b mn mpt) (rp_sk b mn mpt) mwr (0) mlf men), (rf_RW ct 0 mb 800 b)] ++ ws_7)) (ci := 11) (q0 := 1) hP hK hD hS hA hX rfl rfl) rfl rfl hl.1 rfl (lv_room (Nat.le_of_ble_eq_true rfl)) dX11_readName_23 ⟨Nat.le_of_ble_eq_true rfl, Nat.le_of_ble_eq_true rfl⟩) hP hD hS hA (fun r_9 u H locs hw_10 hP hD hS => ?_)
    obtain ⟨ws_11, rfl⟩ : ∃ z, z = u := ⟨_, rfl⟩
    obtain ⟨hT, rfl⟩ := hw_10
    have hP : va_P D vwCl ([(rf_RW ct 0 mf 958 g), (rf_MO mo mw ma mf m0 m1 mu mv u0 u1 iz th mb mn (rp_sk b mn mpt) (rp_sk b mn mpt) mwr (0) mlf men), (rf_RW ct 0 mb 800 b)] ++ ws_11) H := hP
    have hD : va_D A ([(rf_RW ct 0 mf 958 g), (rf_MO mo mw ma mf m0 m1 mu mv u0 u1 iz th mb mn (rp_sk b mn mpt) (rp_sk b mn mpt) mwr (0) mlf men), (rf_RW ct 0 mb 800 b)] ++ ws_11) := hD
    have hwe := rp_we_b (b := b) (p := (rp_sk b mn mpt)) hmn.2 (by omega)
    have hsz := rm_sz (b := b) (n := mn) (q := (rp_sk b mn mpt)) (by omega)
    refine lv_aload_n hx hb dX11_readName_26 rfl (lv_at hl 0 rfl) ?_
    refine va_get (v := .int (rp_sk b mn mpt)) (D := D) (ci := 11) (C := RX11) (T := TX11) (N := 19) hx hb hts in_X11 hown hK hP 1 rfl rfl 14 (by decide) (hts _ kl_RX11_81) (fun _ h9 => h9) rfl dX11_readName_27 ?_
    refine lv_isub hx hb dX11_readName_30 ?_
    refine lv_istore_n (lv' := [(2, .int ((rp_we b mn (rp_sk b mn mpt)) - (rp_sk b mn mpt))), (0, .ref mo), (1, .int p1)]) hx hb dX11_readName_31 rfl hl (by decide) rfl (fun ls hl => ?_)
    refine lv_iload_n hx hb dX11_readName_32 rfl (lv_at hl 0 rfl) ?_
    refine lv_bipush (v := 6) hx hb dX11_readName_33 (by decide) ?_
    refine lv_icmp_gt (tgt := 55) hx hb dX11_readName_35 (by decide) (fun hc_12 => ?_) (fun hc_12 => ?_)
    · refine lv_aload_n hx hb dX11_readName_55 rfl (lv_at hl 1 rfl) ?_
      refine lv_iconst (v := 3) hx hb dX11_readName_56 (by decide) ?_
      have hP : va_P D vwCl ([(rf_RW ct 0 mf 958 g), (rf_RW ct 0 mb 800 b), (rf_MO mo mw ma mf m0 m1 mu mv u0 u1 iz th mb mn (rp_sk b mn mpt) (rp_sk b mn mpt) mwr (0) mlf men)] ++ ws_11) H := ty_permP hP (ty_ordp (E := [(rf_RW ct 0 mf 958 g), (rf_MO mo mw ma mf m0 m1 mu mv u0 u1 iz th mb mn (rp_sk b mn mpt) (rp_sk b mn mpt) mwr (0) mlf men), (rf_RW ct 0 mb 800 b)]) (E2 := [(rf_RW ct 0 mf 958 g), (rf_RW ct 0 mb 800 b), (rf_MO mo mw ma mf m0 m1 mu mv u0 u1 iz th mb mn (rp_sk b mn mpt) (rp_sk b mn mpt) mwr (0) mlf men)]) (n := 3) [0, 2, 1] rfl rfl (by decide))
      have hD : va_D A ([(rf_RW ct 0 mf 958 g), (rf_RW ct 0 mb 800 b), (rf_MO mo mw ma mf m0 m1 mu mv u0 u1 iz th mb mn (rp_sk b mn mpt) (rp_sk b mn mpt) mwr (0) mlf men)] ++ ws_11) := ty_permD hD (ty_ordp (E := [(rf_RW ct 0 mf 958 g), (rf_MO mo mw ma mf m0 m1 mu mv u0 u1 iz th mb mn (rp_sk b mn mpt) (rp_sk b mn mpt) mwr (0) mlf men), (rf_RW ct 0 mb 800 b)]) (E2 := [(rf_RW ct 0 mf 958 g), (rf_RW ct 0 mb 800 b), (rf_MO mo mw ma mf m0 m1 mu mv u0 u1 iz th mb mn (rp_sk b mn mpt) (rp_sk b mn mpt) mwr (0) mlf men)]) (n := 3) [0, 2, 1] rfl rfl (by decide))
      refine ty_ki (wr := [(rf_RW ct 0 mf 958 g), (rf_RW ct 0 mb 800 b)]) (wc := ([(rf_MO mo mw ma mf m0 m1 mu mv u0 u1 iz th mb mn (rp_sk b mn mpt) (rp_sk b mn mpt) mwr (0) mlf men)] ++ ws_11)) (va_runV (As := [.int 3]) (rest := []) ⟨hx, hb, hml, hown, hts⟩ (m_X11_fails l D ct S ws_11 ph xx mo mw ma mf m0 m1 mu mv u0 u1 iz mb th mn (rp_sk b mn mpt) (rp_sk b mn mpt) mwr mlf men (3 : Int32) _ hT hph hy1) (cm_V 1 hts kc_X11_fails ki_RX11 kl_RX11_112 kv_X11_fails kx_X11_fails kd_X11_fails ⟨Nat.le_of_ble_eq_true rfl, Nat.le_of_ble_eq_true rfl⟩) (ty_preE (wr := [(rf_RW ct 0 mf 958 g), (rf_RW ct 0 mb 800 b)]) (wc := ([(rf_MO mo mw ma mf m0 m1 mu mv u0 u1 iz th mb mn (rp_sk b mn mpt) (rp_sk b mn mpt) mwr (0) mlf men)] ++ ws_11)) (ci := 11) (q0 := 2) hP hK hD hS hA hX rfl rfl) rfl rfl hl.1 rfl (lv_room (Nat.le_of_ble_eq_true rfl)) dX11_readName_57 ⟨Nat.le_of_ble_eq_true rfl, Nat.le_of_ble_eq_true rfl⟩) hP hD hS hA (fun r_13 u H locs hw_14 hP hD hS => ?_)
      obtain ⟨ws_15, rfl⟩ : ∃ z, z = u := ⟨_, rfl⟩
      obtain ⟨hT, rfl⟩ := hw_14
      have hP : va_P D vwCl ([(rf_RW ct 0 mf 958 g), (rf_RW ct 0 mb 800 b), (rf_MO mo mw ma mf m0 m1 mu mv u0 u1 iz th mb mn (rp_sk b mn mpt) (rp_sk b mn mpt) (rp_sk b mn mpt) (3) mlf men)] ++ ws_15) H := hP
      have hD : va_D A ([(rf_RW ct 0 mf 958 g), (rf_RW ct 0 mb 800 b), (rf_MO mo mw ma mf m0 m1 mu mv u0 u1 iz th mb mn (rp_sk b mn mpt) (rp_sk b mn mpt) (rp_sk b mn mpt) (3) mlf men)] ++ ws_15) := hD
      have hP : va_P D vwCl ([(rf_MO mo mw ma mf m0 m1 mu mv u0 u1 iz th mb mn (rp_sk b mn mpt) (rp_sk b mn mpt) (rp_sk b mn mpt) (3) mlf men), (rf_RW ct 0 mb 800 b), (rf_RW ct 0 mf 958 g)] ++ ws_15) H := ty_permP hP (ty_ordp (E := [(rf_RW ct 0 mf 958 g), (rf_RW ct 0 mb 800 b), (rf_MO mo mw ma mf m0 m1 mu mv u0 u1 iz th mb mn (rp_sk b mn mpt) (rp_sk b mn mpt) (rp_sk b mn mpt) (3) mlf men)]) (E2 := [(rf_MO mo mw ma mf m0 m1 mu mv u0 u1 iz th mb mn (rp_sk b mn mpt) (rp_sk b mn mpt) (rp_sk b mn mpt) (3) mlf men), (rf_RW ct 0 mb 800 b), (rf_RW ct 0 mf 958 g)]) (n := 3) [2, 1, 0] rfl rfl (by decide))
      have hD : va_D A ([(rf_MO mo mw ma mf m0 m1 mu mv u0 u1 iz th mb mn (rp_sk b mn mpt) (rp_sk b mn mpt) (rp_sk b mn mpt) (3) mlf men), (rf_RW ct 0 mb 800 b), (rf_RW ct 0 mf 958 g)] ++ ws_15) := ty_permD hD (ty_ordp (E := [(rf_RW ct 0 mf 958 g), (rf_RW ct 0 mb 800 b), (rf_MO mo mw ma mf m0 m1 mu mv u0 u1 iz th mb mn (rp_sk b mn mpt) (rp_sk b mn mpt) (rp_sk b mn mpt) (3) mlf men)]) (E2 := [(rf_MO mo mw ma mf m0 m1 mu mv u0 u1 iz th mb mn (rp_sk b mn mpt) (rp_sk b mn mpt) (rp_sk b mn mpt) (3) mlf men), (rf_RW ct 0 mb 800 b), (rf_RW ct 0 mf 958 g)]) (n := 3) [2, 1, 0] rfl rfl (by decide))
      exact W.zret (v := 0) hx hb hr (by decide) (fun t ht hW => ⟨⟨0, (ws_15, (rp_sk b mn mpt), (rp_sk b mn mpt), (rp_sk b mn mpt), (3 : Int32), g), rfl, ⟨hT, ⟨by omega, Or.inl ⟨rfl, rm_nk3 (rm_let hc_8) (Or.inl (by have := rm_gt6 hc_12; omega))⟩⟩⟩, by rw [ht]; exact hP, by rw [hAe]; exact hD⟩, hS.F ht⟩) hS.2.2 dX11_readName_60
    · refine lv_aload_n hx hb dX11_readName_38 rfl (lv_at hl 1 rfl) ?_
      refine lv_aload_n hx hb dX11_readName_39 rfl (lv_at hl 1 rfl) ?_
      refine va_get (v := .ref mf) (D := D) (ci := 11) (C := RX11) (T := TX11) (N := 19) hx hb hts in_X11 hown hK hP 1 rfl rfl 2 (by decide) (hts _ kl_RX11_16) (fun _ h9 => h9) rfl dX11_readName_40 ?_
      refine lv_aload_n hx hb dX11_readName_43 rfl (lv_at hl 1 rfl) ?_
      refine va_get (v := .int (rp_sk b mn mpt)) (D := D) (ci := 11) (C := RX11) (T := TX11) (N := 19) hx hb hts in_X11 hown hK hP 1 rfl rfl 14 (by decide) (hts _ kl_RX11_81) (fun _ h9 => h9) rfl dX11_readName_44 ?_
      refine lv_iload_n hx hb dX11_readName_47 rfl (lv_at hl 0 rfl) ?_
      have hP : va_P D vwCl ([(rf_MO mo mw ma mf m0 m1 mu mv u0 u1 iz th mb mn (rp_sk b mn mpt) (rp_sk b mn mpt) mwr (0) mlf men), (rf_RW ct 0 mb 800 b), (rf_RW ct 0 mf 958 g)] ++ ws_11) H := ty_permP hP (ty_ordp (E := [(rf_RW ct 0 mf 958 g), (rf_MO mo mw ma mf m0 m1 mu mv u0 u1 iz th mb mn (rp_sk b mn mpt) (rp_sk b mn mpt) mwr (0) mlf men), (rf_RW ct 0 mb 800 b)]) (E2 := [(rf_MO mo mw ma mf m0 m1 mu mv u0 u1 iz th mb mn (rp_sk b mn mpt) (rp_sk b mn mpt) mwr (0) mlf men), (rf_RW ct 0 mb 800 b), (rf_RW ct 0 mf 958 g)]) (n := 3) [1, 2, 0] rfl rfl (by decide))
      have hD : va_D A ([(rf_MO mo mw ma mf m0 m1 mu mv u0 u1 iz th mb mn (rp_sk b mn mpt) (rp_sk b mn mpt) mwr (0) mlf men), (rf_RW ct 0 mb 800 b), (rf_RW ct 0 mf 958 g)] ++ ws_11) := ty_permD hD (ty_ordp (E := [(rf_RW ct 0 mf 958 g), (rf_MO mo mw ma mf m0 m1 mu mv u0 u1 iz th mb mn (rp_sk b mn mpt) (rp_sk b mn mpt) mwr (0) mlf men), (rf_RW ct 0 mb 800 b)]) (E2 := [(rf_MO mo mw ma mf m0 m1 mu mv u0 u1 iz th mb mn (rp_sk b mn mpt) (rp_sk b mn mpt) mwr (0) mlf men), (rf_RW ct 0 mb 800 b), (rf_RW ct 0 mf 958 g)]) (n := 3) [1, 2, 0] rfl rfl (by decide))
      refine ty_ki (wr := []) (wc := ([(rf_MO mo mw ma mf m0 m1 mu mv u0 u1 iz th mb mn (rp_sk b mn mpt) (rp_sk b mn mpt) mwr (0) mlf men), (rf_RW ct 0 mb 800 b), (rf_RW ct 0 mf 958 g)] ++ ws_11)) (va_runV (As := [.ref mf, .int (rp_sk b mn mpt), .int ((rp_we b mn (rp_sk b mn mpt)) - (rp_sk b mn mpt))]) (rest := []) ⟨hx, hb, hml, hown, hts⟩ (m_named_v l D ct S ws_11 ph xx mo mw ma mf m0 m1 mu mv u0 u1 iz mb th mn (rp_sk b mn mpt) (rp_sk b mn mpt) mwr (0 : Int32) mlf men b mf (rp_sk b mn mpt) ((rp_we b mn (rp_sk b mn mpt)) - (rp_sk b mn mpt)) g N _ hT hph hy1 (rf_Ls hL).2.2 (by omega) hN) (cm_V 3 hts kc_X11_named ki_RX11 kl_RX11_129 kv_X11_named kx_X11_named kd_X11_named ⟨Nat.le_of_ble_eq_true rfl, Nat.le_of_ble_eq_true rfl⟩) (ty_preE (wr := []) (wc := ([(rf_MO mo mw ma mf m0 m1 mu mv u0 u1 iz th mb mn (rp_sk b mn mpt) (rp_sk b mn mpt) mwr (0) mlf men), (rf_RW ct 0 mb 800 b), (rf_RW ct 0 mf 958 g)] ++ ws_11)) (ci := 11) (q0 := 0) hP hK hD hS hA hX rfl rfl) rfl rfl hl.1 rfl (lv_room (Nat.le_of_ble_eq_true rfl)) dX11_readName_48 ⟨Nat.le_of_ble_eq_true rfl, Nat.le_of_ble_eq_true rfl⟩) hP hD hS hA (fun r_16 u H locs hw_17 hP hD hS => ?_)
      obtain ⟨ws_18, rfl⟩ : ∃ z, z = u := ⟨_, rfl⟩
      obtain ⟨hT, hp_19⟩ := hw_17
      have hp_19 : ((r_16 = -1 ∧ ¬ (rm_w b (rp_sk b mn mpt) ((rp_we b mn (rp_sk b mn mpt)) - (rp_sk b mn mpt))) ∈ N) ∨ ((0 ≤ r_16.toInt ∧ r_16.toInt < N.length) ∧ (rm_w b (rp_sk b mn mpt) ((rp_we b mn (rp_sk b mn mpt)) - (rp_sk b mn mpt))) ∈ N)) := hp_19
      have hP : va_P D vwCl ([(rf_MO mo mw ma mf m0 m1 mu mv u0 u1 iz th mb mn (rp_sk b mn mpt) (rp_sk b mn mpt) mwr (0) mlf men), (rf_RW ct 0 mb 800 b), (rf_RW ct 0 mf 958 g)] ++ ws_18) H := hP
      have hD : va_D A ([(rf_MO mo mw ma mf m0 m1 mu mv u0 u1 iz th mb mn (rp_sk b mn mpt) (rp_sk b mn mpt) mwr (0) mlf men), (rf_RW ct 0 mb 800 b), (rf_RW ct 0 mf 958 g)] ++ ws_18) := hD
      have hww := rm_ww (b := b) (n := mn) (p := (rp_sk b mn mpt)) (m := ((rp_we b mn (rp_sk b mn mpt)) - (rp_sk b mn mpt))) hsz.1
      rw [hww] at hp_19
      refine lv_iconst (v := (-1)) hx hb dX11_readName_51 (by decide) ?_
      refine lv_icmp_eq (tgt := 61) hx hb dX11_readName_52 (by decide) (fun hc_20 => ?_) (fun hc_20 => ?_)
      · refine lv_aload_n hx hb dX11_readName_61 rfl (lv_at hl 1 rfl) ?_
        refine va_get (v := .ref mf) (D := D) (ci := 11) (C := RX11) (T := TX11) (N := 19) hx hb hts in_X11 hown hK hP 0 rfl rfl 2 (by decide) (hts _ kl_RX11_16) (fun _ h9 => h9) rfl dX11_readName_62 ?_
        refine lv_iload_n hx hb dX11_readName_65 rfl (lv_at hl 2 rfl) ?_
        refine lv_iload_n hx hb dX11_readName_66 rfl (lv_at hl 0 rfl) ?_
        refine va_iast hx hb hK hP hD hS 2 0 rfl rfl (rf_vin (by have := (rf_Ls hL).2.2; omega)) dX11_readName_67 (fun H locs hP hD hS => ?_)
        have hP : va_P D vwCl ([(rf_MO mo mw ma mf m0 m1 mu mv u0 u1 iz th mb mn (rp_sk b mn mpt) (rp_sk b mn mpt) mwr (0) mlf men), (rf_RW ct 0 mb 800 b), (rf_RW ct 0 mf 958 (upd g p1.toNatClampNeg ((rp_we b mn (rp_sk b mn mpt)) - (rp_sk b mn mpt))))] ++ ws_18) H := hP
        have hD : va_D A ([(rf_MO mo mw ma mf m0 m1 mu mv u0 u1 iz th mb mn (rp_sk b mn mpt) (rp_sk b mn mpt) mwr (0) mlf men), (rf_RW ct 0 mb 800 b), (rf_RW ct 0 mf 958 (upd g p1.toNatClampNeg ((rp_we b mn (rp_sk b mn mpt)) - (rp_sk b mn mpt))))] ++ ws_18) := hD
        refine lv_iconst (v := 0) hx hb dX11_readName_68 (by decide) ?_
        refine lv_istore_n (lv' := [(3, .int 0), (2, .int ((rp_we b mn (rp_sk b mn mpt)) - (rp_sk b mn mpt))), (0, .ref mo), (1, .int p1)]) hx hb dX11_readName_69 rfl hl (by decide) rfl (fun ls hl => ?_)
        refine ty_loop (I := fun μ H locs ls => ∃ (ws : va_W) (y_21 : Int32) (g_22 : Nat → Int32), μ = (2147483648 - y_21.toInt).toNat ∧ ty_V ct S ph ws ∧ va_P D vwCl ([(rf_MO mo mw ma mf m0 m1 mu mv u0 u1 iz th mb mn (rp_sk b mn mpt) (rp_sk b mn mpt) mwr (0) mlf men), (rf_RW ct 0 mb 800 b), (rf_RW ct 0 mf 958 g_22)] ++ ws) H ∧ va_D A ([(rf_MO mo mw ma mf m0 m1 mu mv u0 u1 iz th mb mn (rp_sk b mn mpt) (rp_sk b mn mpt) mwr (0) mlf men), (rf_RW ct 0 mb 800 b), (rf_RW ct 0 mf 958 g_22)] ++ ws) ∧ va_S A s.heap H locs ∧ lv_has ls 4 [(0, .ref mo), (1, .int p1), (2, .int ((rp_we b mn (rp_sk b mn mpt)) - (rp_sk b mn mpt))), (3, .int y_21)] ∧ 0 ≤ y_21.toInt ∧ rf_La g g_22 ∧ rm_en b g g_22 (g 11).toInt.toNat (rp_sk b mn mpt) ((rp_we b mn (rp_sk b mn mpt)) - (rp_sk b mn mpt)) y_21) ⟨_, ws_18, (0 : Int32), (upd g p1.toNatClampNeg ((rp_we b mn (rp_sk b mn mpt)) - (rp_sk b mn mpt))), rfl, hT, hP, hD, hS, (lv_sub hl [2, 3, 1, 0] rfl), (by decide), rf_La1 (rf_La0 hL) (by have := (rf_Ls hL).2.2; omega), rm_en0 (by have := (rf_Ls hL).2.2; omega)⟩ (fun μ H locs ls hI ih_70 => ?_)
        obtain ⟨ws, y_21, g_22, rfl, hT, hP, hD, hS, hl, hex_70⟩ := hI
        refine lv_iload_n hx hb dX11_readName_70 rfl (lv_at hl 3 rfl) ?_
        refine lv_iload_n hx hb dX11_readName_71 rfl (lv_at hl 2 rfl) ?_
        refine lv_icmp_ge (tgt := 102) hx hb dX11_readName_72 (by decide) (fun hc_23 => ?_) (fun hc_23 => ?_)
        · refine lv_aload_n hx hb dX11_readName_102 rfl (lv_at hl 0 rfl) ?_
          have hP : va_P D vwCl ([(rf_RW ct 0 mf 958 g_22), (rf_MO mo mw ma mf m0 m1 mu mv u0 u1 iz th mb mn (rp_sk b mn mpt) (rp_sk b mn mpt) mwr (0) mlf men), (rf_RW ct 0 mb 800 b)] ++ ws) H := ty_permP hP (ty_ordp (E := [(rf_MO mo mw ma mf m0 m1 mu mv u0 u1 iz th mb mn (rp_sk b mn mpt) (rp_sk b mn mpt) mwr (0) mlf men), (rf_RW ct 0 mb 800 b), (rf_RW ct 0 mf 958 g_22)]) (E2 := [(rf_RW ct 0 mf 958 g_22), (rf_MO mo mw ma mf m0 m1 mu mv u0 u1 iz th mb mn (rp_sk b mn mpt) (rp_sk b mn mpt) mwr (0) mlf men), (rf_RW ct 0 mb 800 b)]) (n := 3) [2, 0, 1] rfl rfl (by decide))
          have hD : va_D A ([(rf_RW ct 0 mf 958 g_22), (rf_MO mo mw ma mf m0 m1 mu mv u0 u1 iz th mb mn (rp_sk b mn mpt) (rp_sk b mn mpt) mwr (0) mlf men), (rf_RW ct 0 mb 800 b)] ++ ws) := ty_permD hD (ty_ordp (E := [(rf_MO mo mw ma mf m0 m1 mu mv u0 u1 iz th mb mn (rp_sk b mn mpt) (rp_sk b mn mpt) mwr (0) mlf men), (rf_RW ct 0 mb 800 b), (rf_RW ct 0 mf 958 g_22)]) (E2 := [(rf_RW ct 0 mf 958 g_22), (rf_MO mo mw ma mf m0 m1 mu mv u0 u1 iz th mb mn (rp_sk b mn mpt) (rp_sk b mn mpt) mwr (0) mlf men), (rf_RW ct 0 mb 800 b)]) (n := 3) [2, 0, 1] rfl rfl (by decide))
          refine ty_ki (wr := [(rf_RW ct 0 mf 958 g_22)]) (wc := ([(rf_MO mo mw ma mf m0 m1 mu mv u0 u1 iz th mb mn (rp_sk b mn mpt) (rp_sk b mn mpt) mwr (0) mlf men), (rf_RW ct 0 mb 800 b)] ++ ws)) (va_runV (As := []) (rest := []) ⟨hx, hb, hml, hown, hts⟩ (m_X11_passes l D ct S ws ph xx mo mw ma mf m0 m1 mu mv u0 u1 iz mb th mn (rp_sk b mn mpt) (rp_sk b mn mpt) mwr (0 : Int32) mlf men b _ hT hph hy1 hmn (by omega)) (cm_V 0 hts kc_X11_passes ki_RX11 kl_RX11_133 kv_X11_passes kx_X11_passes kd_X11_passes ⟨Nat.le_of_ble_eq_true rfl, Nat.le_of_ble_eq_true rfl⟩) (ty_preE (wr := [(rf_RW ct 0 mf 958 g_22)]) (wc := ([(rf_MO mo mw ma mf m0 m1 mu mv u0 u1 iz th mb mn (rp_sk b mn mpt) (rp_sk b mn mpt) mwr (0) mlf men), (rf_RW ct 0 mb 800 b)] ++ ws)) (ci := 11) (q0 := 1) hP hK hD hS hA hX rfl rfl) rfl rfl hl.1 rfl (lv_room (Nat.le_of_ble_eq_true rfl)) dX11_readName_103 ⟨Nat.le_of_ble_eq_true rfl, Nat.le_of_ble_eq_true rfl⟩) hP hD hS hA (fun r_24 u H locs hw_25 hP hD hS => ?_)
          obtain ⟨ws_26, rfl⟩ : ∃ z, z = u := ⟨_, rfl⟩
          obtain ⟨hT, rfl⟩ := hw_25
          have hP : va_P D vwCl ([(rf_RW ct 0 mf 958 g_22), (rf_MO mo mw ma mf m0 m1 mu mv u0 u1 iz th mb mn (rp_we b mn (rp_sk b mn mpt)) (rp_sk b mn mpt) mwr (0) mlf men), (rf_RW ct 0 mb 800 b)] ++ ws_26) H := hP
          have hD : va_D A ([(rf_RW ct 0 mf 958 g_22), (rf_MO mo mw ma mf m0 m1 mu mv u0 u1 iz th mb mn (rp_we b mn (rp_sk b mn mpt)) (rp_sk b mn mpt) mwr (0) mlf men), (rf_RW ct 0 mb 800 b)] ++ ws_26) := hD
          have hs_27 := rp_we_b (b := b) (p := (rp_sk b mn mpt)) hmn.2 (by omega)
          have hP : va_P D vwCl ([(rf_MO mo mw ma mf m0 m1 mu mv u0 u1 iz th mb mn (rp_we b mn (rp_sk b mn mpt)) (rp_sk b mn mpt) mwr (0) mlf men), (rf_RW ct 0 mb 800 b), (rf_RW ct 0 mf 958 g_22)] ++ ws_26) H := ty_permP hP (ty_ordp (E := [(rf_RW ct 0 mf 958 g_22), (rf_MO mo mw ma mf m0 m1 mu mv u0 u1 iz th mb mn (rp_we b mn (rp_sk b mn mpt)) (rp_sk b mn mpt) mwr (0) mlf men), (rf_RW ct 0 mb 800 b)]) (E2 := [(rf_MO mo mw ma mf m0 m1 mu mv u0 u1 iz th mb mn (rp_we b mn (rp_sk b mn mpt)) (rp_sk b mn mpt) mwr (0) mlf men), (rf_RW ct 0 mb 800 b), (rf_RW ct 0 mf 958 g_22)]) (n := 3) [1, 2, 0] rfl rfl (by decide))
          have hD : va_D A ([(rf_MO mo mw ma mf m0 m1 mu mv u0 u1 iz th mb mn (rp_we b mn (rp_sk b mn mpt)) (rp_sk b mn mpt) mwr (0) mlf men), (rf_RW ct 0 mb 800 b), (rf_RW ct 0 mf 958 g_22)] ++ ws_26) := ty_permD hD (ty_ordp (E := [(rf_RW ct 0 mf 958 g_22), (rf_MO mo mw ma mf m0 m1 mu mv u0 u1 iz th mb mn (rp_we b mn (rp_sk b mn mpt)) (rp_sk b mn mpt) mwr (0) mlf men), (rf_RW ct 0 mb 800 b)]) (E2 := [(rf_MO mo mw ma mf m0 m1 mu mv u0 u1 iz th mb mn (rp_we b mn (rp_sk b mn mpt)) (rp_sk b mn mpt) mwr (0) mlf men), (rf_RW ct 0 mb 800 b), (rf_RW ct 0 mf 958 g_22)]) (n := 3) [1, 2, 0] rfl rfl (by decide))
          exact W.zret (v := 1) hx hb hr (by decide) (fun t ht hW => ⟨⟨1, (ws_26, (rp_we b mn (rp_sk b mn mpt)), (rp_sk b mn mpt), mwr, (0 : Int32), g_22), rfl, ⟨hT, ⟨by omega, Or.inr ⟨rfl, rm_nk0 (rm_let hc_8) (fun z => z.elim (fun y => by have := rf_ngt6 hc_12; omega) (rm_m1 hp_19 hc_20)), rfl, rfl, hex_70.2.1, rm_ene hex_70.2.2 (Int32.le_iff_toInt_le.mp hc_23) hsz.1 (by omega)⟩⟩⟩, by rw [ht]; exact hP, by rw [hAe]; exact hD⟩, hS.F ht⟩) hS.2.2 dX11_readName_106
        · refine lv_aload_n hx hb dX11_readName_75 rfl (lv_at hl 0 rfl) ?_
          refine va_get (v := .ref mf) (D := D) (ci := 11) (C := RX11) (T := TX11) (N := 19) hx hb hts in_X11 hown hK hP 0 rfl rfl 2 (by decide) (hts _ kl_RX11_16) (fun _ h9 => h9) rfl dX11_readName_76 ?_
          refine lv_iload_n hx hb dX11_readName_79 rfl (lv_at hl 1 rfl) ?_
          refine lv_iconst (v := 1) hx hb dX11_readName_80 (by decide) ?_
          refine lv_iadd hx hb dX11_readName_81 ?_
          refine lv_iload_n hx hb dX11_readName_82 rfl (lv_at hl 3 rfl) ?_
          refine lv_iadd hx hb dX11_readName_83 ?_
          refine lv_aload_n hx hb dX11_readName_84 rfl (lv_at hl 0 rfl) ?_
          refine va_get (v := .ref mb) (D := D) (ci := 11) (C := RX11) (T := TX11) (N := 19) hx hb hts in_X11 hown hK hP 0 rfl rfl 11 (by decide) (hts _ kl_RX11_42) (fun _ h9 => h9) rfl dX11_readName_85 ?_
          refine lv_aload_n hx hb dX11_readName_88 rfl (lv_at hl 0 rfl) ?_
          refine va_get (v := .int (rp_sk b mn mpt)) (D := D) (ci := 11) (C := RX11) (T := TX11) (N := 19) hx hb hts in_X11 hown hK hP 0 rfl rfl 14 (by decide) (hts _ kl_RX11_81) (fun _ h9 => h9) rfl dX11_readName_89 ?_
          refine lv_iload_n hx hb dX11_readName_92 rfl (lv_at hl 3 rfl) ?_
          refine lv_iadd hx hb dX11_readName_93 ?_
          refine va_iald hx hb hK hP 1 0 rfl rfl (rf_vin (by have := (rf_Ls hL).2.2; have := hex_70.1; have := rf_ngt6 hc_12; have := rf_lth hc_23; have e31 := rf_pk (x := p1) (k := 1) (K := 1) (by decide) (by omega) (by omega); have e32 := rf_pk (x := (p1 + 1)) (k := y_21) (K := y_21.toInt) rfl (by omega) (by omega); have e33 := rm_a9 (x := (rp_sk b mn mpt)) (k := y_21) (by omega) (by omega); omega)) dX11_readName_94 ?_
          refine va_iast hx hb hK hP hD hS 2 0 rfl rfl (rf_vin (by have := (rf_Ls hL).2.2; have := hex_70.1; have := rf_ngt6 hc_12; have := rf_lth hc_23; have e31 := rf_pk (x := p1) (k := 1) (K := 1) (by decide) (by omega) (by omega); have e32 := rf_pk (x := (p1 + 1)) (k := y_21) (K := y_21.toInt) rfl (by omega) (by omega); have e33 := rm_a9 (x := (rp_sk b mn mpt)) (k := y_21) (by omega) (by omega); omega)) dX11_readName_95 (fun H locs hP hD hS => ?_)
          have hP : va_P D vwCl ([(rf_MO mo mw ma mf m0 m1 mu mv u0 u1 iz th mb mn (rp_sk b mn mpt) (rp_sk b mn mpt) mwr (0) mlf men), (rf_RW ct 0 mb 800 b), (rf_RW ct 0 mf 958 (upd g_22 ((p1 + 1) + y_21).toNatClampNeg (b ((rp_sk b mn mpt) + y_21).toNatClampNeg)))] ++ ws) H := hP
          have hD : va_D A ([(rf_MO mo mw ma mf m0 m1 mu mv u0 u1 iz th mb mn (rp_sk b mn mpt) (rp_sk b mn mpt) mwr (0) mlf men), (rf_RW ct 0 mb 800 b), (rf_RW ct 0 mf 958 (upd g_22 ((p1 + 1) + y_21).toNatClampNeg (b ((rp_sk b mn mpt) + y_21).toNatClampNeg)))] ++ ws) := hD
          refine lv_iinc (v := (y_21 + Int32.ofInt 1)) (lv' := [(3, .int (y_21 + Int32.ofInt 1)), (0, .ref mo), (1, .int p1), (2, .int ((rp_we b mn (rp_sk b mn mpt)) - (rp_sk b mn mpt)))]) hx hb dX11_readName_96 hl (k := 3) rfl rfl (by decide) rfl (fun ls hl => ?_)
          refine lv_goto (tgt := 70) hx hb dX11_readName_99 (by decide) ?_
          exact ih_70 _ _ _ _ (ty_inc (cm_lt hc_23)) ⟨ws, (y_21 + Int32.ofInt 1), (upd g_22 ((p1 + 1) + y_21).toNatClampNeg (b ((rp_sk b mn mpt) + y_21).toNatClampNeg)), rfl, hT, hP, hD, hS, (lv_sub hl [1, 2, 3, 0] rfl), ty_nn hex_70.1 (cm_lt hc_23), rf_La1 hex_70.2.1 (by have := (rf_Ls hL).2.2; have := hex_70.1; have := rf_ngt6 hc_12; have := rf_lth hc_23; have e31 := rf_pk (x := p1) (k := 1) (K := 1) (by decide) (by omega) (by omega); have e32 := rf_pk (x := (p1 + 1)) (k := y_21) (K := y_21.toInt) rfl (by omega) (by omega); have e33 := rm_a9 (x := (rp_sk b mn mpt)) (k := y_21) (by omega) (by omega); omega), rm_ens hex_70.2.2 (by have := (rf_Ls hL).2.2; have := hex_70.1; have := rf_ngt6 hc_12; have := rf_lth hc_23; have e31 := rf_pk (x := p1) (k := 1) (K := 1) (by decide) (by omega) (by omega); have e32 := rf_pk (x := (p1 + 1)) (k := y_21) (K := y_21.toInt) rfl (by omega) (by omega); have e33 := rm_a9 (x := (rp_sk b mn mpt)) (k := y_21) (by omega) (by omega); omega) (by have := (rf_Ls hL).2.2; have := hex_70.1; have := rf_ngt6 hc_12; have := rf_lth hc_23; have e31 := rf_pk (x := p1) (k := 1) (K := 1) (by decide) (by omega) (by omega); have e32 := rf_pk (x := (p1 + 1)) (k := y_21) (K := y_21.toInt) rfl (by omega) (by omega); have e33 := rm_a9 (x := (rp_sk b mn mpt)) (k := y_21) (by omega) (by omega); omega) (by have := (rf_Ls hL).2.2; have := hex_70.1; have := rf_ngt6 hc_12; have := rf_lth hc_23; have e31 := rf_pk (x := p1) (k := 1) (K := 1) (by decide) (by omega) (by omega); have e32 := rf_pk (x := (p1 + 1)) (k := y_21) (K := y_21.toInt) rfl (by omega) (by omega); have e33 := rm_a9 (x := (rp_sk b mn mpt)) (k := y_21) (by omega) (by omega); omega) (by omega)⟩
      · refine lv_aload_n hx hb dX11_readName_55 rfl (lv_at hl 1 rfl) ?_
        refine lv_iconst (v := 3) hx hb dX11_readName_56 (by decide) ?_
        have hP : va_P D vwCl ([(rf_RW ct 0 mb 800 b), (rf_RW ct 0 mf 958 g), (rf_MO mo mw ma mf m0 m1 mu mv u0 u1 iz th mb mn (rp_sk b mn mpt) (rp_sk b mn mpt) mwr (0) mlf men)] ++ ws_18) H := ty_permP hP (ty_ordp (E := [(rf_MO mo mw ma mf m0 m1 mu mv u0 u1 iz th mb mn (rp_sk b mn mpt) (rp_sk b mn mpt) mwr (0) mlf men), (rf_RW ct 0 mb 800 b), (rf_RW ct 0 mf 958 g)]) (E2 := [(rf_RW ct 0 mb 800 b), (rf_RW ct 0 mf 958 g), (rf_MO mo mw ma mf m0 m1 mu mv u0 u1 iz th mb mn (rp_sk b mn mpt) (rp_sk b mn mpt) mwr (0) mlf men)]) (n := 3) [1, 2, 0] rfl rfl (by decide))
        have hD : va_D A ([(rf_RW ct 0 mb 800 b), (rf_RW ct 0 mf 958 g), (rf_MO mo mw ma mf m0 m1 mu mv u0 u1 iz th mb mn (rp_sk b mn mpt) (rp_sk b mn mpt) mwr (0) mlf men)] ++ ws_18) := ty_permD hD (ty_ordp (E := [(rf_MO mo mw ma mf m0 m1 mu mv u0 u1 iz th mb mn (rp_sk b mn mpt) (rp_sk b mn mpt) mwr (0) mlf men), (rf_RW ct 0 mb 800 b), (rf_RW ct 0 mf 958 g)]) (E2 := [(rf_RW ct 0 mb 800 b), (rf_RW ct 0 mf 958 g), (rf_MO mo mw ma mf m0 m1 mu mv u0 u1 iz th mb mn (rp_sk b mn mpt) (rp_sk b mn mpt) mwr (0) mlf men)]) (n := 3) [1, 2, 0] rfl rfl (by decide))
        refine ty_ki (wr := [(rf_RW ct 0 mb 800 b), (rf_RW ct 0 mf 958 g)]) (wc := ([(rf_MO mo mw ma mf m0 m1 mu mv u0 u1 iz th mb mn (rp_sk b mn mpt) (rp_sk b mn mpt) mwr (0) mlf men)] ++ ws_18)) (va_runV (As := [.int 3]) (rest := []) ⟨hx, hb, hml, hown, hts⟩ (m_X11_fails l D ct S ws_18 ph xx mo mw ma mf m0 m1 mu mv u0 u1 iz mb th mn (rp_sk b mn mpt) (rp_sk b mn mpt) mwr mlf men (3 : Int32) _ hT hph hy1) (cm_V 1 hts kc_X11_fails ki_RX11 kl_RX11_112 kv_X11_fails kx_X11_fails kd_X11_fails ⟨Nat.le_of_ble_eq_true rfl, Nat.le_of_ble_eq_true rfl⟩) (ty_preE (wr := [(rf_RW ct 0 mb 800 b), (rf_RW ct 0 mf 958 g)]) (wc := ([(rf_MO mo mw ma mf m0 m1 mu mv u0 u1 iz th mb mn (rp_sk b mn mpt) (rp_sk b mn mpt) mwr (0) mlf men)] ++ ws_18)) (ci := 11) (q0 := 2) hP hK hD hS hA hX rfl rfl) rfl rfl hl.1 rfl (lv_room (Nat.le_of_ble_eq_true rfl)) dX11_readName_57 ⟨Nat.le_of_ble_eq_true rfl, Nat.le_of_ble_eq_true rfl⟩) hP hD hS hA (fun r_28 u H locs hw_29 hP hD hS => ?_)
        obtain ⟨ws_30, rfl⟩ : ∃ z, z = u := ⟨_, rfl⟩
        obtain ⟨hT, rfl⟩ := hw_29
        have hP : va_P D vwCl ([(rf_RW ct 0 mb 800 b), (rf_RW ct 0 mf 958 g), (rf_MO mo mw ma mf m0 m1 mu mv u0 u1 iz th mb mn (rp_sk b mn mpt) (rp_sk b mn mpt) (rp_sk b mn mpt) (3) mlf men)] ++ ws_30) H := hP
        have hD : va_D A ([(rf_RW ct 0 mb 800 b), (rf_RW ct 0 mf 958 g), (rf_MO mo mw ma mf m0 m1 mu mv u0 u1 iz th mb mn (rp_sk b mn mpt) (rp_sk b mn mpt) (rp_sk b mn mpt) (3) mlf men)] ++ ws_30) := hD
        have hP : va_P D vwCl ([(rf_MO mo mw ma mf m0 m1 mu mv u0 u1 iz th mb mn (rp_sk b mn mpt) (rp_sk b mn mpt) (rp_sk b mn mpt) (3) mlf men), (rf_RW ct 0 mb 800 b), (rf_RW ct 0 mf 958 g)] ++ ws_30) H := ty_permP hP (ty_ordp (E := [(rf_RW ct 0 mb 800 b), (rf_RW ct 0 mf 958 g), (rf_MO mo mw ma mf m0 m1 mu mv u0 u1 iz th mb mn (rp_sk b mn mpt) (rp_sk b mn mpt) (rp_sk b mn mpt) (3) mlf men)]) (E2 := [(rf_MO mo mw ma mf m0 m1 mu mv u0 u1 iz th mb mn (rp_sk b mn mpt) (rp_sk b mn mpt) (rp_sk b mn mpt) (3) mlf men), (rf_RW ct 0 mb 800 b), (rf_RW ct 0 mf 958 g)]) (n := 3) [2, 0, 1] rfl rfl (by decide))
        have hD : va_D A ([(rf_MO mo mw ma mf m0 m1 mu mv u0 u1 iz th mb mn (rp_sk b mn mpt) (rp_sk b mn mpt) (rp_sk b mn mpt) (3) mlf men), (rf_RW ct 0 mb 800 b), (rf_RW ct 0 mf 958 g)] ++ ws_30) := ty_permD hD (ty_ordp (E := [(rf_RW ct 0 mb 800 b), (rf_RW ct 0 mf 958 g), (rf_MO mo mw ma mf m0 m1 mu mv u0 u1 iz th mb mn (rp_sk b mn mpt) (rp_sk b mn mpt) (rp_sk b mn mpt) (3) mlf men)]) (E2 := [(rf_MO mo mw ma mf m0 m1 mu mv u0 u1 iz th mb mn (rp_sk b mn mpt) (rp_sk b mn mpt) (rp_sk b mn mpt) (3) mlf men), (rf_RW ct 0 mb 800 b), (rf_RW ct 0 mf 958 g)]) (n := 3) [2, 0, 1] rfl rfl (by decide))
        exact W.zret (v := 0) hx hb hr (by decide) (fun t ht hW => ⟨⟨0, (ws_30, (rp_sk b mn mpt), (rp_sk b mn mpt), (rp_sk b mn mpt), (3 : Int32), g), rfl, ⟨hT, ⟨by omega, Or.inl ⟨rfl, rm_nk3 (rm_let hc_8) (Or.inr (rm_m2 hp_19 hc_20).2)⟩⟩⟩, by rw [ht]; exact hP, by rw [hAe]; exact hD⟩, hS.F ht⟩) hS.2.2 dX11_readName_60
  · refine lv_aload_n hx hb dX11_readName_16 rfl (lv_at hl 0 rfl) ?_
    refine lv_iconst (v := 1) hx hb dX11_readName_17 (by decide) ?_
    have hP : va_P D vwCl ([(rf_RW ct 0 mf 958 g), (rf_RW ct 0 mb 800 b), (rf_MO mo mw ma mf m0 m1 mu mv u0 u1 iz th mb mn (rp_sk b mn mpt) (rp_sk b mn mpt) mwr (0) mlf men)] ++ ws_7) H := ty_permP hP (ty_ordp (E := [(rf_RW ct 0 mf 958 g), (rf_MO mo mw ma mf m0 m1 mu mv u0 u1 iz th mb mn (rp_sk b mn mpt) (rp_sk b mn mpt) mwr (0) mlf men), (rf_RW ct 0 mb 800 b)]) (E2 := [(rf_RW ct 0 mf 958 g), (rf_RW ct 0 mb 800 b), (rf_MO mo mw ma mf m0 m1 mu mv u0 u1 iz th mb mn (rp_sk b mn mpt) (rp_sk b mn mpt) mwr (0) mlf men)]) (n := 3) [0, 2, 1] rfl rfl (by decide))
    have hD : va_D A ([(rf_RW ct 0 mf 958 g), (rf_RW ct 0 mb 800 b), (rf_MO mo mw ma mf m0 m1 mu mv u0 u1 iz th mb mn (rp_sk b mn mpt) (rp_sk b mn mpt) mwr (0) mlf men)] ++ ws_7) := ty_permD hD (ty_ordp (E := [(rf_RW ct 0 mf 958 g), (rf_MO mo mw ma mf m0 m1 mu mv u0 u1 iz th mb mn (rp_sk b mn mpt) (rp_sk b mn mpt) mwr (0) mlf men), (rf_RW ct 0 mb 800 b)]) (E2 := [(rf_RW ct 0 mf 958 g), (rf_RW ct 0 mb 800 b), (rf_MO mo mw ma mf m0 m1 mu mv u0 u1 iz th mb mn (rp_sk b mn mpt) (rp_sk b mn mpt) mwr (0) mlf men)]) (n := 3) [0, 2, 1] rfl rfl (by decide))
    refine ty_ki (wr := [(rf_RW ct 0 mf 958 g), (rf_RW ct 0 mb 800 b)]) (wc := ([(rf_MO mo mw ma mf m0 m1 mu mv u0 u1 iz th mb mn (rp_sk b mn mpt) (rp_sk b mn mpt) mwr (0) mlf men)] ++ ws_7)) (va_runV (As := [.int 1]) (rest := []) ⟨hx, hb, hml, hown, hts⟩ (m_X11_fails l D ct S ws_7 ph xx mo mw ma mf m0 m1 mu mv u0 u1 iz mb th mn (rp_sk b mn mpt) (rp_sk b mn mpt) mwr mlf men (1 : Int32) _ hT hph hy1) (cm_V 1 hts kc_X11_fails ki_RX11 kl_RX11_112 kv_X11_fails kx_X11_fails kd_X11_fails ⟨Nat.le_of_ble_eq_true rfl, Nat.le_of_ble_eq_true rfl⟩) (ty_preE (wr := [(rf_RW ct 0 mf 958 g), (rf_RW ct 0 mb 800 b)]) (wc := ([(rf_MO mo mw ma mf m0 m1 mu mv u0 u1 iz th mb mn (rp_sk b mn mpt) (rp_sk b mn mpt) mwr (0) mlf men)] ++ ws_7)) (ci := 11) (q0 := 2) hP hK hD hS hA hX rfl rfl) rfl rfl hl.1 rfl (lv_room (Nat.le_of_ble_eq_true rfl)) dX11_readName_18 ⟨Nat.le_of_ble_eq_true rfl, Nat.le_of_ble_eq_true rfl⟩) hP hD hS hA (fun r_31 u H locs hw_32 hP hD hS => ?_)
    obtain ⟨ws_33, rfl⟩ : ∃ z, z = u := ⟨_, rfl⟩
    obtain ⟨hT, rfl⟩ := hw_32
    have hP : va_P D vwCl ([(rf_RW ct 0 mf 958 g), (rf_RW ct 0 mb 800 b), (rf_MO mo mw ma mf m0 m1 mu mv u0 u1 iz th mb mn (rp_sk b mn mpt) (rp_sk b mn mpt) (rp_sk b mn mpt) (1) mlf men)] ++ ws_33) H := hP
    have hD : va_D A ([(rf_RW ct 0 mf 958 g), (rf_RW ct 0 mb 800 b), (rf_MO mo mw ma mf m0 m1 mu mv u0 u1 iz th mb mn (rp_sk b mn mpt) (rp_sk b mn mpt) (rp_sk b mn mpt) (1) mlf men)] ++ ws_33) := hD
    have hP : va_P D vwCl ([(rf_MO mo mw ma mf m0 m1 mu mv u0 u1 iz th mb mn (rp_sk b mn mpt) (rp_sk b mn mpt) (rp_sk b mn mpt) (1) mlf men), (rf_RW ct 0 mb 800 b), (rf_RW ct 0 mf 958 g)] ++ ws_33) H := ty_permP hP (ty_ordp (E := [(rf_RW ct 0 mf 958 g), (rf_RW ct 0 mb 800 b), (rf_MO mo mw ma mf m0 m1 mu mv u0 u1 iz th mb mn (rp_sk b mn mpt) (rp_sk b mn mpt) (rp_sk b mn mpt) (1) mlf men)]) (E2 := [(rf_MO mo mw ma mf m0 m1 mu mv u0 u1 iz th mb mn (rp_sk b mn mpt) (rp_sk b mn mpt) (rp_sk b mn mpt) (1) mlf men), (rf_RW ct 0 mb 800 b), (rf_RW ct 0 mf 958 g)]) (n := 3) [2, 1, 0] rfl rfl (by decide))
    have hD : va_D A ([(rf_MO mo mw ma mf m0 m1 mu mv u0 u1 iz th mb mn (rp_sk b mn mpt) (rp_sk b mn mpt) (rp_sk b mn mpt) (1) mlf men), (rf_RW ct 0 mb 800 b), (rf_RW ct 0 mf 958 g)] ++ ws_33) := ty_permD hD (ty_ordp (E := [(rf_RW ct 0 mf 958 g), (rf_RW ct 0 mb 800 b), (rf_MO mo mw ma mf m0 m1 mu mv u0 u1 iz th mb mn (rp_sk b mn mpt) (rp_sk b mn mpt) (rp_sk b mn mpt) (1) mlf men)]) (E2 := [(rf_MO mo mw ma mf m0 m1 mu mv u0 u1 iz th mb mn (rp_sk b mn mpt) (rp_sk b mn mpt) (rp_sk b mn mpt) (1) mlf men), (rf_RW ct 0 mb 800 b), (rf_RW ct 0 mf 958 g)]) (n := 3) [2, 1, 0] rfl rfl (by decide))
    exact W.zret (v := 0) hx hb hr (by decide) (fun t ht hW => ⟨⟨0, (ws_33, (rp_sk b mn mpt), (rp_sk b mn mpt), (rp_sk b mn mpt), (1 : Int32), g), rfl, ⟨hT, ⟨by omega, Or.inl ⟨rfl, rm_nk1 (rm_letN hc_8)⟩⟩⟩, by rw [ht]; exact hP, by rw [hAe]; exact hD⟩, hS.F ht⟩) hS.2.2 dX11_readName_21
theorem dX11_readCurve_0 : decode cX11_readCurve 0 = .ok (.aload_n 0, 1) := by decide +kernel
theorem dX11_readCurve_1 : decode cX11_readCurve 1 = .ok (.getfield 16, 3) := by decide +kernel
theorem dX11_readCurve_4 : decode cX11_readCurve 4 = .ok (.bipush 11, 2) := by decide +kernel
theorem dX11_readCurve_6 : decode cX11_readCurve 6 = .ok (.iaload, 1) := by decide +kernel
theorem dX11_readCurve_7 : decode cX11_readCurve 7 = .ok (.iconst 4, 1) := by decide +kernel
theorem dX11_readCurve_8 : decode cX11_readCurve 8 = .ok (.if_icmp .ne 9, 3) := by decide +kernel
theorem dX11_readCurve_11 : decode cX11_readCurve 11 = .ok (.aload_n 0, 1) := by decide +kernel
theorem dX11_readCurve_12 : decode cX11_readCurve 12 = .ok (.iconst 4, 1) := by decide +kernel
theorem dX11_readCurve_13 : decode cX11_readCurve 13 = .ok (.invokevirtual 112, 3) := by decide +kernel
theorem dX11_readCurve_16 : decode cX11_readCurve 16 = .ok (.ireturn, 1) := by decide +kernel
theorem dX11_readCurve_17 : decode cX11_readCurve 17 = .ok (.bipush 20, 2) := by decide +kernel
theorem dX11_readCurve_19 : decode cX11_readCurve 19 = .ok (.bipush 19, 2) := by decide +kernel
theorem dX11_readCurve_21 : decode cX11_readCurve 21 = .ok (.aload_n 0, 1) := by decide +kernel
theorem dX11_readCurve_22 : decode cX11_readCurve 22 = .ok (.getfield 16, 3) := by decide +kernel
theorem dX11_readCurve_25 : decode cX11_readCurve 25 = .ok (.bipush 11, 2) := by decide +kernel
theorem dX11_readCurve_27 : decode cX11_readCurve 27 = .ok (.iaload, 1) := by decide +kernel
theorem dX11_readCurve_28 : decode cX11_readCurve 28 = .ok (.imul, 1) := by decide +kernel
theorem dX11_readCurve_29 : decode cX11_readCurve 29 = .ok (.iadd, 1) := by decide +kernel
theorem dX11_readCurve_30 : decode cX11_readCurve 30 = .ok (.istore_n 1, 1) := by decide +kernel
theorem dX11_readCurve_31 : decode cX11_readCurve 31 = .ok (.aload_n 0, 1) := by decide +kernel
theorem dX11_readCurve_32 : decode cX11_readCurve 32 = .ok (.invokevirtual 133, 3) := by decide +kernel
theorem dX11_readCurve_35 : decode cX11_readCurve 35 = .ok (.pop, 1) := by decide +kernel
theorem dX11_readCurve_36 : decode cX11_readCurve 36 = .ok (.aload_n 0, 1) := by decide +kernel
theorem dX11_readCurve_37 : decode cX11_readCurve 37 = .ok (.iload_n 1, 1) := by decide +kernel
theorem dX11_readCurve_38 : decode cX11_readCurve 38 = .ok (.invokevirtual 137, 3) := by decide +kernel
theorem dX11_readCurve_41 : decode cX11_readCurve 41 = .ok (.ifCond .ne 5, 3) := by decide +kernel
theorem dX11_readCurve_44 : decode cX11_readCurve 44 = .ok (.iconst 0, 1) := by decide +kernel
theorem dX11_readCurve_45 : decode cX11_readCurve 45 = .ok (.ireturn, 1) := by decide +kernel
theorem dX11_readCurve_46 : decode cX11_readCurve 46 = .ok (.iconst 0, 1) := by decide +kernel
theorem dX11_readCurve_47 : decode cX11_readCurve 47 = .ok (.istore_n 2, 1) := by decide +kernel
theorem dX11_readCurve_48 : decode cX11_readCurve 48 = .ok (.iconst 0, 1) := by decide +kernel
theorem dX11_readCurve_49 : decode cX11_readCurve 49 = .ok (.istore_n 3, 1) := by decide +kernel
theorem dX11_readCurve_50 : decode cX11_readCurve 50 = .ok (.iload_n 2, 1) := by decide +kernel
theorem dX11_readCurve_51 : decode cX11_readCurve 51 = .ok (.iconst 2, 1) := by decide +kernel
theorem dX11_readCurve_52 : decode cX11_readCurve 52 = .ok (.if_icmp .lt 20, 3) := by decide +kernel
theorem dX11_readCurve_55 : decode cX11_readCurve 55 = .ok (.aload_n 0, 1) := by decide +kernel
theorem dX11_readCurve_56 : decode cX11_readCurve 56 = .ok (.invokevirtual 106, 3) := by decide +kernel
theorem dX11_readCurve_59 : decode cX11_readCurve 59 = .ok (.i2l, 1) := by decide +kernel
theorem dX11_readCurve_60 : decode cX11_readCurve 60 = .ok (.ldc2_w 74, 3) := by decide +kernel
theorem dX11_readCurve_63 : decode cX11_readCurve 63 = .ok (.ldc2_w 76, 3) := by decide +kernel
theorem dX11_readCurve_66 : decode cX11_readCurve 66 = .ok (.invokestatic 70, 3) := by decide +kernel
theorem dX11_readCurve_69 : decode cX11_readCurve 69 = .ok (.ifCond .eq 52, 3) := by decide +kernel
theorem dX11_readCurve_72 : decode cX11_readCurve 72 = .ok (.iload_n 2, 1) := by decide +kernel
theorem dX11_readCurve_73 : decode cX11_readCurve 73 = .ok (.bipush 11, 2) := by decide +kernel
theorem dX11_readCurve_75 : decode cX11_readCurve 75 = .ok (.if_icmp .ne 9, 3) := by decide +kernel
theorem dX11_readCurve_78 : decode cX11_readCurve 78 = .ok (.aload_n 0, 1) := by decide +kernel
theorem dX11_readCurve_79 : decode cX11_readCurve 79 = .ok (.iconst 1, 1) := by decide +kernel
theorem dX11_readCurve_80 : decode cX11_readCurve 80 = .ok (.invokevirtual 112, 3) := by decide +kernel
theorem dX11_readCurve_83 : decode cX11_readCurve 83 = .ok (.ireturn, 1) := by decide +kernel
theorem dX11_readCurve_84 : decode cX11_readCurve 84 = .ok (.aload_n 0, 1) := by decide +kernel
theorem dX11_readCurve_85 : decode cX11_readCurve 85 = .ok (.iload_n 1, 1) := by decide +kernel
theorem dX11_readCurve_86 : decode cX11_readCurve 86 = .ok (.bipush 8, 2) := by decide +kernel
theorem dX11_readCurve_88 : decode cX11_readCurve 88 = .ok (.iadd, 1) := by decide +kernel
theorem dX11_readCurve_89 : decode cX11_readCurve 89 = .ok (.iload_n 2, 1) := by decide +kernel
theorem dX11_readCurve_90 : decode cX11_readCurve 90 = .ok (.iadd, 1) := by decide +kernel
theorem dX11_readCurve_91 : decode cX11_readCurve 91 = .ok (.iload_n 3, 1) := by decide +kernel
theorem dX11_readCurve_92 : decode cX11_readCurve 92 = .ok (.sipush 5000, 3) := by decide +kernel
theorem dX11_readCurve_95 : decode cX11_readCurve 95 = .ok (.invokevirtual 140, 3) := by decide +kernel
theorem dX11_readCurve_98 : decode cX11_readCurve 98 = .ok (.ifCond .ne 5, 3) := by decide +kernel
theorem dX11_readCurve_101 : decode cX11_readCurve 101 = .ok (.iconst 0, 1) := by decide +kernel
theorem dX11_readCurve_102 : decode cX11_readCurve 102 = .ok (.ireturn, 1) := by decide +kernel
theorem dX11_readCurve_103 : decode cX11_readCurve 103 = .ok (.aload_n 0, 1) := by decide +kernel
theorem dX11_readCurve_104 : decode cX11_readCurve 104 = .ok (.getfield 16, 3) := by decide +kernel
theorem dX11_readCurve_107 : decode cX11_readCurve 107 = .ok (.iload_n 1, 1) := by decide +kernel
theorem dX11_readCurve_108 : decode cX11_readCurve 108 = .ok (.bipush 8, 2) := by decide +kernel
theorem dX11_readCurve_110 : decode cX11_readCurve 110 = .ok (.iadd, 1) := by decide +kernel
theorem dX11_readCurve_111 : decode cX11_readCurve 111 = .ok (.iload_n 2, 1) := by decide +kernel
theorem dX11_readCurve_112 : decode cX11_readCurve 112 = .ok (.iadd, 1) := by decide +kernel
theorem dX11_readCurve_113 : decode cX11_readCurve 113 = .ok (.iaload, 1) := by decide +kernel
theorem dX11_readCurve_114 : decode cX11_readCurve 114 = .ok (.istore_n 3, 1) := by decide +kernel
theorem dX11_readCurve_115 : decode cX11_readCurve 115 = .ok (.iinc 2 1, 3) := by decide +kernel
theorem dX11_readCurve_118 : decode cX11_readCurve 118 = .ok (.goto (-68), 3) := by decide +kernel
theorem dX11_readCurve_121 : decode cX11_readCurve 121 = .ok (.aload_n 0, 1) := by decide +kernel
theorem dX11_readCurve_122 : decode cX11_readCurve 122 = .ok (.getfield 16, 3) := by decide +kernel
theorem dX11_readCurve_125 : decode cX11_readCurve 125 = .ok (.iload_n 1, 1) := by decide +kernel
theorem dX11_readCurve_126 : decode cX11_readCurve 126 = .ok (.bipush 7, 2) := by decide +kernel
theorem dX11_readCurve_128 : decode cX11_readCurve 128 = .ok (.iadd, 1) := by decide +kernel
theorem dX11_readCurve_129 : decode cX11_readCurve 129 = .ok (.iload_n 2, 1) := by decide +kernel
theorem dX11_readCurve_130 : decode cX11_readCurve 130 = .ok (.iastore, 1) := by decide +kernel
theorem dX11_readCurve_131 : decode cX11_readCurve 131 = .ok (.aload_n 0, 1) := by decide +kernel
theorem dX11_readCurve_132 : decode cX11_readCurve 132 = .ok (.getfield 16, 3) := by decide +kernel
theorem dX11_readCurve_135 : decode cX11_readCurve 135 = .ok (.bipush 11, 2) := by decide +kernel
theorem dX11_readCurve_137 : decode cX11_readCurve 137 = .ok (.dup2, 1) := by decide +kernel
theorem dX11_readCurve_138 : decode cX11_readCurve 138 = .ok (.iaload, 1) := by decide +kernel
theorem dX11_readCurve_139 : decode cX11_readCurve 139 = .ok (.iconst 1, 1) := by decide +kernel
theorem dX11_readCurve_140 : decode cX11_readCurve 140 = .ok (.iadd, 1) := by decide +kernel
theorem dX11_readCurve_141 : decode cX11_readCurve 141 = .ok (.iastore, 1) := by decide +kernel
theorem dX11_readCurve_142 : decode cX11_readCurve 142 = .ok (.iconst 1, 1) := by decide +kernel
theorem dX11_readCurve_143 : decode cX11_readCurve 143 = .ok (.ireturn, 1) := by decide +kernel
set_option maxRecDepth 100000 in
set_option maxHeartbeats 4000000 in
theorem m_X11_readCurve (l : Launch) (D : va_G) (ct : Nat → ClassId) (S : ty_S) (ws : va_W) (ph : va_W → Prop) (xx : Nat → Nat → Nat → Prop) (mo : Nat) (mw : Nat) (ma : Nat) (mf : Nat) (m0 : Nat) (m1 : Nat) (mu : Nat) (mv : Nat) (u0 : Nat) (u1 : Nat) (iz : Nat) (mb : Nat) (th : Int32) (mn : Int32) (mpt : Int32) (mbg : Int32) (mwr : Int32) (mlf : Int32) (men : Int32) (b : Nat → Int32) (g : Nat → Int32) (N : List (List Int32)) (sz : Nat) (hT : ty_V ct S ph ws) (hph : ty_C ph xx) (hy1 : ty_y1 xx) (hmn : 0 ≤ mn.toInt ∧ mn.toInt ≤ 800) (hpt : 0 ≤ mpt.toInt ∧ mpt.toInt ≤ mn.toInt) (hb2 : mpt.toInt ≤ mbg.toInt ∧ mbg.toInt ≤ mn.toInt) (hL : rf_L g) (hN : rm_N N g) : Met l yX11_readCurve (ws_ yX11_readCurve cX11_readCurve 4 (some .boolean)) ({ frames := 5, cells := 0, slots := 0, locals := 110 } : Room) (va_Pc [.ref mo] (cmP D ct sz ([(rf_MO mo mw ma mf m0 m1 mu mv u0 u1 iz th mb mn mpt mbg mwr (0) mlf men), (rf_RW ct 0 mb 800 b), (rf_RW ct 0 mf 958 g)] ++ ws))) (va_Qi (fun (r : Int32) (u : va_W × Int32 × Int32 × Int32 × Int32 × (Nat → Int32)) => match u with | (u9, mpt1, mbg1, mwr1, mwk1, g1) => ty_V ct S ph u9 ∧ ((mpt.toInt ≤ mpt1.toInt ∧ mpt1.toInt ≤ mn.toInt) ∧ 0 ≤ mbg1.toInt ∧ mbg1.toInt ≤ mn.toInt) ∧ ((r = 0 ∧ rm_B b mn (rp_ck b mn N mbg) (rp_cp b mn N mbg) mwk1 mwr1) ∨ (r = 1 ∧ (rp_ck b mn N mbg) = 0 ∧ mwk1 = 0 ∧ rp_sk b mn mpt1 = rp_sk b mn (rp_cp b mn N mbg) ∧ rf_L g1 ∧ rm_N (N ++ [rp_w b mn (rp_q2 b mn mbg)]) g1 ∧ g1 9 = g 9 ∧ g1 10 = g 10))) (cmB D ([(rf_MO mo mw ma mf m0 m1 mu mv u0 u1 iz th mb mn mpt mbg mwr (0) mlf men), (rf_RW ct 0 mb 800 b), (rf_RW ct 0 mf 958 g)] ++ ws) sz (fun (u : va_W × Int32 × Int32 × Int32 × Int32 × (Nat → Int32)) => match u with | (u9, mpt1, mbg1, mwr1, mwk1, g1) => ([(rf_MO mo mw ma mf m0 m1 mu mv u0 u1 iz th mb mn mpt1 mbg1 mwr1 mwk1 mlf men), (rf_RW ct 0 mb 800 b), (rf_RW ct 0 mf 958 g1)] ++ u9))) (va_A ([(rf_MO mo mw ma mf m0 m1 mu mv u0 u1 iz th mb mn mpt mbg mwr (0) mlf men), (rf_RW ct 0 mb 800 b), (rf_RW ct 0 mf 958 g)] ++ ws) sz)) 0 0 (va_A ([(rf_MO mo mw ma mf m0 m1 mu mv u0 u1 iz th mb mn mpt mbg mwr (0) mlf men), (rf_RW ct 0 mb 800 b), (rf_RW ct 0 mf 958 g)] ++ ws) sz) := by
  refine Met.ofW (cc := cX11_readCurve) (maxL := 4) (ret := (some .boolean)) (by decide) rfl ?_
  intro p e s m args below meth c s₁ B hml hv
  obtain ⟨rfl, hsz, hP, hK, hD0, hX⟩ := hv
  have hx := B.exec
  have hb := B.bytes
  have hr := B.returns
  have hts := ws_all (atoms_spec (ws := ws_ yX11_readCurve cX11_readCurve 4 (some .boolean)) B.pre)
  have hown : s.vm.findClass RX11 = some m.cls := findClass_of_methodNamed B.named
  have hlocks := B.notSynchronized
  subst hsz
  have hD := hD0.self (sz := s.heap.size)
  generalize hAe : va_A ([(rf_MO mo mw ma mf m0 m1 mu mv u0 u1 iz th mb mn mpt mbg mwr (0) mlf men), (rf_RW ct 0 mb 800 b), (rf_RW ct 0 mf 958 g)] ++ ws) s.heap.size = A at hD hX ⊢
  have hA : ∀ q : Nat, s.heap.size ≤ q → A q := fun q h => by rw [← hAe]; exact Or.inr h
  have hS : va_S A s.heap s.heap [] := va_S.rf
  have hl := lv_entry ([.ref mo]) (n := 4) (Nat.le_of_ble_eq_true rfl)
  rw [lg_entry_eq]
  generalize (lg_sl ([.ref mo]) ++ List.replicate (4 - (lg_sl ([.ref mo])).length) Slot.unset).toArray = ls at hl ⊢
  have hl : lv_has ls 4 [(0, .ref mo)] := hl
  refine lv_aload_n hx hb dX11_readCurve_0 rfl (lv_at hl 0 rfl) ?_
  refine va_get (v := .ref mf) (D := D) (ci := 11) (C := RX11) (T := TX11) (N := 19) hx hb hts in_X11 hown hK hP 0 rfl rfl 2 (by decide) (hts _ kl_RX11_16) (fun _ h9 => h9) rfl dX11_readCurve_1 ?_
  refine lv_bipush (v := 11) hx hb dX11_readCurve_4 (by decide) ?_
  refine va_iald hx hb hK hP 2 0 rfl rfl (cm_vin (by decide)) dX11_readCurve_6 ?_
  refine cm_cst (y := (g 11)) (by first | rfl | decide +kernel) ?_
  refine lv_iconst (v := 4) hx hb dX11_readCurve_7 (by decide) ?_
  refine lv_icmp_ne (tgt := 17) hx hb dX11_readCurve_8 (by decide) (fun hc_1 => ?_) (fun hc_1 => ?_)
  · refine lv_bipush (v := 20) hx hb dX11_readCurve_17 (by decide) ?_
    refine lv_bipush (v := 19) hx hb dX11_readCurve_19 (by decide) ?_
    refine lv_aload_n hx hb dX11_readCurve_21 rfl (lv_at hl 0 rfl) ?_
    refine va_get (v := .ref mf) (D := D) (ci := 11) (C := RX11) (T := TX11) (N := 19) hx hb hts in_X11 hown hK hP 0 rfl rfl 2 (by decide) (hts _ kl_RX11_16) (fun _ h9 => h9) rfl dX11_readCurve_22 ?_
    refine lv_bipush (v := 11) hx hb dX11_readCurve_25 (by decide) ?_
    refine va_iald hx hb hK hP 2 0 rfl rfl (cm_vin (by decide)) dX11_readCurve_27 ?_
    refine cm_cst (y := (g 11)) (by first | rfl | decide +kernel) ?_
    refine lv_imul hx hb dX11_readCurve_28 ?_
    refine lv_iadd hx hb dX11_readCurve_29 ?_
    refine lv_istore_n (lv' := [(1, .int (20 + (19 * (g 11)))), (0, .ref mo)]) hx hb dX11_readCurve_30 rfl hl (by decide) rfl (fun ls hl => ?_)
    refine lv_aload_n hx hb dX11_readCurve_31 rfl (lv_at hl 1 rfl) ?_
    have hP : va_P D vwCl ([(rf_RW ct 0 mf 958 g), (rf_MO mo mw ma mf m0 m1 mu mv u0 u1 iz th mb mn mpt mbg mwr (0) mlf men), (rf_RW ct 0 mb 800 b)] ++ ws) s.heap := ty_permP hP (ty_ordp (E := [(rf_MO mo mw ma mf m0 m1 mu mv u0 u1 iz th mb mn mpt mbg mwr (0) mlf men), (rf_RW ct 0 mb 800 b), (rf_RW ct 0 mf 958 g)]) (E2 := [(rf_RW ct 0 mf 958 g), (rf_MO mo mw ma mf m0 m1 mu mv u0 u1 iz th mb mn mpt mbg mwr (0) mlf men), (rf_RW ct 0 mb 800 b)]) (n := 3) [2, 0, 1] rfl rfl (by decide))
    have hD : va_D A ([(rf_RW ct 0 mf 958 g), (rf_MO mo mw ma mf m0 m1 mu mv u0 u1 iz th mb mn mpt mbg mwr (0) mlf men), (rf_RW ct 0 mb 800 b)] ++ ws) := ty_permD hD (ty_ordp (E := [(rf_MO mo mw ma mf m0 m1 mu mv u0 u1 iz th mb mn mpt mbg mwr (0) mlf men), (rf_RW ct 0 mb 800 b), (rf_RW ct 0 mf 958 g)]) (E2 := [(rf_RW ct 0 mf 958 g), (rf_MO mo mw ma mf m0 m1 mu mv u0 u1 iz th mb mn mpt mbg mwr (0) mlf men), (rf_RW ct 0 mb 800 b)]) (n := 3) [2, 0, 1] rfl rfl (by decide))
    refine ty_ki (wr := [(rf_RW ct 0 mf 958 g)]) (wc := ([(rf_MO mo mw ma mf m0 m1 mu mv u0 u1 iz th mb mn mpt mbg mwr (0) mlf men), (rf_RW ct 0 mb 800 b)] ++ ws)) (va_runV (As := []) (rest := []) ⟨hx, hb, hml, hown, hts⟩ (m_X11_passes l D ct S ws ph xx mo mw ma mf m0 m1 mu mv u0 u1 iz mb th mn mpt mbg mwr (0 : Int32) mlf men b _ hT hph hy1 hmn (by omega)) (cm_V 0 hts kc_X11_passes ki_RX11 kl_RX11_133 kv_X11_passes kx_X11_passes kd_X11_passes ⟨Nat.le_of_ble_eq_true rfl, Nat.le_of_ble_eq_true rfl⟩) (ty_preE (wr := [(rf_RW ct 0 mf 958 g)]) (wc := ([(rf_MO mo mw ma mf m0 m1 mu mv u0 u1 iz th mb mn mpt mbg mwr (0) mlf men), (rf_RW ct 0 mb 800 b)] ++ ws)) (ci := 11) (q0 := 1) hP hK hD hS hA hX rfl rfl) rfl rfl hl.1 rfl (lv_room (Nat.le_of_ble_eq_true rfl)) dX11_readCurve_32 ⟨Nat.le_of_ble_eq_true rfl, Nat.le_of_ble_eq_true rfl⟩) hP hD hS hA (fun r_2 u H locs hw_3 hP hD hS => ?_)
    obtain ⟨ws_4, rfl⟩ : ∃ z, z = u := ⟨_, rfl⟩
    obtain ⟨hT, rfl⟩ := hw_3
    have hP : va_P D vwCl ([(rf_RW ct 0 mf 958 g), (rf_MO mo mw ma mf m0 m1 mu mv u0 u1 iz th mb mn (rp_we b mn mbg) mbg mwr (0) mlf men), (rf_RW ct 0 mb 800 b)] ++ ws_4) H := hP
    have hD : va_D A ([(rf_RW ct 0 mf 958 g), (rf_MO mo mw ma mf m0 m1 mu mv u0 u1 iz th mb mn (rp_we b mn mbg) mbg mwr (0) mlf men), (rf_RW ct 0 mb 800 b)] ++ ws_4) := hD
    have hs_5 := rp_we_b (b := b) (p := mbg) hmn.2 (by omega)
    refine lv_pop hx hb dX11_readCurve_35 rfl ?_
    refine lv_aload_n hx hb dX11_readCurve_36 rfl (lv_at hl 1 rfl) ?_
    refine lv_iload_n hx hb dX11_readCurve_37 rfl (lv_at hl 0 rfl) ?_
    have hP : va_P D vwCl ([(rf_MO mo mw ma mf m0 m1 mu mv u0 u1 iz th mb mn (rp_we b mn mbg) mbg mwr (0) mlf men), (rf_RW ct 0 mb 800 b), (rf_RW ct 0 mf 958 g)] ++ ws_4) H := ty_permP hP (ty_ordp (E := [(rf_RW ct 0 mf 958 g), (rf_MO mo mw ma mf m0 m1 mu mv u0 u1 iz th mb mn (rp_we b mn mbg) mbg mwr (0) mlf men), (rf_RW ct 0 mb 800 b)]) (E2 := [(rf_MO mo mw ma mf m0 m1 mu mv u0 u1 iz th mb mn (rp_we b mn mbg) mbg mwr (0) mlf men), (rf_RW ct 0 mb 800 b), (rf_RW ct 0 mf 958 g)]) (n := 3) [1, 2, 0] rfl rfl (by decide))
    have hD : va_D A ([(rf_MO mo mw ma mf m0 m1 mu mv u0 u1 iz th mb mn (rp_we b mn mbg) mbg mwr (0) mlf men), (rf_RW ct 0 mb 800 b), (rf_RW ct 0 mf 958 g)] ++ ws_4) := ty_permD hD (ty_ordp (E := [(rf_RW ct 0 mf 958 g), (rf_MO mo mw ma mf m0 m1 mu mv u0 u1 iz th mb mn (rp_we b mn mbg) mbg mwr (0) mlf men), (rf_RW ct 0 mb 800 b)]) (E2 := [(rf_MO mo mw ma mf m0 m1 mu mv u0 u1 iz th mb mn (rp_we b mn mbg) mbg mwr (0) mlf men), (rf_RW ct 0 mb 800 b), (rf_RW ct 0 mf 958 g)]) (n := 3) [1, 2, 0] rfl rfl (by decide))
    refine ty_ki (wr := []) (wc := ([(rf_MO mo mw ma mf m0 m1 mu mv u0 u1 iz th mb mn (rp_we b mn mbg) mbg mwr (0) mlf men), (rf_RW ct 0 mb 800 b), (rf_RW ct 0 mf 958 g)] ++ ws_4)) (va_runV (As := [.int (20 + (19 * (g 11)))]) (rest := []) ⟨hx, hb, hml, hown, hts⟩ (m_X11_readName l D ct S ws_4 ph xx mo mw ma mf m0 m1 mu mv u0 u1 iz mb th mn (rp_we b mn mbg) mbg mwr mlf men b (20 + (19 * (g 11))) g N _ hT hph hy1 hmn (by omega) hL (rf_n4b (rf_Ls hL).2.2 hc_1) (rf_c7 hL hc_1).2.1 hN) (cm_V 1 hts kc_X11_readName ki_RX11 kl_RX11_137 kv_X11_readName kx_X11_readName kd_X11_readName ⟨Nat.le_of_ble_eq_true rfl, Nat.le_of_ble_eq_true rfl⟩) (ty_preE (wr := []) (wc := ([(rf_MO mo mw ma mf m0 m1 mu mv u0 u1 iz th mb mn (rp_we b mn mbg) mbg mwr (0) mlf men), (rf_RW ct 0 mb 800 b), (rf_RW ct 0 mf 958 g)] ++ ws_4)) (ci := 11) (q0 := 0) hP hK hD hS hA hX rfl rfl) rfl rfl hl.1 rfl (lv_room (Nat.le_of_ble_eq_true rfl)) dX11_readCurve_38 ⟨Nat.le_of_ble_eq_true rfl, Nat.le_of_ble_eq_true rfl⟩) hP hD hS hA (fun r_6 u H locs hw_7 hP hD hS => ?_)
    obtain ⟨ws_8, mpt1_9, mbg1_10, mwr1_11, mwk1_12, g1_13⟩ := u
    obtain ⟨hT, hp_14⟩ := hw_7
    have hp_14 : (((rp_we b mn mbg).toInt ≤ mpt1_9.toInt ∧ mpt1_9.toInt ≤ mn.toInt) ∧ 0 ≤ mbg1_10.toInt ∧ mbg1_10.toInt ≤ mn.toInt) ∧ ((r_6 = 0 ∧ rm_f (rp_nk b mn N (rp_sk b mn (rp_we b mn mbg))) (rp_sk b mn (rp_we b mn mbg)) mwk1_12 mwr1_11) ∨ (r_6 = 1 ∧ (rp_nk b mn N (rp_sk b mn (rp_we b mn mbg))) = 0 ∧ mwk1_12 = 0 ∧ mpt1_9 = rp_we b mn (rp_sk b mn (rp_we b mn mbg)) ∧ rf_La g g1_13 ∧ (∀ j : Nat, 20 ≤ j → j < 20 + 19 * (g 11).toInt.toNat → g1_13 j = g j) ∧ rm_W g1_13 (g 11).toInt.toNat (rp_w b mn (rp_sk b mn (rp_we b mn mbg))))) := hp_14
    have hP : va_P D vwCl ([(rf_MO mo mw ma mf m0 m1 mu mv u0 u1 iz th mb mn mpt1_9 mbg1_10 mwr1_11 mwk1_12 mlf men), (rf_RW ct 0 mb 800 b), (rf_RW ct 0 mf 958 g1_13)] ++ ws_8) H := hP
    have hD : va_D A ([(rf_MO mo mw ma mf m0 m1 mu mv u0 u1 iz th mb mn mpt1_9 mbg1_10 mwr1_11 mwk1_12 mlf men), (rf_RW ct 0 mb 800 b), (rf_RW ct 0 mf 958 g1_13)] ++ ws_8) := hD
    obtain ⟨hb_15, hc_16⟩ := hp_14
    rcases hc_16 with ⟨rfl, hz_17⟩ | ⟨rfl, hz_18⟩
    · refine lv_if_ne (tgt := 46) hx hb dX11_readCurve_41 (by decide) (fun hc => absurd (by decide) hc) (fun _ => ?_)
      refine lv_iconst (v := 0) hx hb dX11_readCurve_44 (by decide) ?_
      exact W.zret (v := 0) hx hb hr (by decide) (fun t ht hW => ⟨⟨0, (ws_8, mpt1_9, mbg1_10, mwr1_11, mwk1_12, g1_13), rfl, ⟨hT, ⟨by omega, Or.inl ⟨rfl, rm_fB (rm_cn (rm_N4 hN hc_1 (rf_Ls hL).2.2.2) hz_17)⟩⟩⟩, by rw [ht]; exact hP, by rw [hAe]; exact hD⟩, hS.F ht⟩) hS.2.2 dX11_readCurve_45
    · obtain ⟨hq_19, hq_20, hq_21, hq_22, hq_23, hq_24⟩ := hz_18
      subst hq_20
      subst hq_21
      have hsq := rp_sk_b (b := b) (p := (rp_we b mn mbg)) hmn.2 (by omega)
      have hq9 : 0 ≤ (rp_q2 b mn mbg).toInt ∧ (rp_q2 b mn mbg).toInt ≤ mn.toInt := (by show 0 ≤ (rp_sk b mn (rp_we b mn mbg)).toInt ∧ (rp_sk b mn (rp_we b mn mbg)).toInt ≤ mn.toInt; omega)
      have hwe2 := rp_we_b (b := b) (p := (rp_sk b mn (rp_we b mn mbg))) hmn.2 (by omega)
      refine lv_if_ne (tgt := 46) hx hb dX11_readCurve_41 (by decide) (fun _ => ?_) (fun hc => absurd hc (by decide))
      refine lv_iconst (v := 0) hx hb dX11_readCurve_46 (by decide) ?_
      refine lv_istore_n (lv' := [(2, .int 0), (1, .int (20 + (19 * (g 11)))), (0, .ref mo)]) hx hb dX11_readCurve_47 rfl hl (by decide) rfl (fun ls hl => ?_)
      refine lv_iconst (v := 0) hx hb dX11_readCurve_48 (by decide) ?_
      refine lv_istore_n (lv' := [(3, .int 0), (2, .int 0), (1, .int (20 + (19 * (g 11)))), (0, .ref mo)]) hx hb dX11_readCurve_49 rfl hl (by decide) rfl (fun ls hl => ?_)
      refine ty_loop (I := fun μ H locs ls => ∃ (ws : va_W) (y_25 : Int32) (y_26 : Int32) (y_27 : Int32) (y_28 : Int32) (y_29 : Int32) (g_30 : Nat → Int32), μ = (12 - y_25.toInt).toNat ∧ ty_V ct S ph ws ∧ va_P D vwCl ([(rf_MO mo mw ma mf m0 m1 mu mv u0 u1 iz th mb mn y_27 y_28 y_29 (0) mlf men), (rf_RW ct 0 mb 800 b), (rf_RW ct 0 mf 958 g_30)] ++ ws) H ∧ va_D A ([(rf_MO mo mw ma mf m0 m1 mu mv u0 u1 iz th mb mn y_27 y_28 y_29 (0) mlf men), (rf_RW ct 0 mb 800 b), (rf_RW ct 0 mf 958 g_30)] ++ ws) ∧ va_S A s.heap H locs ∧ lv_has ls 4 [(0, .ref mo), (1, .int (20 + (19 * (g 11)))), (2, .int y_25), (3, .int y_26)] ∧ (0 ≤ y_25.toInt ∧ y_25.toInt ≤ 11) ∧ ((mpt.toInt ≤ y_27.toInt ∧ y_27.toInt ≤ mn.toInt) ∧ 0 ≤ y_28.toInt ∧ y_28.toInt ≤ mn.toInt) ∧ rf_La g g_30 ∧ (∀ j : Nat, j < 28 + 19 * (g 11).toInt.toNat → g_30 j = g1_13 j) ∧ rm_cJ b mn N mbg y_25 y_26.toInt y_27) ⟨_, ws_8, (0 : Int32), (0 : Int32), (rp_we b mn (rp_sk b mn (rp_we b mn mbg))), mbg1_10, mwr1_11, g1_13, rfl, hT, hP, hD, hS, (lv_sub hl [3, 2, 1, 0] rfl), (by decide), (by omega), hq_22, (fun j _ => rfl), rm_cj0 (rm_N4 hN hc_1 (rf_Ls hL).2.2.2) hq_19⟩ (fun μ H locs ls hI ih_50 => ?_)
      obtain ⟨ws, y_25, y_26, y_27, y_28, y_29, g_30, rfl, hT, hP, hD, hS, hl, hex_50⟩ := hI
      refine lv_iload_n hx hb dX11_readCurve_50 rfl (lv_at hl 2 rfl) ?_
      refine lv_iconst (v := 2) hx hb dX11_readCurve_51 (by decide) ?_
      refine lv_icmp_lt (tgt := 72) hx hb dX11_readCurve_52 (by decide) (fun hc_31 => ?_) (fun hc_31 => ?_)
      · refine lv_iload_n hx hb dX11_readCurve_72 rfl (lv_at hl 2 rfl) ?_
        refine lv_bipush (v := 11) hx hb dX11_readCurve_73 (by decide) ?_
        refine lv_icmp_ne (tgt := 84) hx hb dX11_readCurve_75 (by decide) (fun hc_32 => ?_) (fun hc_32 => ?_)
        · refine lv_aload_n hx hb dX11_readCurve_84 rfl (lv_at hl 0 rfl) ?_
          refine lv_iload_n hx hb dX11_readCurve_85 rfl (lv_at hl 1 rfl) ?_
          refine lv_bipush (v := 8) hx hb dX11_readCurve_86 (by decide) ?_
          refine lv_iadd hx hb dX11_readCurve_88 ?_
          refine lv_iload_n hx hb dX11_readCurve_89 rfl (lv_at hl 2 rfl) ?_
          refine lv_iadd hx hb dX11_readCurve_90 ?_
          refine lv_iload_n hx hb dX11_readCurve_91 rfl (lv_at hl 3 rfl) ?_
          refine lv_sipush (v := 5000) hx hb dX11_readCurve_92 (by decide) ?_
          refine ty_ki (wr := []) (wc := ([(rf_MO mo mw ma mf m0 m1 mu mv u0 u1 iz th mb mn y_27 y_28 y_29 (0) mlf men), (rf_RW ct 0 mb 800 b), (rf_RW ct 0 mf 958 g_30)] ++ ws)) (va_runV (As := [.int (((20 + (19 * (g 11))) + 8) + y_25), .int y_26, .int 5000]) (rest := []) ⟨hx, hb, hml, hown, hts⟩ (m_X11_reads l D ct S ws ph xx mo mw ma mf m0 m1 mu mv u0 u1 iz mb th mn y_27 y_28 y_29 mlf men b (((20 + (19 * (g 11))) + 8) + y_25) y_26 (5000 : Int32) g_30 y_26.toInt 5000 _ hT hph hy1 hmn (by omega) (by have := rf_c8 (n := y_25) hL hc_1 hex_50.1 hc_32; omega) rfl (by decide)) (cm_V 3 hts kc_X11_reads ki_RX11 kl_RX11_140 kv_X11_reads kx_X11_reads kd_X11_reads ⟨Nat.le_of_ble_eq_true rfl, Nat.le_of_ble_eq_true rfl⟩) (ty_preE (wr := []) (wc := ([(rf_MO mo mw ma mf m0 m1 mu mv u0 u1 iz th mb mn y_27 y_28 y_29 (0) mlf men), (rf_RW ct 0 mb 800 b), (rf_RW ct 0 mf 958 g_30)] ++ ws)) (ci := 11) (q0 := 0) hP hK hD hS hA hX rfl rfl) rfl rfl hl.1 rfl (lv_room (Nat.le_of_ble_eq_true rfl)) dX11_readCurve_95 ⟨Nat.le_of_ble_eq_true rfl, Nat.le_of_ble_eq_true rfl⟩) hP hD hS hA (fun r_33 u H locs hw_34 hP hD hS => ?_)
          obtain ⟨ws_35, mpt1_36, mwr1_37, mwk1_38, g1_39⟩ := u
          obtain ⟨hT, hp_40⟩ := hw_34
          have hp_40 : (y_27.toInt ≤ mpt1_36.toInt ∧ mpt1_36.toInt ≤ mn.toInt) ∧ ((r_33 = 0 ∧ rm_f (rp_rk b mn y_26.toInt 5000 y_27) (rp_rp b mn y_26.toInt 5000 y_27) mwk1_38 mwr1_37) ∨ (r_33 = 1 ∧ (rp_rk b mn y_26.toInt 5000 y_27 = 0 ∧ mwk1_38 = 0 ∧ mpt1_36 = rp_rp b mn y_26.toInt 5000 y_27) ∧ ∃ v : Int32, (y_26.toInt ≤ v.toInt ∧ v.toInt ≤ 5000) ∧ v.toInt = rp_rv b mn y_27 ∧ g1_39 = upd g_30 (((20 + (19 * (g 11))) + 8) + y_25).toInt.toNat v)) := hp_40
          have hP : va_P D vwCl ([(rf_MO mo mw ma mf m0 m1 mu mv u0 u1 iz th mb mn mpt1_36 (rp_sk b mn y_27) mwr1_37 mwk1_38 mlf men), (rf_RW ct 0 mb 800 b), (rf_RW ct 0 mf 958 g1_39)] ++ ws_35) H := hP
          have hD : va_D A ([(rf_MO mo mw ma mf m0 m1 mu mv u0 u1 iz th mb mn mpt1_36 (rp_sk b mn y_27) mwr1_37 mwk1_38 mlf men), (rf_RW ct 0 mb 800 b), (rf_RW ct 0 mf 958 g1_39)] ++ ws_35) := hD
          obtain ⟨hb_41, hc_42⟩ := hp_40
          have hs_43 := rp_sk_b (b := b) (p := y_27) hmn.2 (by omega)
          rcases hc_42 with ⟨rfl, hz_44⟩ | ⟨rfl, hz_45⟩
          · refine lv_if_ne (tgt := 103) hx hb dX11_readCurve_98 (by decide) (fun hc => absurd (by decide) hc) (fun _ => ?_)
            refine lv_iconst (v := 0) hx hb dX11_readCurve_101 (by decide) ?_
            exact W.zret (v := 0) hx hb hr (by decide) (fun t ht hW => ⟨⟨0, (ws_35, mpt1_36, (rp_sk b mn y_27), mwr1_37, mwk1_38, g1_39), rfl, ⟨hT, ⟨by omega, Or.inl ⟨rfl, rm_fB (rm_cjf hex_50.2.2.2.2 (by have := rm_n11 hc_32; have := hex_50.1; omega) (fun z => by have := rm_lt2 hc_31; omega) hz_44)⟩⟩⟩, by rw [ht]; exact hP, by rw [hAe]; exact hD⟩, hS.F ht⟩) hS.2.2 dX11_readCurve_102
          · obtain ⟨⟨hk_46, hwk_47, hpt_48⟩, v_49, hv_50, hvv_51, hg_52⟩ := hz_45
            have hb_53 := hb_41
            subst hwk_47
            subst hpt_48
            refine lv_if_ne (tgt := 103) hx hb dX11_readCurve_98 (by decide) (fun _ => ?_) (fun hc => absurd hc (by decide))
            refine lv_aload_n hx hb dX11_readCurve_103 rfl (lv_at hl 0 rfl) ?_
            refine va_get (v := .ref mf) (D := D) (ci := 11) (C := RX11) (T := TX11) (N := 19) hx hb hts in_X11 hown hK hP 0 rfl rfl 2 (by decide) (hts _ kl_RX11_16) (fun _ h9 => h9) rfl dX11_readCurve_104 ?_
            refine lv_iload_n hx hb dX11_readCurve_107 rfl (lv_at hl 1 rfl) ?_
            refine lv_bipush (v := 8) hx hb dX11_readCurve_108 (by decide) ?_
            refine lv_iadd hx hb dX11_readCurve_110 ?_
            refine lv_iload_n hx hb dX11_readCurve_111 rfl (lv_at hl 2 rfl) ?_
            refine lv_iadd hx hb dX11_readCurve_112 ?_
            refine va_iald hx hb hK hP 2 0 rfl rfl (rf_vin (by have := rf_c8 (n := y_25) hL hc_1 hex_50.1 hc_32; omega)) dX11_readCurve_113 ?_
            refine lv_istore_n (lv' := [(3, .int (g1_39 (((20 + (19 * (g 11))) + 8) + y_25).toNatClampNeg)), (0, .ref mo), (1, .int (20 + (19 * (g 11)))), (2, .int y_25)]) hx hb dX11_readCurve_114 rfl hl (by decide) rfl (fun ls hl => ?_)
            refine lv_iinc (v := (y_25 + Int32.ofInt 1)) (lv' := [(2, .int (y_25 + Int32.ofInt 1)), (3, .int (g1_39 (((20 + (19 * (g 11))) + 8) + y_25).toNatClampNeg)), (0, .ref mo), (1, .int (20 + (19 * (g 11))))]) hx hb dX11_readCurve_115 hl (k := 3) rfl rfl (by decide) rfl (fun ls hl => ?_)
            refine lv_goto (tgt := 50) hx hb dX11_readCurve_118 (by decide) ?_
            exact ih_50 _ _ _ _ (by have := rf_c8 (n := y_25) hL hc_1 hex_50.1 hc_32; have e43 : (y_25 + Int32.ofInt 1).toInt = y_25.toInt + 1 := rf_p1 (by omega); omega) ⟨ws_35, (y_25 + Int32.ofInt 1), (g1_39 (((20 + (19 * (g 11))) + 8) + y_25).toNatClampNeg), (rp_rp b mn y_26.toInt 5000 y_27), (rp_sk b mn y_27), mwr1_37, g1_39, rfl, hT, hP, hD, hS, (lv_sub hl [2, 3, 0, 1] rfl), (by have := rf_c8 (n := y_25) hL hc_1 hex_50.1 hc_32; have e43 : (y_25 + Int32.ofInt 1).toInt = y_25.toInt + 1 := rf_p1 (by omega); omega), (by omega), (by have := rf_c8 (n := y_25) hL hc_1 hex_50.1 hc_32; rw [hg_52]; exact rf_La1 (x := (((20 + (19 * (g 11))) + 8) + y_25)) hex_50.2.2.1 (Or.inl (by omega))), (fun j hj => by have := rf_c8 (n := y_25) hL hc_1 hex_50.1 hc_32; have := (rf_Ls hL).2.2; rw [hg_52, rf_upd_ne (by omega)]; exact hex_50.2.2.2.1 j hj), rm_cjs hex_50.2.2.2.2 (by have := rm_n11 hc_32; have := hex_50.1; omega) (fun z => by have := rm_lt2 hc_31; omega) hk_46 (by rw [hg_52]; exact (congrArg Int32.toInt (rm_ue rfl)).trans hvv_51)⟩
        · exact absurd (rm_lt2 hc_31) (by rw [hc_32]; decide)
      · refine lv_aload_n hx hb dX11_readCurve_55 rfl (lv_at hl 0 rfl) ?_
        have hP : va_P D vwCl ([(rf_RW ct 0 mf 958 g_30), (rf_MO mo mw ma mf m0 m1 mu mv u0 u1 iz th mb mn y_27 y_28 y_29 (0) mlf men), (rf_RW ct 0 mb 800 b)] ++ ws) H := ty_permP hP (ty_ordp (E := [(rf_MO mo mw ma mf m0 m1 mu mv u0 u1 iz th mb mn y_27 y_28 y_29 (0) mlf men), (rf_RW ct 0 mb 800 b), (rf_RW ct 0 mf 958 g_30)]) (E2 := [(rf_RW ct 0 mf 958 g_30), (rf_MO mo mw ma mf m0 m1 mu mv u0 u1 iz th mb mn y_27 y_28 y_29 (0) mlf men), (rf_RW ct 0 mb 800 b)]) (n := 3) [2, 0, 1] rfl rfl (by decide))
        have hD : va_D A ([(rf_RW ct 0 mf 958 g_30), (rf_MO mo mw ma mf m0 m1 mu mv u0 u1 iz th mb mn y_27 y_28 y_29 (0) mlf men), (rf_RW ct 0 mb 800 b)] ++ ws) := ty_permD hD (ty_ordp (E := [(rf_MO mo mw ma mf m0 m1 mu mv u0 u1 iz th mb mn y_27 y_28 y_29 (0) mlf men), (rf_RW ct 0 mb 800 b), (rf_RW ct 0 mf 958 g_30)]) (E2 := [(rf_RW ct 0 mf 958 g_30), (rf_MO mo mw ma mf m0 m1 mu mv u0 u1 iz th mb mn y_27 y_28 y_29 (0) mlf men), (rf_RW ct 0 mb 800 b)]) (n := 3) [2, 0, 1] rfl rfl (by decide))
        refine ty_ki (wr := [(rf_RW ct 0 mf 958 g_30)]) (wc := ([(rf_MO mo mw ma mf m0 m1 mu mv u0 u1 iz th mb mn y_27 y_28 y_29 (0) mlf men), (rf_RW ct 0 mb 800 b)] ++ ws)) (va_runV (As := []) (rest := []) ⟨hx, hb, hml, hown, hts⟩ (m_X11_see l D ct S ws ph xx mo mw ma mf m0 m1 mu mv u0 u1 iz mb th mn y_27 y_28 y_29 (0 : Int32) mlf men b _ hT hph hy1 hmn (by omega)) (cm_V 0 hts kc_X11_see ki_RX11 kl_RX11_106 kv_X11_see kx_X11_see kd_X11_see ⟨Nat.le_of_ble_eq_true rfl, Nat.le_of_ble_eq_true rfl⟩) (ty_preE (wr := [(rf_RW ct 0 mf 958 g_30)]) (wc := ([(rf_MO mo mw ma mf m0 m1 mu mv u0 u1 iz th mb mn y_27 y_28 y_29 (0) mlf men), (rf_RW ct 0 mb 800 b)] ++ ws)) (ci := 11) (q0 := 1) hP hK hD hS hA hX rfl rfl) rfl rfl hl.1 rfl (lv_room (Nat.le_of_ble_eq_true rfl)) dX11_readCurve_56 ⟨Nat.le_of_ble_eq_true rfl, Nat.le_of_ble_eq_true rfl⟩) hP hD hS hA (fun r_54 u H locs hw_55 hP hD hS => ?_)
        obtain ⟨ws_56, rfl⟩ : ∃ z, z = u := ⟨_, rfl⟩
        obtain ⟨hT, rfl⟩ := hw_55
        have hP : va_P D vwCl ([(rf_RW ct 0 mf 958 g_30), (rf_MO mo mw ma mf m0 m1 mu mv u0 u1 iz th mb mn (rp_sk b mn y_27) (rp_sk b mn y_27) y_29 (0) mlf men), (rf_RW ct 0 mb 800 b)] ++ ws_56) H := hP
        have hD : va_D A ([(rf_RW ct 0 mf 958 g_30), (rf_MO mo mw ma mf m0 m1 mu mv u0 u1 iz th mb mn (rp_sk b mn y_27) (rp_sk b mn y_27) y_29 (0) mlf men), (rf_RW ct 0 mb 800 b)] ++ ws_56) := hD
        have hs_57 := rp_sk_b (b := b) (p := y_27) hmn.2 (by omega)
        refine lv_i2l hx hb dX11_readCurve_59 rfl ?_
        refine lv_ldc2 hx hb hown (hts _ kl_RX11_74) dX11_readCurve_60 ?_
        refine lv_ldc2 hx hb hown (hts _ kl_RX11_76) dX11_readCurve_63 ?_
        refine ty_ki (wr := [(rf_RW ct 0 mf 958 g_30), (rf_MO mo mw ma mf m0 m1 mu mv u0 u1 iz th mb mn (rp_sk b mn y_27) (rp_sk b mn y_27) y_29 (0) mlf men), (rf_RW ct 0 mb 800 b)]) (wc := ([] ++ ws_56)) (va_runS (As := [.long ((rf_bt b mn (rp_sk b mn y_27)).toInt64), .long 48, .long 57]) (rest := []) ⟨hx, hb, hml, hown, hts⟩ (m_X11_in l D ct S ws_56 ph xx ((rf_bt b mn (rp_sk b mn y_27)).toInt64) (48 : Int64) (57 : Int64) _ hT hph hy1) (cm_S 3 hts kc_X11_in ki_RX11 kl_RX11_70 ks_X11_in kd_X11_in ⟨Nat.le_of_ble_eq_true rfl, Nat.le_of_ble_eq_true rfl⟩) (ty_preS (wr := [(rf_RW ct 0 mf 958 g_30), (rf_MO mo mw ma mf m0 m1 mu mv u0 u1 iz th mb mn (rp_sk b mn y_27) (rp_sk b mn y_27) y_29 (0) mlf men), (rf_RW ct 0 mb 800 b)]) (wc := ([] ++ ws_56)) hP hK hD hS hA hX) rfl rfl hl.1 rfl (lv_room (Nat.le_of_ble_eq_true rfl)) dX11_readCurve_66 ⟨Nat.le_of_ble_eq_true rfl, Nat.le_of_ble_eq_true rfl⟩) hP hD hS hA (fun r_58 u H locs hw_59 hP hD hS => ?_)
        obtain ⟨ws_60, rfl⟩ : ∃ z, z = u := ⟨_, rfl⟩
        obtain ⟨hT, rfl⟩ := hw_59
        have hP : va_P D vwCl ([(rf_RW ct 0 mf 958 g_30), (rf_MO mo mw ma mf m0 m1 mu mv u0 u1 iz th mb mn (rp_sk b mn y_27) (rp_sk b mn y_27) y_29 (0) mlf men), (rf_RW ct 0 mb 800 b)] ++ ws_60) H := hP
        have hD : va_D A ([(rf_RW ct 0 mf 958 g_30), (rf_MO mo mw ma mf m0 m1 mu mv u0 u1 iz th mb mn (rp_sk b mn y_27) (rp_sk b mn y_27) y_29 (0) mlf men), (rf_RW ct 0 mb 800 b)] ++ ws_60) := hD
        refine lv_if_eq (tgt := 121) hx hb dX11_readCurve_69 (by decide) (fun hc_61 => ?_) (fun hc_61 => ?_)
        · refine lv_aload_n hx hb dX11_readCurve_121 rfl (lv_at hl 0 rfl) ?_
          refine va_get (v := .ref mf) (D := D) (ci := 11) (C := RX11) (T := TX11) (N := 19) hx hb hts in_X11 hown hK hP 1 rfl rfl 2 (by decide) (hts _ kl_RX11_16) (fun _ h9 => h9) rfl dX11_readCurve_122 ?_
          refine lv_iload_n hx hb dX11_readCurve_125 rfl (lv_at hl 1 rfl) ?_
          refine lv_bipush (v := 7) hx hb dX11_readCurve_126 (by decide) ?_
          refine lv_iadd hx hb dX11_readCurve_128 ?_
          refine lv_iload_n hx hb dX11_readCurve_129 rfl (lv_at hl 2 rfl) ?_
          refine va_iast hx hb hK hP hD hS 0 0 rfl rfl (rf_vin (by have := rf_c7 hL hc_1; omega)) dX11_readCurve_130 (fun H locs hP hD hS => ?_)
          have hP : va_P D vwCl ([(rf_RW ct 0 mf 958 (upd g_30 ((20 + (19 * (g 11))) + 7).toNatClampNeg y_25)), (rf_MO mo mw ma mf m0 m1 mu mv u0 u1 iz th mb mn (rp_sk b mn y_27) (rp_sk b mn y_27) y_29 (0) mlf men), (rf_RW ct 0 mb 800 b)] ++ ws_60) H := hP
          have hD : va_D A ([(rf_RW ct 0 mf 958 (upd g_30 ((20 + (19 * (g 11))) + 7).toNatClampNeg y_25)), (rf_MO mo mw ma mf m0 m1 mu mv u0 u1 iz th mb mn (rp_sk b mn y_27) (rp_sk b mn y_27) y_29 (0) mlf men), (rf_RW ct 0 mb 800 b)] ++ ws_60) := hD
          refine lv_aload_n hx hb dX11_readCurve_131 rfl (lv_at hl 0 rfl) ?_
          refine va_get (v := .ref mf) (D := D) (ci := 11) (C := RX11) (T := TX11) (N := 19) hx hb hts in_X11 hown hK hP 1 rfl rfl 2 (by decide) (hts _ kl_RX11_16) (fun _ h9 => h9) rfl dX11_readCurve_132 ?_
          refine lv_bipush (v := 11) hx hb dX11_readCurve_135 (by decide) ?_
          refine lv_dup2_11 hx hb dX11_readCurve_137 rfl rfl ?_
          refine va_iald hx hb hK hP 0 0 rfl rfl (cm_vin (by decide)) dX11_readCurve_138 ?_
          refine cm_cst (y := ((upd g_30 ((20 + (19 * (g 11))) + 7).toNatClampNeg y_25) 11)) (by first | rfl | decide +kernel) ?_
          refine lv_iconst (v := 1) hx hb dX11_readCurve_139 (by decide) ?_
          refine lv_iadd hx hb dX11_readCurve_140 ?_
          refine va_iast hx hb hK hP hD hS 0 0 rfl rfl (cm_vin (by decide)) dX11_readCurve_141 (fun H locs hP hD hS => ?_)
          have hP : va_P D vwCl ([(rf_RW ct 0 mf 958 (upd (upd g_30 ((20 + (19 * (g 11))) + 7).toNatClampNeg y_25) (11 : Int32).toNatClampNeg (((upd g_30 ((20 + (19 * (g 11))) + 7).toNatClampNeg y_25) 11) + 1))), (rf_MO mo mw ma mf m0 m1 mu mv u0 u1 iz th mb mn (rp_sk b mn y_27) (rp_sk b mn y_27) y_29 (0) mlf men), (rf_RW ct 0 mb 800 b)] ++ ws_60) H := hP
          have hD : va_D A ([(rf_RW ct 0 mf 958 (upd (upd g_30 ((20 + (19 * (g 11))) + 7).toNatClampNeg y_25) (11 : Int32).toNatClampNeg (((upd g_30 ((20 + (19 * (g 11))) + 7).toNatClampNeg y_25) 11) + 1))), (rf_MO mo mw ma mf m0 m1 mu mv u0 u1 iz th mb mn (rp_sk b mn y_27) (rp_sk b mn y_27) y_29 (0) mlf men), (rf_RW ct 0 mb 800 b)] ++ ws_60) := hD
          refine lv_iconst (v := 1) hx hb dX11_readCurve_142 (by decide) ?_
          have hP : va_P D vwCl ([(rf_MO mo mw ma mf m0 m1 mu mv u0 u1 iz th mb mn (rp_sk b mn y_27) (rp_sk b mn y_27) y_29 (0) mlf men), (rf_RW ct 0 mb 800 b), (rf_RW ct 0 mf 958 (upd (upd g_30 ((20 + (19 * (g 11))) + 7).toNatClampNeg y_25) (11 : Int32).toNatClampNeg (((upd g_30 ((20 + (19 * (g 11))) + 7).toNatClampNeg y_25) 11) + 1)))] ++ ws_60) H := ty_permP hP (ty_ordp (E := [(rf_RW ct 0 mf 958 (upd (upd g_30 ((20 + (19 * (g 11))) + 7).toNatClampNeg y_25) (11 : Int32).toNatClampNeg (((upd g_30 ((20 + (19 * (g 11))) + 7).toNatClampNeg y_25) 11) + 1))), (rf_MO mo mw ma mf m0 m1 mu mv u0 u1 iz th mb mn (rp_sk b mn y_27) (rp_sk b mn y_27) y_29 (0) mlf men), (rf_RW ct 0 mb 800 b)]) (E2 := [(rf_MO mo mw ma mf m0 m1 mu mv u0 u1 iz th mb mn (rp_sk b mn y_27) (rp_sk b mn y_27) y_29 (0) mlf men), (rf_RW ct 0 mb 800 b), (rf_RW ct 0 mf 958 (upd (upd g_30 ((20 + (19 * (g 11))) + 7).toNatClampNeg y_25) (11 : Int32).toNatClampNeg (((upd g_30 ((20 + (19 * (g 11))) + 7).toNatClampNeg y_25) 11) + 1)))]) (n := 3) [1, 2, 0] rfl rfl (by decide))
          have hD : va_D A ([(rf_MO mo mw ma mf m0 m1 mu mv u0 u1 iz th mb mn (rp_sk b mn y_27) (rp_sk b mn y_27) y_29 (0) mlf men), (rf_RW ct 0 mb 800 b), (rf_RW ct 0 mf 958 (upd (upd g_30 ((20 + (19 * (g 11))) + 7).toNatClampNeg y_25) (11 : Int32).toNatClampNeg (((upd g_30 ((20 + (19 * (g 11))) + 7).toNatClampNeg y_25) 11) + 1)))] ++ ws_60) := ty_permD hD (ty_ordp (E := [(rf_RW ct 0 mf 958 (upd (upd g_30 ((20 + (19 * (g 11))) + 7).toNatClampNeg y_25) (11 : Int32).toNatClampNeg (((upd g_30 ((20 + (19 * (g 11))) + 7).toNatClampNeg y_25) 11) + 1))), (rf_MO mo mw ma mf m0 m1 mu mv u0 u1 iz th mb mn (rp_sk b mn y_27) (rp_sk b mn y_27) y_29 (0) mlf men), (rf_RW ct 0 mb 800 b)]) (E2 := [(rf_MO mo mw ma mf m0 m1 mu mv u0 u1 iz th mb mn (rp_sk b mn y_27) (rp_sk b mn y_27) y_29 (0) mlf men), (rf_RW ct 0 mb 800 b), (rf_RW ct 0 mf 958 (upd (upd g_30 ((20 + (19 * (g 11))) + 7).toNatClampNeg y_25) (11 : Int32).toNatClampNeg (((upd g_30 ((20 + (19 * (g 11))) + 7).toNatClampNeg y_25) 11) + 1)))]) (n := 3) [1, 2, 0] rfl rfl (by decide))
          exact W.zret (v := 1) hx hb hr (by decide) (fun t ht hW => ⟨⟨1, (ws_60, (rp_sk b mn y_27), (rp_sk b mn y_27), y_29, (0 : Int32), (upd (upd g_30 ((20 + (19 * (g 11))) + 7).toNatClampNeg y_25) (11 : Int32).toNatClampNeg (((upd g_30 ((20 + (19 * (g 11))) + 7).toNatClampNeg y_25) 11) + 1))), rfl, ⟨hT, ⟨by omega, Or.inr ⟨rfl, (rm_cje hex_50.2.2.2.2 ⟨rf_ge9 hc_31 (by decide), hex_50.1.2⟩ (rm_digN hc_61) hmn.2 (by omega)).1, rfl, (rm_cje hex_50.2.2.2.2 ⟨rf_ge9 hc_31 (by decide), hex_50.1.2⟩ (rm_digN hc_61) hmn.2 (by omega)).2, rf_Lcv hex_50.2.2.1 (rf_n4b (rf_Ls hL).2.2 hc_1) (rf_c7 hL hc_1).1 ⟨rf_ge9 hc_31 (by decide), hex_50.1.2⟩, rm_cvN hN (rm_N4 hN hc_1 (rf_Ls hL).2.2.2) rfl hq_23 hq_24 ⟨rm_w1 hmn.2 hq9 (rm_nkl hq_19).1, Nat.not_lt.mp (fun z => (rm_nkl hq_19).2 (Or.inl z))⟩ hex_50.2.2.2.1 (rf_c7 hL hc_1).1 (hex_50.2.2.1.2 11 (by omega)), rm_cv9 hex_50.2.2.1 (by have := (rf_c7 hL hc_1); omega) (by omega) (by omega), rm_cv9 hex_50.2.2.1 (by have := (rf_c7 hL hc_1); omega) (by omega) (by omega)⟩⟩⟩, by rw [ht]; exact hP, by rw [hAe]; exact hD⟩, hS.F ht⟩) hS.2.2 dX11_readCurve_143
        · refine lv_iload_n hx hb dX11_readCurve_72 rfl (lv_at hl 2 rfl) ?_
          refine lv_bipush (v := 11) hx hb dX11_readCurve_73 (by decide) ?_
          refine lv_icmp_ne (tgt := 84) hx hb dX11_readCurve_75 (by decide) (fun hc_62 => ?_) (fun hc_62 => ?_)
          · refine lv_aload_n hx hb dX11_readCurve_84 rfl (lv_at hl 0 rfl) ?_
            refine lv_iload_n hx hb dX11_readCurve_85 rfl (lv_at hl 1 rfl) ?_
            refine lv_bipush (v := 8) hx hb dX11_readCurve_86 (by decide) ?_
            refine lv_iadd hx hb dX11_readCurve_88 ?_
            refine lv_iload_n hx hb dX11_readCurve_89 rfl (lv_at hl 2 rfl) ?_
            refine lv_iadd hx hb dX11_readCurve_90 ?_
            refine lv_iload_n hx hb dX11_readCurve_91 rfl (lv_at hl 3 rfl) ?_
            refine lv_sipush (v := 5000) hx hb dX11_readCurve_92 (by decide) ?_
            have hP : va_P D vwCl ([(rf_MO mo mw ma mf m0 m1 mu mv u0 u1 iz th mb mn (rp_sk b mn y_27) (rp_sk b mn y_27) y_29 (0) mlf men), (rf_RW ct 0 mb 800 b), (rf_RW ct 0 mf 958 g_30)] ++ ws_60) H := ty_permP hP (ty_ordp (E := [(rf_RW ct 0 mf 958 g_30), (rf_MO mo mw ma mf m0 m1 mu mv u0 u1 iz th mb mn (rp_sk b mn y_27) (rp_sk b mn y_27) y_29 (0) mlf men), (rf_RW ct 0 mb 800 b)]) (E2 := [(rf_MO mo mw ma mf m0 m1 mu mv u0 u1 iz th mb mn (rp_sk b mn y_27) (rp_sk b mn y_27) y_29 (0) mlf men), (rf_RW ct 0 mb 800 b), (rf_RW ct 0 mf 958 g_30)]) (n := 3) [1, 2, 0] rfl rfl (by decide))
            have hD : va_D A ([(rf_MO mo mw ma mf m0 m1 mu mv u0 u1 iz th mb mn (rp_sk b mn y_27) (rp_sk b mn y_27) y_29 (0) mlf men), (rf_RW ct 0 mb 800 b), (rf_RW ct 0 mf 958 g_30)] ++ ws_60) := ty_permD hD (ty_ordp (E := [(rf_RW ct 0 mf 958 g_30), (rf_MO mo mw ma mf m0 m1 mu mv u0 u1 iz th mb mn (rp_sk b mn y_27) (rp_sk b mn y_27) y_29 (0) mlf men), (rf_RW ct 0 mb 800 b)]) (E2 := [(rf_MO mo mw ma mf m0 m1 mu mv u0 u1 iz th mb mn (rp_sk b mn y_27) (rp_sk b mn y_27) y_29 (0) mlf men), (rf_RW ct 0 mb 800 b), (rf_RW ct 0 mf 958 g_30)]) (n := 3) [1, 2, 0] rfl rfl (by decide))
            refine ty_ki (wr := []) (wc := ([(rf_MO mo mw ma mf m0 m1 mu mv u0 u1 iz th mb mn (rp_sk b mn y_27) (rp_sk b mn y_27) y_29 (0) mlf men), (rf_RW ct 0 mb 800 b), (rf_RW ct 0 mf 958 g_30)] ++ ws_60)) (va_runV (As := [.int (((20 + (19 * (g 11))) + 8) + y_25), .int y_26, .int 5000]) (rest := []) ⟨hx, hb, hml, hown, hts⟩ (m_X11_reads l D ct S ws_60 ph xx mo mw ma mf m0 m1 mu mv u0 u1 iz mb th mn (rp_sk b mn y_27) (rp_sk b mn y_27) y_29 mlf men b (((20 + (19 * (g 11))) + 8) + y_25) y_26 (5000 : Int32) g_30 y_26.toInt 5000 _ hT hph hy1 hmn (by omega) (by have := rf_c8 (n := y_25) hL hc_1 hex_50.1 hc_62; omega) rfl (by decide)) (cm_V 3 hts kc_X11_reads ki_RX11 kl_RX11_140 kv_X11_reads kx_X11_reads kd_X11_reads ⟨Nat.le_of_ble_eq_true rfl, Nat.le_of_ble_eq_true rfl⟩) (ty_preE (wr := []) (wc := ([(rf_MO mo mw ma mf m0 m1 mu mv u0 u1 iz th mb mn (rp_sk b mn y_27) (rp_sk b mn y_27) y_29 (0) mlf men), (rf_RW ct 0 mb 800 b), (rf_RW ct 0 mf 958 g_30)] ++ ws_60)) (ci := 11) (q0 := 0) hP hK hD hS hA hX rfl rfl) rfl rfl hl.1 rfl (lv_room (Nat.le_of_ble_eq_true rfl)) dX11_readCurve_95 ⟨Nat.le_of_ble_eq_true rfl, Nat.le_of_ble_eq_true rfl⟩) hP hD hS hA (fun r_63 u H locs hw_64 hP hD hS => ?_)
            obtain ⟨ws_65, mpt1_66, mwr1_67, mwk1_68, g1_69⟩ := u
            obtain ⟨hT, hp_70⟩ := hw_64
            have hp_70 : ((rp_sk b mn y_27).toInt ≤ mpt1_66.toInt ∧ mpt1_66.toInt ≤ mn.toInt) ∧ ((r_63 = 0 ∧ rm_f (rp_rk b mn y_26.toInt 5000 (rp_sk b mn y_27)) (rp_rp b mn y_26.toInt 5000 (rp_sk b mn y_27)) mwk1_68 mwr1_67) ∨ (r_63 = 1 ∧ (rp_rk b mn y_26.toInt 5000 (rp_sk b mn y_27) = 0 ∧ mwk1_68 = 0 ∧ mpt1_66 = rp_rp b mn y_26.toInt 5000 (rp_sk b mn y_27)) ∧ ∃ v : Int32, (y_26.toInt ≤ v.toInt ∧ v.toInt ≤ 5000) ∧ v.toInt = rp_rv b mn (rp_sk b mn y_27) ∧ g1_69 = upd g_30 (((20 + (19 * (g 11))) + 8) + y_25).toInt.toNat v)) := hp_70
            have hP : va_P D vwCl ([(rf_MO mo mw ma mf m0 m1 mu mv u0 u1 iz th mb mn mpt1_66 (rp_sk b mn (rp_sk b mn y_27)) mwr1_67 mwk1_68 mlf men), (rf_RW ct 0 mb 800 b), (rf_RW ct 0 mf 958 g1_69)] ++ ws_65) H := hP
            have hD : va_D A ([(rf_MO mo mw ma mf m0 m1 mu mv u0 u1 iz th mb mn mpt1_66 (rp_sk b mn (rp_sk b mn y_27)) mwr1_67 mwk1_68 mlf men), (rf_RW ct 0 mb 800 b), (rf_RW ct 0 mf 958 g1_69)] ++ ws_65) := hD
            obtain ⟨hb_71, hc_72⟩ := hp_70
            have hs_73 := rp_sk_b (b := b) (p := (rp_sk b mn y_27)) hmn.2 (by omega)
            rcases hc_72 with ⟨rfl, hz_74⟩ | ⟨rfl, hz_75⟩
            · rw [(rp_rk_sk (b := b) (lo := y_26.toInt) (hi := 5000) hmn.2 (p := y_27) (by omega)).1, (rp_rk_sk (b := b) (lo := y_26.toInt) (hi := 5000) hmn.2 (p := y_27) (by omega)).2.1] at hz_74
              refine lv_if_ne (tgt := 103) hx hb dX11_readCurve_98 (by decide) (fun hc => absurd (by decide) hc) (fun _ => ?_)
              refine lv_iconst (v := 0) hx hb dX11_readCurve_101 (by decide) ?_
              exact W.zret (v := 0) hx hb hr (by decide) (fun t ht hW => ⟨⟨0, (ws_65, mpt1_66, (rp_sk b mn (rp_sk b mn y_27)), mwr1_67, mwk1_68, g1_69), rfl, ⟨hT, ⟨by omega, Or.inl ⟨rfl, rm_fB (rm_cjf hex_50.2.2.2.2 (by have := rm_n11 hc_62; have := hex_50.1; omega) (fun z => z.2 (rm_dig hc_61)) hz_74)⟩⟩⟩, by rw [ht]; exact hP, by rw [hAe]; exact hD⟩, hS.F ht⟩) hS.2.2 dX11_readCurve_102
            · obtain ⟨⟨hk_76, hwk_77, hpt_78⟩, v_79, hv_80, hvv_81, hg_82⟩ := hz_75
              rw [(rp_rk_sk (b := b) (lo := y_26.toInt) (hi := 5000) hmn.2 (p := y_27) (by omega)).1] at hk_76
              rw [(rp_rk_sk (b := b) (lo := y_26.toInt) (hi := 5000) hmn.2 (p := y_27) (by omega)).2.1] at hpt_78
              rw [(rp_rk_sk (b := b) (lo := y_26.toInt) (hi := 5000) hmn.2 (p := y_27) (by omega)).2.2] at hvv_81
              have hb_83 := hb_71
              subst hwk_77
              subst hpt_78
              refine lv_if_ne (tgt := 103) hx hb dX11_readCurve_98 (by decide) (fun _ => ?_) (fun hc => absurd hc (by decide))
              refine lv_aload_n hx hb dX11_readCurve_103 rfl (lv_at hl 0 rfl) ?_
              refine va_get (v := .ref mf) (D := D) (ci := 11) (C := RX11) (T := TX11) (N := 19) hx hb hts in_X11 hown hK hP 0 rfl rfl 2 (by decide) (hts _ kl_RX11_16) (fun _ h9 => h9) rfl dX11_readCurve_104 ?_
              refine lv_iload_n hx hb dX11_readCurve_107 rfl (lv_at hl 1 rfl) ?_
              refine lv_bipush (v := 8) hx hb dX11_readCurve_108 (by decide) ?_
              refine lv_iadd hx hb dX11_readCurve_110 ?_
              refine lv_iload_n hx hb dX11_readCurve_111 rfl (lv_at hl 2 rfl) ?_
              refine lv_iadd hx hb dX11_readCurve_112 ?_
              refine va_iald hx hb hK hP 2 0 rfl rfl (rf_vin (by have := rf_c8 (n := y_25) hL hc_1 hex_50.1 hc_62; omega)) dX11_readCurve_113 ?_
              refine lv_istore_n (lv' := [(3, .int (g1_69 (((20 + (19 * (g 11))) + 8) + y_25).toNatClampNeg)), (0, .ref mo), (1, .int (20 + (19 * (g 11)))), (2, .int y_25)]) hx hb dX11_readCurve_114 rfl hl (by decide) rfl (fun ls hl => ?_)
              refine lv_iinc (v := (y_25 + Int32.ofInt 1)) (lv' := [(2, .int (y_25 + Int32.ofInt 1)), (3, .int (g1_69 (((20 + (19 * (g 11))) + 8) + y_25).toNatClampNeg)), (0, .ref mo), (1, .int (20 + (19 * (g 11))))]) hx hb dX11_readCurve_115 hl (k := 3) rfl rfl (by decide) rfl (fun ls hl => ?_)
              refine lv_goto (tgt := 50) hx hb dX11_readCurve_118 (by decide) ?_
              exact ih_50 _ _ _ _ (by have := rf_c8 (n := y_25) hL hc_1 hex_50.1 hc_62; have e43 : (y_25 + Int32.ofInt 1).toInt = y_25.toInt + 1 := rf_p1 (by omega); omega) ⟨ws_65, (y_25 + Int32.ofInt 1), (g1_69 (((20 + (19 * (g 11))) + 8) + y_25).toNatClampNeg), (rp_rp b mn y_26.toInt 5000 y_27), (rp_sk b mn (rp_sk b mn y_27)), mwr1_67, g1_69, rfl, hT, hP, hD, hS, (lv_sub hl [2, 3, 0, 1] rfl), (by have := rf_c8 (n := y_25) hL hc_1 hex_50.1 hc_62; have e43 : (y_25 + Int32.ofInt 1).toInt = y_25.toInt + 1 := rf_p1 (by omega); omega), (by omega), (by have := rf_c8 (n := y_25) hL hc_1 hex_50.1 hc_62; rw [hg_82]; exact rf_La1 (x := (((20 + (19 * (g 11))) + 8) + y_25)) hex_50.2.2.1 (Or.inl (by omega))), (fun j hj => by have := rf_c8 (n := y_25) hL hc_1 hex_50.1 hc_62; have := (rf_Ls hL).2.2; rw [hg_82, rf_upd_ne (by omega)]; exact hex_50.2.2.2.1 j hj), rm_cjs hex_50.2.2.2.2 (by have := rm_n11 hc_62; have := hex_50.1; omega) (fun z => z.2 (rm_dig hc_61)) hk_76 (by rw [hg_82]; exact (congrArg Int32.toInt (rm_ue rfl)).trans hvv_81)⟩
          · refine lv_aload_n hx hb dX11_readCurve_78 rfl (lv_at hl 0 rfl) ?_
            refine lv_iconst (v := 1) hx hb dX11_readCurve_79 (by decide) ?_
            have hP : va_P D vwCl ([(rf_RW ct 0 mf 958 g_30), (rf_RW ct 0 mb 800 b), (rf_MO mo mw ma mf m0 m1 mu mv u0 u1 iz th mb mn (rp_sk b mn y_27) (rp_sk b mn y_27) y_29 (0) mlf men)] ++ ws_60) H := ty_permP hP (ty_ordp (E := [(rf_RW ct 0 mf 958 g_30), (rf_MO mo mw ma mf m0 m1 mu mv u0 u1 iz th mb mn (rp_sk b mn y_27) (rp_sk b mn y_27) y_29 (0) mlf men), (rf_RW ct 0 mb 800 b)]) (E2 := [(rf_RW ct 0 mf 958 g_30), (rf_RW ct 0 mb 800 b), (rf_MO mo mw ma mf m0 m1 mu mv u0 u1 iz th mb mn (rp_sk b mn y_27) (rp_sk b mn y_27) y_29 (0) mlf men)]) (n := 3) [0, 2, 1] rfl rfl (by decide))
            have hD : va_D A ([(rf_RW ct 0 mf 958 g_30), (rf_RW ct 0 mb 800 b), (rf_MO mo mw ma mf m0 m1 mu mv u0 u1 iz th mb mn (rp_sk b mn y_27) (rp_sk b mn y_27) y_29 (0) mlf men)] ++ ws_60) := ty_permD hD (ty_ordp (E := [(rf_RW ct 0 mf 958 g_30), (rf_MO mo mw ma mf m0 m1 mu mv u0 u1 iz th mb mn (rp_sk b mn y_27) (rp_sk b mn y_27) y_29 (0) mlf men), (rf_RW ct 0 mb 800 b)]) (E2 := [(rf_RW ct 0 mf 958 g_30), (rf_RW ct 0 mb 800 b), (rf_MO mo mw ma mf m0 m1 mu mv u0 u1 iz th mb mn (rp_sk b mn y_27) (rp_sk b mn y_27) y_29 (0) mlf men)]) (n := 3) [0, 2, 1] rfl rfl (by decide))
            refine ty_ki (wr := [(rf_RW ct 0 mf 958 g_30), (rf_RW ct 0 mb 800 b)]) (wc := ([(rf_MO mo mw ma mf m0 m1 mu mv u0 u1 iz th mb mn (rp_sk b mn y_27) (rp_sk b mn y_27) y_29 (0) mlf men)] ++ ws_60)) (va_runV (As := [.int 1]) (rest := []) ⟨hx, hb, hml, hown, hts⟩ (m_X11_fails l D ct S ws_60 ph xx mo mw ma mf m0 m1 mu mv u0 u1 iz mb th mn (rp_sk b mn y_27) (rp_sk b mn y_27) y_29 mlf men (1 : Int32) _ hT hph hy1) (cm_V 1 hts kc_X11_fails ki_RX11 kl_RX11_112 kv_X11_fails kx_X11_fails kd_X11_fails ⟨Nat.le_of_ble_eq_true rfl, Nat.le_of_ble_eq_true rfl⟩) (ty_preE (wr := [(rf_RW ct 0 mf 958 g_30), (rf_RW ct 0 mb 800 b)]) (wc := ([(rf_MO mo mw ma mf m0 m1 mu mv u0 u1 iz th mb mn (rp_sk b mn y_27) (rp_sk b mn y_27) y_29 (0) mlf men)] ++ ws_60)) (ci := 11) (q0 := 2) hP hK hD hS hA hX rfl rfl) rfl rfl hl.1 rfl (lv_room (Nat.le_of_ble_eq_true rfl)) dX11_readCurve_80 ⟨Nat.le_of_ble_eq_true rfl, Nat.le_of_ble_eq_true rfl⟩) hP hD hS hA (fun r_84 u H locs hw_85 hP hD hS => ?_)
            obtain ⟨ws_86, rfl⟩ : ∃ z, z = u := ⟨_, rfl⟩
            obtain ⟨hT, rfl⟩ := hw_85
            have hP : va_P D vwCl ([(rf_RW ct 0 mf 958 g_30), (rf_RW ct 0 mb 800 b), (rf_MO mo mw ma mf m0 m1 mu mv u0 u1 iz th mb mn (rp_sk b mn y_27) (rp_sk b mn y_27) (rp_sk b mn y_27) (1) mlf men)] ++ ws_86) H := hP
            have hD : va_D A ([(rf_RW ct 0 mf 958 g_30), (rf_RW ct 0 mb 800 b), (rf_MO mo mw ma mf m0 m1 mu mv u0 u1 iz th mb mn (rp_sk b mn y_27) (rp_sk b mn y_27) (rp_sk b mn y_27) (1) mlf men)] ++ ws_86) := hD
            have hP : va_P D vwCl ([(rf_MO mo mw ma mf m0 m1 mu mv u0 u1 iz th mb mn (rp_sk b mn y_27) (rp_sk b mn y_27) (rp_sk b mn y_27) (1) mlf men), (rf_RW ct 0 mb 800 b), (rf_RW ct 0 mf 958 g_30)] ++ ws_86) H := ty_permP hP (ty_ordp (E := [(rf_RW ct 0 mf 958 g_30), (rf_RW ct 0 mb 800 b), (rf_MO mo mw ma mf m0 m1 mu mv u0 u1 iz th mb mn (rp_sk b mn y_27) (rp_sk b mn y_27) (rp_sk b mn y_27) (1) mlf men)]) (E2 := [(rf_MO mo mw ma mf m0 m1 mu mv u0 u1 iz th mb mn (rp_sk b mn y_27) (rp_sk b mn y_27) (rp_sk b mn y_27) (1) mlf men), (rf_RW ct 0 mb 800 b), (rf_RW ct 0 mf 958 g_30)]) (n := 3) [2, 1, 0] rfl rfl (by decide))
            have hD : va_D A ([(rf_MO mo mw ma mf m0 m1 mu mv u0 u1 iz th mb mn (rp_sk b mn y_27) (rp_sk b mn y_27) (rp_sk b mn y_27) (1) mlf men), (rf_RW ct 0 mb 800 b), (rf_RW ct 0 mf 958 g_30)] ++ ws_86) := ty_permD hD (ty_ordp (E := [(rf_RW ct 0 mf 958 g_30), (rf_RW ct 0 mb 800 b), (rf_MO mo mw ma mf m0 m1 mu mv u0 u1 iz th mb mn (rp_sk b mn y_27) (rp_sk b mn y_27) (rp_sk b mn y_27) (1) mlf men)]) (E2 := [(rf_MO mo mw ma mf m0 m1 mu mv u0 u1 iz th mb mn (rp_sk b mn y_27) (rp_sk b mn y_27) (rp_sk b mn y_27) (1) mlf men), (rf_RW ct 0 mb 800 b), (rf_RW ct 0 mf 958 g_30)]) (n := 3) [2, 1, 0] rfl rfl (by decide))
            exact W.zret (v := 0) hx hb hr (by decide) (fun t ht hW => ⟨⟨0, (ws_86, (rp_sk b mn y_27), (rp_sk b mn y_27), (rp_sk b mn y_27), (1 : Int32), g_30), rfl, ⟨hT, ⟨by omega, Or.inl ⟨rfl, rm_cj11 hex_50.2.2.2.2 hc_62 (rm_dig hc_61)⟩⟩⟩, by rw [ht]; exact hP, by rw [hAe]; exact hD⟩, hS.F ht⟩) hS.2.2 dX11_readCurve_83
  · refine lv_aload_n hx hb dX11_readCurve_11 rfl (lv_at hl 0 rfl) ?_
    refine lv_iconst (v := 4) hx hb dX11_readCurve_12 (by decide) ?_
    have hP : va_P D vwCl ([(rf_RW ct 0 mb 800 b), (rf_RW ct 0 mf 958 g), (rf_MO mo mw ma mf m0 m1 mu mv u0 u1 iz th mb mn mpt mbg mwr (0) mlf men)] ++ ws) s.heap := ty_permP hP (ty_ordp (E := [(rf_MO mo mw ma mf m0 m1 mu mv u0 u1 iz th mb mn mpt mbg mwr (0) mlf men), (rf_RW ct 0 mb 800 b), (rf_RW ct 0 mf 958 g)]) (E2 := [(rf_RW ct 0 mb 800 b), (rf_RW ct 0 mf 958 g), (rf_MO mo mw ma mf m0 m1 mu mv u0 u1 iz th mb mn mpt mbg mwr (0) mlf men)]) (n := 3) [1, 2, 0] rfl rfl (by decide))
    have hD : va_D A ([(rf_RW ct 0 mb 800 b), (rf_RW ct 0 mf 958 g), (rf_MO mo mw ma mf m0 m1 mu mv u0 u1 iz th mb mn mpt mbg mwr (0) mlf men)] ++ ws) := ty_permD hD (ty_ordp (E := [(rf_MO mo mw ma mf m0 m1 mu mv u0 u1 iz th mb mn mpt mbg mwr (0) mlf men), (rf_RW ct 0 mb 800 b), (rf_RW ct 0 mf 958 g)]) (E2 := [(rf_RW ct 0 mb 800 b), (rf_RW ct 0 mf 958 g), (rf_MO mo mw ma mf m0 m1 mu mv u0 u1 iz th mb mn mpt mbg mwr (0) mlf men)]) (n := 3) [1, 2, 0] rfl rfl (by decide))
    refine ty_ki (wr := [(rf_RW ct 0 mb 800 b), (rf_RW ct 0 mf 958 g)]) (wc := ([(rf_MO mo mw ma mf m0 m1 mu mv u0 u1 iz th mb mn mpt mbg mwr (0) mlf men)] ++ ws)) (va_runV (As := [.int 4]) (rest := []) ⟨hx, hb, hml, hown, hts⟩ (m_X11_fails l D ct S ws ph xx mo mw ma mf m0 m1 mu mv u0 u1 iz mb th mn mpt mbg mwr mlf men (4 : Int32) _ hT hph hy1) (cm_V 1 hts kc_X11_fails ki_RX11 kl_RX11_112 kv_X11_fails kx_X11_fails kd_X11_fails ⟨Nat.le_of_ble_eq_true rfl, Nat.le_of_ble_eq_true rfl⟩) (ty_preE (wr := [(rf_RW ct 0 mb 800 b), (rf_RW ct 0 mf 958 g)]) (wc := ([(rf_MO mo mw ma mf m0 m1 mu mv u0 u1 iz th mb mn mpt mbg mwr (0) mlf men)] ++ ws)) (ci := 11) (q0 := 2) hP hK hD hS hA hX rfl rfl) rfl rfl hl.1 rfl (lv_room (Nat.le_of_ble_eq_true rfl)) dX11_readCurve_13 ⟨Nat.le_of_ble_eq_true rfl, Nat.le_of_ble_eq_true rfl⟩) hP hD hS hA (fun r_87 u H locs hw_88 hP hD hS => ?_)
    obtain ⟨ws_89, rfl⟩ : ∃ z, z = u := ⟨_, rfl⟩
    obtain ⟨hT, rfl⟩ := hw_88
    have hP : va_P D vwCl ([(rf_RW ct 0 mb 800 b), (rf_RW ct 0 mf 958 g), (rf_MO mo mw ma mf m0 m1 mu mv u0 u1 iz th mb mn mpt mbg mbg (4) mlf men)] ++ ws_89) H := hP
    have hD : va_D A ([(rf_RW ct 0 mb 800 b), (rf_RW ct 0 mf 958 g), (rf_MO mo mw ma mf m0 m1 mu mv u0 u1 iz th mb mn mpt mbg mbg (4) mlf men)] ++ ws_89) := hD
    have hP : va_P D vwCl ([(rf_MO mo mw ma mf m0 m1 mu mv u0 u1 iz th mb mn mpt mbg mbg (4) mlf men), (rf_RW ct 0 mb 800 b), (rf_RW ct 0 mf 958 g)] ++ ws_89) H := ty_permP hP (ty_ordp (E := [(rf_RW ct 0 mb 800 b), (rf_RW ct 0 mf 958 g), (rf_MO mo mw ma mf m0 m1 mu mv u0 u1 iz th mb mn mpt mbg mbg (4) mlf men)]) (E2 := [(rf_MO mo mw ma mf m0 m1 mu mv u0 u1 iz th mb mn mpt mbg mbg (4) mlf men), (rf_RW ct 0 mb 800 b), (rf_RW ct 0 mf 958 g)]) (n := 3) [2, 0, 1] rfl rfl (by decide))
    have hD : va_D A ([(rf_MO mo mw ma mf m0 m1 mu mv u0 u1 iz th mb mn mpt mbg mbg (4) mlf men), (rf_RW ct 0 mb 800 b), (rf_RW ct 0 mf 958 g)] ++ ws_89) := ty_permD hD (ty_ordp (E := [(rf_RW ct 0 mb 800 b), (rf_RW ct 0 mf 958 g), (rf_MO mo mw ma mf m0 m1 mu mv u0 u1 iz th mb mn mpt mbg mbg (4) mlf men)]) (E2 := [(rf_MO mo mw ma mf m0 m1 mu mv u0 u1 iz th mb mn mpt mbg mbg (4) mlf men), (rf_RW ct 0 mb 800 b), (rf_RW ct 0 mf 958 g)]) (n := 3) [2, 0, 1] rfl rfl (by decide))
    exact W.zret (v := 0) hx hb hr (by decide) (fun t ht hW => ⟨⟨0, (ws_89, mpt, mbg, mbg, (4 : Int32), g), rfl, ⟨hT, ⟨by omega, Or.inl ⟨rfl, rm_fB (rm_c4 (rm_N4e hN hc_1))⟩⟩⟩, by rw [ht]; exact hP, by rw [hAe]; exact hD⟩, hS.F ht⟩) hS.2.2 dX11_readCurve_16
