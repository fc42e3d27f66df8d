def rf_pq (g c : Nat → Int32) (n : Int32) : Prop := rf_L c ∧ c 10 = g 10 ∧ ∀ j : Nat, (j : Int) < n.toInt → c (97 + 37 * (g 10).toInt.toNat + 3 * j) = 4 → (c (98 + 37 * (g 10).toInt.toNat + 3 * j)).toInt < (j : Int)
theorem rf_pq0 {g : Nat → Int32} (h : rf_L g) : rf_pq g g 0 := ⟨h, rfl, fun j hj => absurd hj (by have z : (0 : Int32).toInt = 0 := (by decide); omega)⟩
theorem rf_oi {n : Int32} (h : 0 ≤ n.toInt ∧ n.toInt ≤ 1000) : (n + Int32.ofInt 1).toInt = n.toInt + 1 := rf_p1 (by omega)
theorem rf_pqn {g c d : Nat → Int32} {n x : Int32} (h : rf_pq g c n) (hn : 0 ≤ n.toInt ∧ n.toInt ≤ 11) (h4 : 0 ≤ (g 10).toInt ∧ (g 10).toInt < 4) (hx : x.toInt = 97 + 37 * (g 10).toInt + 3 * n.toInt) (s : rf_sp c d x.toInt.toNat n) : rf_pq g d (n + Int32.ofInt 1) := by
  refine ⟨s.1, (s.2.1 10 (by omega)).trans h.2.1, fun j hj hq => ?_⟩
  rw [rf_oi (by omega)] at hj
  by_cases e : (j : Int) = n.toInt
  · have e1 : 97 + 37 * (g 10).toInt.toNat + 3 * j = x.toInt.toNat := by omega
    have e2 : 98 + 37 * (g 10).toInt.toNat + 3 * j = x.toInt.toNat + 1 := by omega
    rw [e1] at hq
    rw [e2, e]
    exact s.2.2 hq
  · rw [s.2.1 _ (by omega)] at hq
    rw [s.2.1 _ (by omega)]
    exact h.2.2 j (by omega) hq
theorem rf_m3 {n : Int32} (h : 0 ≤ n.toInt ∧ n.toInt ≤ 100) : (3 * n).toInt = 3 * n.toInt := by
  have t : (3 : Int32).toInt = 3 := by decide
  rw [Jvm.Kit.i32_mul (by rw [t]; omega) (by rw [t]; omega), t]
theorem rf_Lpg {g c : Nat → Int32} {x n : Int32} (h : rf_pq g c n) (hn : 1 ≤ n.toInt ∧ n.toInt ≤ 12) (h4 : 0 ≤ (g 10).toInt ∧ (g 10).toInt < 4) (hx : x.toInt = 96 + 37 * (g 10).toInt) : rf_L (upd (upd c x.toNatClampNeg n) (10 : Int32).toNatClampNeg ((upd c x.toNatClampNeg n) 10 + 1)) := by
  have ec : c 10 = g 10 := h.2.1
  have d := rf_La1 (x := x) (v := n) (rf_La0 h.1) (by rw [ec]; omega)
  have e1 : (upd c x.toNatClampNeg n) 10 = g 10 := (d.2 10 (by omega)).trans ec
  have ex : x.toNatClampNeg = 96 + 37 * (g 10).toInt.toNat := by
    show x.toInt.toNat = _
    omega
  refine rf_Lm (i := 10) d.1 (Or.inr (Or.inl rfl)) (rf_p1 (by rw [e1]; omega)) (fun q => absurd q (by omega)) (fun _ => ?_) (fun q => absurd q (by omega))
  rw [e1, ex, rf_upd_eq]
  refine ⟨h4.2, hn, fun j hj hq => ?_⟩
  rw [rf_upd_ne (by omega)] at hq
  rw [rf_upd_ne (by omega)]
  exact h.2.2 j hj hq
theorem dX11_readProgram_0 : decode cX11_readProgram 0 = .ok (.aload_n 0, 1) := by decide +kernel
theorem dX11_readProgram_1 : decode cX11_readProgram 1 = .ok (.getfield 16, 3) := by decide +kernel
theorem dX11_readProgram_4 : decode cX11_readProgram 4 = .ok (.bipush 10, 2) := by decide +kernel
theorem dX11_readProgram_6 : decode cX11_readProgram 6 = .ok (.iaload, 1) := by decide +kernel
theorem dX11_readProgram_7 : decode cX11_readProgram 7 = .ok (.iconst 4, 1) := by decide +kernel
theorem dX11_readProgram_8 : decode cX11_readProgram 8 = .ok (.if_icmp .ne 9, 3) := by decide +kernel
theorem dX11_readProgram_11 : decode cX11_readProgram 11 = .ok (.aload_n 0, 1) := by decide +kernel
theorem dX11_readProgram_12 : decode cX11_readProgram 12 = .ok (.iconst 4, 1) := by decide +kernel
theorem dX11_readProgram_13 : decode cX11_readProgram 13 = .ok (.invokevirtual 112, 3) := by decide +kernel
theorem dX11_readProgram_16 : decode cX11_readProgram 16 = .ok (.ireturn, 1) := by decide +kernel
theorem dX11_readProgram_17 : decode cX11_readProgram 17 = .ok (.bipush 96, 2) := by decide +kernel
theorem dX11_readProgram_19 : decode cX11_readProgram 19 = .ok (.bipush 37, 2) := by decide +kernel
theorem dX11_readProgram_21 : decode cX11_readProgram 21 = .ok (.aload_n 0, 1) := by decide +kernel
theorem dX11_readProgram_22 : decode cX11_readProgram 22 = .ok (.getfield 16, 3) := by decide +kernel
theorem dX11_readProgram_25 : decode cX11_readProgram 25 = .ok (.bipush 10, 2) := by decide +kernel
theorem dX11_readProgram_27 : decode cX11_readProgram 27 = .ok (.iaload, 1) := by decide +kernel
theorem dX11_readProgram_28 : decode cX11_readProgram 28 = .ok (.imul, 1) := by decide +kernel
theorem dX11_readProgram_29 : decode cX11_readProgram 29 = .ok (.iadd, 1) := by decide +kernel
theorem dX11_readProgram_30 : decode cX11_readProgram 30 = .ok (.istore_n 1, 1) := by decide +kernel
theorem dX11_readProgram_31 : decode cX11_readProgram 31 = .ok (.aload_n 0, 1) := by decide +kernel
theorem dX11_readProgram_32 : decode cX11_readProgram 32 = .ok (.invokevirtual 133, 3) := by decide +kernel
theorem dX11_readProgram_35 : decode cX11_readProgram 35 = .ok (.pop, 1) := by decide +kernel
theorem dX11_readProgram_36 : decode cX11_readProgram 36 = .ok (.aload_n 0, 1) := by decide +kernel
theorem dX11_readProgram_37 : decode cX11_readProgram 37 = .ok (.invokevirtual 106, 3) := by decide +kernel
theorem dX11_readProgram_40 : decode cX11_readProgram 40 = .ok (.pop, 1) := by decide +kernel
theorem dX11_readProgram_41 : decode cX11_readProgram 41 = .ok (.aload_n 0, 1) := by decide +kernel
theorem dX11_readProgram_42 : decode cX11_readProgram 42 = .ok (.aload_n 0, 1) := by decide +kernel
theorem dX11_readProgram_43 : decode cX11_readProgram 43 = .ok (.getfield 81, 3) := by decide +kernel
theorem dX11_readProgram_46 : decode cX11_readProgram 46 = .ok (.invokevirtual 90, 3) := by decide +kernel
theorem dX11_readProgram_49 : decode cX11_readProgram 49 = .ok (.ifCond .ne 9, 3) := by decide +kernel
theorem dX11_readProgram_52 : decode cX11_readProgram 52 = .ok (.aload_n 0, 1) := by decide +kernel
theorem dX11_readProgram_53 : decode cX11_readProgram 53 = .ok (.iconst 1, 1) := by decide +kernel
theorem dX11_readProgram_54 : decode cX11_readProgram 54 = .ok (.invokevirtual 112, 3) := by decide +kernel
theorem dX11_readProgram_57 : decode cX11_readProgram 57 = .ok (.ireturn, 1) := by decide +kernel
theorem dX11_readProgram_58 : decode cX11_readProgram 58 = .ok (.iconst 0, 1) := by decide +kernel
theorem dX11_readProgram_59 : decode cX11_readProgram 59 = .ok (.istore_n 2, 1) := by decide +kernel
theorem dX11_readProgram_60 : decode cX11_readProgram 60 = .ok (.aload_n 0, 1) := by decide +kernel
theorem dX11_readProgram_61 : decode cX11_readProgram 61 = .ok (.aload_n 0, 1) := by decide +kernel
theorem dX11_readProgram_62 : decode cX11_readProgram 62 = .ok (.getfield 81, 3) := by decide +kernel
theorem dX11_readProgram_65 : decode cX11_readProgram 65 = .ok (.invokevirtual 90, 3) := by decide +kernel
theorem dX11_readProgram_68 : decode cX11_readProgram 68 = .ok (.ifCond .eq 31, 3) := by decide +kernel
theorem dX11_readProgram_71 : decode cX11_readProgram 71 = .ok (.aload_n 0, 1) := by decide +kernel
theorem dX11_readProgram_72 : decode cX11_readProgram 72 = .ok (.iload_n 1, 1) := by decide +kernel
theorem dX11_readProgram_73 : decode cX11_readProgram 73 = .ok (.iconst 1, 1) := by decide +kernel
theorem dX11_readProgram_74 : decode cX11_readProgram 74 = .ok (.iadd, 1) := by decide +kernel
theorem dX11_readProgram_75 : decode cX11_readProgram 75 = .ok (.iconst 3, 1) := by decide +kernel
theorem dX11_readProgram_76 : decode cX11_readProgram 76 = .ok (.iload_n 2, 1) := by decide +kernel
theorem dX11_readProgram_77 : decode cX11_readProgram 77 = .ok (.imul, 1) := by decide +kernel
theorem dX11_readProgram_78 : decode cX11_readProgram 78 = .ok (.iadd, 1) := by decide +kernel
theorem dX11_readProgram_79 : decode cX11_readProgram 79 = .ok (.iload_n 2, 1) := by decide +kernel
theorem dX11_readProgram_80 : decode cX11_readProgram 80 = .ok (.invokevirtual 158, 3) := by decide +kernel
theorem dX11_readProgram_83 : decode cX11_readProgram 83 = .ok (.ifCond .ne 5, 3) := by decide +kernel
theorem dX11_readProgram_86 : decode cX11_readProgram 86 = .ok (.iconst 0, 1) := by decide +kernel
theorem dX11_readProgram_87 : decode cX11_readProgram 87 = .ok (.ireturn, 1) := by decide +kernel
theorem dX11_readProgram_88 : decode cX11_readProgram 88 = .ok (.iinc 2 1, 3) := by decide +kernel
theorem dX11_readProgram_91 : decode cX11_readProgram 91 = .ok (.aload_n 0, 1) := by decide +kernel
theorem dX11_readProgram_92 : decode cX11_readProgram 92 = .ok (.invokevirtual 106, 3) := by decide +kernel
theorem dX11_readProgram_95 : decode cX11_readProgram 95 = .ok (.pop, 1) := by decide +kernel
theorem dX11_readProgram_96 : decode cX11_readProgram 96 = .ok (.goto (-36), 3) := by decide +kernel
theorem dX11_readProgram_99 : decode cX11_readProgram 99 = .ok (.aload_n 0, 1) := by decide +kernel
theorem dX11_readProgram_100 : decode cX11_readProgram 100 = .ok (.getfield 16, 3) := by decide +kernel
theorem dX11_readProgram_103 : decode cX11_readProgram 103 = .ok (.iload_n 1, 1) := by decide +kernel
theorem dX11_readProgram_104 : decode cX11_readProgram 104 = .ok (.iload_n 2, 1) := by decide +kernel
theorem dX11_readProgram_105 : decode cX11_readProgram 105 = .ok (.iastore, 1) := by decide +kernel
theorem dX11_readProgram_106 : decode cX11_readProgram 106 = .ok (.aload_n 0, 1) := by decide +kernel
theorem dX11_readProgram_107 : decode cX11_readProgram 107 = .ok (.getfield 16, 3) := by decide +kernel
theorem dX11_readProgram_110 : decode cX11_readProgram 110 = .ok (.bipush 10, 2) := by decide +kernel
theorem dX11_readProgram_112 : decode cX11_readProgram 112 = .ok (.dup2, 1) := by decide +kernel
theorem dX11_readProgram_113 : decode cX11_readProgram 113 = .ok (.iaload, 1) := by decide +kernel
theorem dX11_readProgram_114 : decode cX11_readProgram 114 = .ok (.iconst 1, 1) := by decide +kernel
theorem dX11_readProgram_115 : decode cX11_readProgram 115 = .ok (.iadd, 1) := by decide +kernel
theorem dX11_readProgram_116 : decode cX11_readProgram 116 = .ok (.iastore, 1) := by decide +kernel
theorem dX11_readProgram_117 : decode cX11_readProgram 117 = .ok (.iconst 1, 1) := by decide +kernel
theorem dX11_readProgram_118 : decode cX11_readProgram 118 = .ok (.ireturn, 1) := by decide +kernel
set_option maxRecDepth 100000 in
set_option maxHeartbeats 4000000 in
theorem m_X11_readProgram (l : Launch) (D : va_G) (ct : Nat → ClassId) (S : ty_S) (ws : va_W) (mo : Nat) (mw : Nat) (ma : Nat) (mf : Nat) (m0 : Nat) (m1 : Nat) (mu : Nat) (mv : Nat) (u0 : Nat) (u1 : Nat) (iz : Nat) (mb : Nat) (th : Int32) (mn : Int32) (mpt : Int32) (mbg : Int32) (mwr : Int32) (mwk : Int32) (mlf : Int32) (men : Int32) (b : Nat → Int32) (g : Nat → Int32) (sz : Nat) (hT : ty_W ct S ws) (hmn : 0 ≤ mn.toInt ∧ mn.toInt ≤ 800) (hpt : 0 ≤ mpt.toInt ∧ mpt.toInt ≤ 800) (hb2 : mpt.toInt ≤ mbg.toInt ∧ mbg.toInt ≤ 800) (hL : rf_L g) : Met l yX11_readProgram (ws_ yX11_readProgram cX11_readProgram 3 (some .boolean)) ({ frames := 6, cells := 0, slots := 0, locals := 133 } : Room) (va_Pc [.ref mo] (cmP D ct sz ([(rf_MO mo mw ma mf m0 m1 mu mv u0 u1 iz th mb mn mpt mbg mwr mwk mlf men), (rf_RW ct 0 mb 800 b), (rf_RW ct 0 mf 958 g)] ++ ws))) (va_Qi (fun (r : Int32) (u : va_W × Int32 × Int32 × Int32 × Int32 × (Nat → Int32)) => match u with | (u9, mpt1, mbg1, mwr1, mwk1, g1) => ty_W ct S u9 ∧ ((mpt.toInt ≤ mpt1.toInt ∧ mpt1.toInt ≤ 800) ∧ 0 ≤ mbg1.toInt ∧ mbg1.toInt ≤ 800) ∧ (r = 0 ∨ (r = 1 ∧ rf_L g1))) (cmB D ([(rf_MO mo mw ma mf m0 m1 mu mv u0 u1 iz th mb mn mpt mbg mwr mwk mlf men), (rf_RW ct 0 mb 800 b), (rf_RW ct 0 mf 958 g)] ++ ws) sz (fun (u : va_W × Int32 × Int32 × Int32 × Int32 × (Nat → Int32)) => match u with | (u9, mpt1, mbg1, mwr1, mwk1, g1) => ([(rf_MO mo mw ma mf m0 m1 mu mv u0 u1 iz th mb mn mpt1 mbg1 mwr1 mwk1 mlf men), (rf_RW ct 0 mb 800 b), (rf_RW ct 0 mf 958 g1)] ++ u9))) (va_A ([(rf_MO mo mw ma mf m0 m1 mu mv u0 u1 iz th mb mn mpt mbg mwr mwk mlf men), (rf_RW ct 0 mb 800 b), (rf_RW ct 0 mf 958 g)] ++ ws) sz)) 0 0 (va_A ([(rf_MO mo mw ma mf m0 m1 mu mv u0 u1 iz th mb mn mpt mbg mwr mwk mlf men), (rf_RW ct 0 mb 800 b), (rf_RW ct 0 mf 958 g)] ++ ws) sz) := by
  refine Met.ofW (cc := cX11_readProgram) (maxL := 3) (ret := (some .boolean)) (by decide) rfl ?_
  intro p e s m args below meth c s₁ B hml hv
  obtain ⟨rfl, hsz, hP, hK, hD0, hX⟩ := hv
  have hx := B.exec
  have hb := B.bytes
  have hr := B.returns
  have hts := ws_all (atoms_spec (ws := ws_ yX11_readProgram cX11_readProgram 3 (some .boolean)) B.pre)
  have hown : s.vm.findClass RX11 = some m.cls := findClass_of_methodNamed B.named
  have hlocks := B.notSynchronized
  subst hsz
  have hD := hD0.self (sz := s.heap.size)
  generalize hAe : va_A ([(rf_MO mo mw ma mf m0 m1 mu mv u0 u1 iz th mb mn mpt mbg mwr mwk mlf men), (rf_RW ct 0 mb 800 b), (rf_RW ct 0 mf 958 g)] ++ ws) s.heap.size = A at hD hX ⊢
  have hA : ∀ q : Nat, s.heap.size ≤ q → A q := fun q h => by rw [← hAe]; exact Or.inr h
  have hS : va_S A s.heap s.heap [] := va_S.rf
  have hl := lv_entry ([.ref mo]) (n := 3) (Nat.le_of_ble_eq_true rfl)
  rw [lg_entry_eq]
  generalize (lg_sl ([.ref mo]) ++ List.replicate (3 - (lg_sl ([.ref mo])).length) Slot.unset).toArray = ls at hl ⊢
  have hl : lv_has ls 3 [(0, .ref mo)] := hl
  refine lv_aload_n hx hb dX11_readProgram_0 rfl (lv_at hl 0 rfl) ?_
  refine va_get (v := .ref mf) (D := D) (ci := 11) (C := RX11) (T := TX11) (N := 19) hx hb hts in_X11 hown hK hP 0 rfl rfl 2 (by decide) (hts _ kl_RX11_16) (fun _ h9 => h9) rfl dX11_readProgram_1 ?_
  refine lv_bipush (v := 10) hx hb dX11_readProgram_4 (by decide) ?_
  refine va_iald hx hb hK hP 2 0 rfl rfl (cm_vin (by decide)) dX11_readProgram_6 ?_
  refine cm_cst (y := (g 10)) (by first | rfl | decide +kernel) ?_
  refine lv_iconst (v := 4) hx hb dX11_readProgram_7 (by decide) ?_
  refine lv_icmp_ne (tgt := 17) hx hb dX11_readProgram_8 (by decide) (fun hc_1 => ?_) (fun hc_1 => ?_)
  · refine lv_bipush (v := 96) hx hb dX11_readProgram_17 (by decide) ?_
    refine lv_bipush (v := 37) hx hb dX11_readProgram_19 (by decide) ?_
    refine lv_aload_n hx hb dX11_readProgram_21 rfl (lv_at hl 0 rfl) ?_
    refine va_get (v := .ref mf) (D := D) (ci := 11) (C := RX11) (T := TX11) (N := 19) hx hb hts in_X11 hown hK hP 0 rfl rfl 2 (by decide) (hts _ kl_RX11_16) (fun _ h9 => h9) rfl dX11_readProgram_22 ?_
    refine lv_bipush (v := 10) hx hb dX11_readProgram_25 (by decide) ?_
    refine va_iald hx hb hK hP 2 0 rfl rfl (cm_vin (by decide)) dX11_readProgram_27 ?_
    refine cm_cst (y := (g 10)) (by first | rfl | decide +kernel) ?_
    refine lv_imul hx hb dX11_readProgram_28 ?_
    refine lv_iadd hx hb dX11_readProgram_29 ?_
    refine lv_istore_n (lv' := [(1, .int (96 + (37 * (g 10)))), (0, .ref mo)]) hx hb dX11_readProgram_30 rfl hl (by decide) rfl (fun ls hl => ?_)
    refine lv_aload_n hx hb dX11_readProgram_31 rfl (lv_at hl 1 rfl) ?_
    have hP : va_P D vwCl ([(rf_RW ct 0 mf 958 g), (rf_MO mo mw ma mf m0 m1 mu mv u0 u1 iz th mb mn mpt mbg mwr mwk mlf men), (rf_RW ct 0 mb 800 b)] ++ ws) s.heap := ty_permP hP (ty_ordp (E := [(rf_MO mo mw ma mf m0 m1 mu mv u0 u1 iz th mb mn mpt mbg mwr mwk mlf men), (rf_RW ct 0 mb 800 b), (rf_RW ct 0 mf 958 g)]) (E2 := [(rf_RW ct 0 mf 958 g), (rf_MO mo mw ma mf m0 m1 mu mv u0 u1 iz th mb mn mpt mbg mwr mwk mlf men), (rf_RW ct 0 mb 800 b)]) (n := 3) [2, 0, 1] rfl rfl (by decide))
    have hD : va_D A ([(rf_RW ct 0 mf 958 g), (rf_MO mo mw ma mf m0 m1 mu mv u0 u1 iz th mb mn mpt mbg mwr mwk mlf men), (rf_RW ct 0 mb 800 b)] ++ ws) := ty_permD hD (ty_ordp (E := [(rf_MO mo mw ma mf m0 m1 mu mv u0 u1 iz th mb mn mpt mbg mwr mwk mlf men), (rf_RW ct 0 mb 800 b), (rf_RW ct 0 mf 958 g)]) (E2 := [(rf_RW ct 0 mf 958 g), (rf_MO mo mw ma mf m0 m1 mu mv u0 u1 iz th mb mn mpt mbg mwr mwk mlf men), (rf_RW ct 0 mb 800 b)]) (n := 3) [2, 0, 1] rfl rfl (by decide))
    refine ty_ki (wr := [(rf_RW ct 0 mf 958 g)]) (wc := ([(rf_MO mo mw ma mf m0 m1 mu mv u0 u1 iz th mb mn mpt mbg mwr mwk mlf men), (rf_RW ct 0 mb 800 b)] ++ ws)) (va_runV (As := []) (rest := []) ⟨hx, hb, hml, hown, hts⟩ (m_X11_passes l D ct S ws mo mw ma mf m0 m1 mu mv u0 u1 iz mb th mn mpt mbg mwr mwk mlf men b _ hT hmn (by omega)) (cm_V 0 hts kc_X11_passes ki_RX11 kl_RX11_133 kv_X11_passes kx_X11_passes kd_X11_passes ⟨Nat.le_of_ble_eq_true rfl, Nat.le_of_ble_eq_true rfl⟩) (ty_preE (wr := [(rf_RW ct 0 mf 958 g)]) (wc := ([(rf_MO mo mw ma mf m0 m1 mu mv u0 u1 iz th mb mn mpt mbg mwr mwk mlf men), (rf_RW ct 0 mb 800 b)] ++ ws)) (ci := 11) (q0 := 1) hP hK hD hS hA hX rfl rfl) rfl rfl hl.1 rfl (lv_room (Nat.le_of_ble_eq_true rfl)) dX11_readProgram_32 ⟨Nat.le_of_ble_eq_true rfl, Nat.le_of_ble_eq_true rfl⟩) hP hD hS hA (fun r_2 u H locs hw_3 hP hD hS => ?_)
    obtain ⟨ws_4, mpt1_5⟩ := u
    obtain ⟨hT, rfl, hp_6⟩ := hw_3
    have hP : va_P D vwCl ([(rf_RW ct 0 mf 958 g), (rf_MO mo mw ma mf m0 m1 mu mv u0 u1 iz th mb mn mpt1_5 mbg mwr mwk mlf men), (rf_RW ct 0 mb 800 b)] ++ ws_4) H := hP
    have hD : va_D A ([(rf_RW ct 0 mf 958 g), (rf_MO mo mw ma mf m0 m1 mu mv u0 u1 iz th mb mn mpt1_5 mbg mwr mwk mlf men), (rf_RW ct 0 mb 800 b)] ++ ws_4) := hD
    have hs_7 : mbg.toInt ≤ mpt1_5.toInt ∧ mpt1_5.toInt ≤ 800 := hp_6
    refine lv_pop hx hb dX11_readProgram_35 rfl ?_
    refine lv_aload_n hx hb dX11_readProgram_36 rfl (lv_at hl 1 rfl) ?_
    refine ty_ki (wr := [(rf_RW ct 0 mf 958 g)]) (wc := ([(rf_MO mo mw ma mf m0 m1 mu mv u0 u1 iz th mb mn mpt1_5 mbg mwr mwk mlf men), (rf_RW ct 0 mb 800 b)] ++ ws_4)) (va_runV (As := []) (rest := []) ⟨hx, hb, hml, hown, hts⟩ (m_X11_see l D ct S ws_4 mo mw ma mf m0 m1 mu mv u0 u1 iz mb th mn mpt1_5 mbg mwr mwk mlf men b _ hT hmn (by omega)) (cm_V 0 hts kc_X11_see ki_RX11 kl_RX11_106 kv_X11_see kx_X11_see kd_X11_see ⟨Nat.le_of_ble_eq_true rfl, Nat.le_of_ble_eq_true rfl⟩) (ty_preE (wr := [(rf_RW ct 0 mf 958 g)]) (wc := ([(rf_MO mo mw ma mf m0 m1 mu mv u0 u1 iz th mb mn mpt1_5 mbg mwr mwk mlf men), (rf_RW ct 0 mb 800 b)] ++ ws_4)) (ci := 11) (q0 := 1) hP hK hD hS hA hX rfl rfl) rfl rfl hl.1 rfl (lv_room (Nat.le_of_ble_eq_true rfl)) dX11_readProgram_37 ⟨Nat.le_of_ble_eq_true rfl, Nat.le_of_ble_eq_true rfl⟩) hP hD hS hA (fun r_8 u H locs hw_9 hP hD hS => ?_)
    obtain ⟨ws_10, mbg1_11, mpt1_12⟩ := u
    obtain ⟨hT, rfl, hp_13⟩ := hw_9
    have hP : va_P D vwCl ([(rf_RW ct 0 mf 958 g), (rf_MO mo mw ma mf m0 m1 mu mv u0 u1 iz th mb mn mpt1_12 mbg1_11 mwr mwk mlf men), (rf_RW ct 0 mb 800 b)] ++ ws_10) H := hP
    have hD : va_D A ([(rf_RW ct 0 mf 958 g), (rf_MO mo mw ma mf m0 m1 mu mv u0 u1 iz th mb mn mpt1_12 mbg1_11 mwr mwk mlf men), (rf_RW ct 0 mb 800 b)] ++ ws_10) := hD
    have hs_14 : mpt1_5.toInt ≤ mpt1_12.toInt ∧ mpt1_12.toInt ≤ 800 := hp_13.1
    have hs_15 : mbg1_11.toInt = mpt1_12.toInt := congrArg Int32.toInt hp_13.2
    refine lv_pop hx hb dX11_readProgram_40 rfl ?_
    refine lv_aload_n hx hb dX11_readProgram_41 rfl (lv_at hl 1 rfl) ?_
    refine lv_aload_n hx hb dX11_readProgram_42 rfl (lv_at hl 1 rfl) ?_
    refine va_get (v := .int mbg1_11) (D := D) (ci := 11) (C := RX11) (T := TX11) (N := 19) hx hb hts in_X11 hown hK hP 1 rfl rfl 14 (by decide) (hts _ kl_RX11_81) (fun _ h9 => h9) rfl dX11_readProgram_43 ?_
    refine ty_ki (wr := [(rf_RW ct 0 mf 958 g)]) (wc := ([(rf_MO mo mw ma mf m0 m1 mu mv u0 u1 iz th mb mn mpt1_12 mbg1_11 mwr mwk mlf men), (rf_RW ct 0 mb 800 b)] ++ ws_10)) (va_runV (As := [.int mbg1_11]) (rest := []) ⟨hx, hb, hml, hown, hts⟩ (m_X11_isLetter l D ct S ws_10 mo mw ma mf m0 m1 mu mv u0 u1 iz mb th mn mpt1_12 mbg1_11 mwr mwk mlf men b mbg1_11 _ hT hmn (by omega)) (cm_V 1 hts kc_X11_isLetter ki_RX11 kl_RX11_90 kv_X11_isLetter kx_X11_isLetter kd_X11_isLetter ⟨Nat.le_of_ble_eq_true rfl, Nat.le_of_ble_eq_true rfl⟩) (ty_preE (wr := [(rf_RW ct 0 mf 958 g)]) (wc := ([(rf_MO mo mw ma mf m0 m1 mu mv u0 u1 iz th mb mn mpt1_12 mbg1_11 mwr mwk mlf men), (rf_RW ct 0 mb 800 b)] ++ ws_10)) (ci := 11) (q0 := 1) hP hK hD hS hA hX rfl rfl) rfl rfl hl.1 rfl (lv_room (Nat.le_of_ble_eq_true rfl)) dX11_readProgram_46 ⟨Nat.le_of_ble_eq_true rfl, Nat.le_of_ble_eq_true rfl⟩) hP hD hS hA (fun r_16 u H locs hw_17 hP hD hS => ?_)
    obtain ⟨ws_18, rfl⟩ : ∃ z, z = u := ⟨_, rfl⟩
    obtain ⟨hT, rfl⟩ := hw_17
    have hP : va_P D vwCl ([(rf_RW ct 0 mf 958 g), (rf_MO mo mw ma mf m0 m1 mu mv u0 u1 iz th mb mn mpt1_12 mbg1_11 mwr mwk mlf men), (rf_RW ct 0 mb 800 b)] ++ ws_18) H := hP
    have hD : va_D A ([(rf_RW ct 0 mf 958 g), (rf_MO mo mw ma mf m0 m1 mu mv u0 u1 iz th mb mn mpt1_12 mbg1_11 mwr mwk mlf men), (rf_RW ct 0 mb 800 b)] ++ ws_18) := hD
    refine lv_if_ne (tgt := 58) hx hb dX11_readProgram_49 (by decide) (fun hc_19 => ?_) (fun hc_19 => ?_)
    · refine lv_iconst (v := 0) hx hb dX11_readProgram_58 (by decide) ?_
      refine lv_istore_n (lv' := [(2, .int 0), (1, .int (96 + (37 * (g 10)))), (0, .ref mo)]) hx hb dX11_readProgram_59 rfl hl (by decide) rfl (fun ls hl => ?_)
      refine lv_aload_n hx hb dX11_readProgram_60 rfl (lv_at hl 2 rfl) ?_
      refine lv_aload_n hx hb dX11_readProgram_61 rfl (lv_at hl 2 rfl) ?_
      refine va_get (v := .int mbg1_11) (D := D) (ci := 11) (C := RX11) (T := TX11) (N := 19) hx hb hts in_X11 hown hK hP 1 rfl rfl 14 (by decide) (hts _ kl_RX11_81) (fun _ h9 => h9) rfl dX11_readProgram_62 ?_
      refine ty_ki (wr := [(rf_RW ct 0 mf 958 g)]) (wc := ([(rf_MO mo mw ma mf m0 m1 mu mv u0 u1 iz th mb mn mpt1_12 mbg1_11 mwr mwk mlf men), (rf_RW ct 0 mb 800 b)] ++ ws_18)) (va_runV (As := [.int mbg1_11]) (rest := []) ⟨hx, hb, hml, hown, hts⟩ (m_X11_isLetter l D ct S ws_18 mo mw ma mf m0 m1 mu mv u0 u1 iz mb th mn mpt1_12 mbg1_11 mwr mwk mlf men b mbg1_11 _ hT hmn (by omega)) (cm_V 1 hts kc_X11_isLetter ki_RX11 kl_RX11_90 kv_X11_isLetter kx_X11_isLetter kd_X11_isLetter ⟨Nat.le_of_ble_eq_true rfl, Nat.le_of_ble_eq_true rfl⟩) (ty_preE (wr := [(rf_RW ct 0 mf 958 g)]) (wc := ([(rf_MO mo mw ma mf m0 m1 mu mv u0 u1 iz th mb mn mpt1_12 mbg1_11 mwr mwk mlf men), (rf_RW ct 0 mb 800 b)] ++ ws_18)) (ci := 11) (q0 := 1) hP hK hD hS hA hX rfl rfl) rfl rfl hl.1 rfl (lv_room (Nat.le_of_ble_eq_true rfl)) dX11_readProgram_65 ⟨Nat.le_of_ble_eq_true rfl, Nat.le_of_ble_eq_true rfl⟩) hP hD hS hA (fun r_20 u H locs hw_21 hP hD hS => ?_)
      obtain ⟨ws_22, rfl⟩ : ∃ z, z = u := ⟨_, rfl⟩
      obtain ⟨hT, rfl⟩ := hw_21
      have hP : va_P D vwCl ([(rf_RW ct 0 mf 958 g), (rf_MO mo mw ma mf m0 m1 mu mv u0 u1 iz th mb mn mpt1_12 mbg1_11 mwr mwk mlf men), (rf_RW ct 0 mb 800 b)] ++ ws_22) H := hP
      have hD : va_D A ([(rf_RW ct 0 mf 958 g), (rf_MO mo mw ma mf m0 m1 mu mv u0 u1 iz th mb mn mpt1_12 mbg1_11 mwr mwk mlf men), (rf_RW ct 0 mb 800 b)] ++ ws_22) := hD
      refine lv_if_eq (tgt := 99) hx hb dX11_readProgram_68 (by decide) (fun hc_23 => ?_) (fun hc_23 => ?_)
      · exact absurd hc_23 hc_19
      · refine lv_aload_n hx hb dX11_readProgram_71 rfl (lv_at hl 2 rfl) ?_
        refine lv_iload_n hx hb dX11_readProgram_72 rfl (lv_at hl 1 rfl) ?_
        refine lv_iconst (v := 1) hx hb dX11_readProgram_73 (by decide) ?_
        refine lv_iadd hx hb dX11_readProgram_74 ?_
        refine lv_iconst (v := 3) hx hb dX11_readProgram_75 (by decide) ?_
        refine lv_iload_n hx hb dX11_readProgram_76 rfl (lv_at hl 0 rfl) ?_
        refine lv_imul hx hb dX11_readProgram_77 ?_
        refine cm_cst (y := 0) (by decide) ?_
        refine lv_iadd hx hb dX11_readProgram_78 ?_
        refine lv_iload_n hx hb dX11_readProgram_79 rfl (lv_at hl 0 rfl) ?_
        have hP : va_P D vwCl ([(rf_MO mo mw ma mf m0 m1 mu mv u0 u1 iz th mb mn mpt1_12 mbg1_11 mwr mwk mlf men), (rf_RW ct 0 mb 800 b), (rf_RW ct 0 mf 958 g)] ++ ws_22) H := ty_permP hP (ty_ordp (E := [(rf_RW ct 0 mf 958 g), (rf_MO mo mw ma mf m0 m1 mu mv u0 u1 iz th mb mn mpt1_12 mbg1_11 mwr mwk mlf men), (rf_RW ct 0 mb 800 b)]) (E2 := [(rf_MO mo mw ma mf m0 m1 mu mv u0 u1 iz th mb mn mpt1_12 mbg1_11 mwr mwk mlf men), (rf_RW ct 0 mb 800 b), (rf_RW ct 0 mf 958 g)]) (n := 3) [1, 2, 0] rfl rfl (by decide))
        have hD : va_D A ([(rf_MO mo mw ma mf m0 m1 mu mv u0 u1 iz th mb mn mpt1_12 mbg1_11 mwr mwk mlf men), (rf_RW ct 0 mb 800 b), (rf_RW ct 0 mf 958 g)] ++ ws_22) := ty_permD hD (ty_ordp (E := [(rf_RW ct 0 mf 958 g), (rf_MO mo mw ma mf m0 m1 mu mv u0 u1 iz th mb mn mpt1_12 mbg1_11 mwr mwk mlf men), (rf_RW ct 0 mb 800 b)]) (E2 := [(rf_MO mo mw ma mf m0 m1 mu mv u0 u1 iz th mb mn mpt1_12 mbg1_11 mwr mwk mlf men), (rf_RW ct 0 mb 800 b), (rf_RW ct 0 mf 958 g)]) (n := 3) [1, 2, 0] rfl rfl (by decide))
        refine ty_ki (wr := []) (wc := ([(rf_MO mo mw ma mf m0 m1 mu mv u0 u1 iz th mb mn mpt1_12 mbg1_11 mwr mwk mlf men), (rf_RW ct 0 mb 800 b), (rf_RW ct 0 mf 958 g)] ++ ws_22)) (va_runV (As := [.int (((96 + (37 * (g 10))) + 1) + 0), .int 0]) (rest := []) ⟨hx, hb, hml, hown, hts⟩ (m_X11_readStep l D ct S ws_22 mo mw ma mf m0 m1 mu mv u0 u1 iz mb th mn mpt1_12 mbg1_11 mwr mwk mlf men b (((96 + (37 * (g 10))) + 1) + 0) (0 : Int32) g _ hT hmn (by omega) (by omega) (rf_pq0 hL).1 (by have e10 := congrArg Int32.toInt (rf_pq0 hL).2.1; have := rf_n4b (rf_Ls hL).2.1 hc_1; omega) (by have e10 := congrArg Int32.toInt (rf_pq0 hL).2.1; have := (rf_Ls hL).2.1; have := rf_n4b (rf_Ls hL).2.1 hc_1; have e40 := rf_mk9 (a := 96) (b := 37) (k := (g 10)) (A := 96) (B := 37) (by decide) (by decide) (by omega) (by omega) (by omega); have e41 := rf_pk (x := (96 + (37 * (g 10)))) (k := 1) (K := 1) (by decide) (by omega) (by omega); have z0 : (0 : Int32).toInt = 0 := (by decide); have e42 := rf_pk (x := ((96 + (37 * (g 10))) + 1)) (k := 0) (K := 0) (by decide) (by omega) (by omega); omega) (by decide)) (cm_V 2 hts kc_X11_readStep ki_RX11 kl_RX11_158 kv_X11_readStep kx_X11_readStep kd_X11_readStep ⟨Nat.le_of_ble_eq_true rfl, Nat.le_of_ble_eq_true rfl⟩) (ty_preE (wr := []) (wc := ([(rf_MO mo mw ma mf m0 m1 mu mv u0 u1 iz th mb mn mpt1_12 mbg1_11 mwr mwk mlf men), (rf_RW ct 0 mb 800 b), (rf_RW ct 0 mf 958 g)] ++ ws_22)) (ci := 11) (q0 := 0) hP hK hD hS hA hX rfl rfl) rfl rfl hl.1 rfl (lv_room (Nat.le_of_ble_eq_true rfl)) dX11_readProgram_80 ⟨Nat.le_of_ble_eq_true rfl, Nat.le_of_ble_eq_true rfl⟩) hP hD hS hA (fun r_24 u H locs hw_25 hP hD hS => ?_)
        obtain ⟨ws_26, mpt1_27, mbg1_28, mwr1_29, mwk1_30, g1_31⟩ := u
        obtain ⟨hT, hp_32⟩ := hw_25
        have hp_32 : ((mpt1_12.toInt ≤ mpt1_27.toInt ∧ mpt1_27.toInt ≤ 800) ∧ 0 ≤ mbg1_28.toInt ∧ mbg1_28.toInt ≤ 800) ∧ (r_24 = 0 ∨ (r_24 = 1 ∧ (0 : Int32).toInt ≤ 11 ∧ rf_sp g g1_31 (((96 + (37 * (g 10))) + 1) + 0).toInt.toNat (0 : Int32))) := hp_32
        have hP : va_P D vwCl ([(rf_MO mo mw ma mf m0 m1 mu mv u0 u1 iz th mb mn mpt1_27 mbg1_28 mwr1_29 mwk1_30 mlf men), (rf_RW ct 0 mb 800 b), (rf_RW ct 0 mf 958 g1_31)] ++ ws_26) H := hP
        have hD : va_D A ([(rf_MO mo mw ma mf m0 m1 mu mv u0 u1 iz th mb mn mpt1_27 mbg1_28 mwr1_29 mwk1_30 mlf men), (rf_RW ct 0 mb 800 b), (rf_RW ct 0 mf 958 g1_31)] ++ ws_26) := hD
        obtain ⟨hb_33, hb_35⟩ := hp_32
        rcases hb_35 with rfl | ⟨rfl, hz_36⟩
        · refine lv_if_ne (tgt := 88) hx hb dX11_readProgram_83 (by decide) (fun hc => absurd (by decide) hc) (fun _ => ?_)
          refine lv_iconst (v := 0) hx hb dX11_readProgram_86 (by decide) ?_
          exact W.zret (v := 0) hx hb hr (by decide) (fun t ht hW => ⟨⟨0, (ws_26, mpt1_27, mbg1_28, mwr1_29, mwk1_30, g1_31), rfl, ⟨hT, ⟨by omega, Or.inl rfl⟩⟩, by rw [ht]; exact hP, by rw [hAe]; exact hD⟩, hS.F ht⟩) hS.2.2 dX11_readProgram_87
        · refine lv_if_ne (tgt := 88) hx hb dX11_readProgram_83 (by decide) (fun _ => ?_) (fun hc => absurd hc (by decide))
          refine lv_iinc (v := 1) (lv' := [(2, .int 1), (1, .int (96 + (37 * (g 10)))), (0, .ref mo)]) hx hb dX11_readProgram_88 hl (k := 0) rfl (by decide) (by decide) rfl (fun ls hl => ?_)
          refine lv_aload_n hx hb dX11_readProgram_91 rfl (lv_at hl 2 rfl) ?_
          have hP : va_P D vwCl ([(rf_RW ct 0 mf 958 g1_31), (rf_MO mo mw ma mf m0 m1 mu mv u0 u1 iz th mb mn mpt1_27 mbg1_28 mwr1_29 mwk1_30 mlf men), (rf_RW ct 0 mb 800 b)] ++ ws_26) H := ty_permP hP (ty_ordp (E := [(rf_MO mo mw ma mf m0 m1 mu mv u0 u1 iz th mb mn mpt1_27 mbg1_28 mwr1_29 mwk1_30 mlf men), (rf_RW ct 0 mb 800 b), (rf_RW ct 0 mf 958 g1_31)]) (E2 := [(rf_RW ct 0 mf 958 g1_31), (rf_MO mo mw ma mf m0 m1 mu mv u0 u1 iz th mb mn mpt1_27 mbg1_28 mwr1_29 mwk1_30 mlf men), (rf_RW ct 0 mb 800 b)]) (n := 3) [2, 0, 1] rfl rfl (by decide))
          have hD : va_D A ([(rf_RW ct 0 mf 958 g1_31), (rf_MO mo mw ma mf m0 m1 mu mv u0 u1 iz th mb mn mpt1_27 mbg1_28 mwr1_29 mwk1_30 mlf men), (rf_RW ct 0 mb 800 b)] ++ ws_26) := ty_permD hD (ty_ordp (E := [(rf_MO mo mw ma mf m0 m1 mu mv u0 u1 iz th mb mn mpt1_27 mbg1_28 mwr1_29 mwk1_30 mlf men), (rf_RW ct 0 mb 800 b), (rf_RW ct 0 mf 958 g1_31)]) (E2 := [(rf_RW ct 0 mf 958 g1_31), (rf_MO mo mw ma mf m0 m1 mu mv u0 u1 iz th mb mn mpt1_27 mbg1_28 mwr1_29 mwk1_30 mlf men), (rf_RW ct 0 mb 800 b)]) (n := 3) [2, 0, 1] rfl rfl (by decide))
          refine ty_ki (wr := [(rf_RW ct 0 mf 958 g1_31)]) (wc := ([(rf_MO mo mw ma mf m0 m1 mu mv u0 u1 iz th mb mn mpt1_27 mbg1_28 mwr1_29 mwk1_30 mlf men), (rf_RW ct 0 mb 800 b)] ++ ws_26)) (va_runV (As := []) (rest := []) ⟨hx, hb, hml, hown, hts⟩ (m_X11_see l D ct S ws_26 mo mw ma mf m0 m1 mu mv u0 u1 iz mb th mn mpt1_27 mbg1_28 mwr1_29 mwk1_30 mlf men b _ hT hmn (by omega)) (cm_V 0 hts kc_X11_see ki_RX11 kl_RX11_106 kv_X11_see kx_X11_see kd_X11_see ⟨Nat.le_of_ble_eq_true rfl, Nat.le_of_ble_eq_true rfl⟩) (ty_preE (wr := [(rf_RW ct 0 mf 958 g1_31)]) (wc := ([(rf_MO mo mw ma mf m0 m1 mu mv u0 u1 iz th mb mn mpt1_27 mbg1_28 mwr1_29 mwk1_30 mlf men), (rf_RW ct 0 mb 800 b)] ++ ws_26)) (ci := 11) (q0 := 1) hP hK hD hS hA hX rfl rfl) rfl rfl hl.1 rfl (lv_room (Nat.le_of_ble_eq_true rfl)) dX11_readProgram_92 ⟨Nat.le_of_ble_eq_true rfl, Nat.le_of_ble_eq_true rfl⟩) hP hD hS hA (fun r_37 u H locs hw_38 hP hD hS => ?_)
          obtain ⟨ws_39, mbg1_40, mpt1_41⟩ := u
          obtain ⟨hT, rfl, hp_42⟩ := hw_38
          have hP : va_P D vwCl ([(rf_RW ct 0 mf 958 g1_31), (rf_MO mo mw ma mf m0 m1 mu mv u0 u1 iz th mb mn mpt1_41 mbg1_40 mwr1_29 mwk1_30 mlf men), (rf_RW ct 0 mb 800 b)] ++ ws_39) H := hP
          have hD : va_D A ([(rf_RW ct 0 mf 958 g1_31), (rf_MO mo mw ma mf m0 m1 mu mv u0 u1 iz th mb mn mpt1_41 mbg1_40 mwr1_29 mwk1_30 mlf men), (rf_RW ct 0 mb 800 b)] ++ ws_39) := hD
          have hs_43 : mpt1_27.toInt ≤ mpt1_41.toInt ∧ mpt1_41.toInt ≤ 800 := hp_42.1
          have hs_44 : mbg1_40.toInt = mpt1_41.toInt := congrArg Int32.toInt hp_42.2
          refine lv_pop hx hb dX11_readProgram_95 rfl ?_
          refine lv_goto (tgt := 60) hx hb dX11_readProgram_96 (by decide) ?_
          refine ty_loop (I := fun μ H locs ls => ∃ (ws : va_W) (y_45 : Int32) (y_46 : Int32) (y_47 : Int32) (y_48 : Int32) (y_49 : Int32) (g_50 : Nat → Int32), μ = (13 - y_45.toInt).toNat ∧ ty_W ct S ws ∧ va_P D vwCl ([(rf_RW ct 0 mf 958 g_50), (rf_MO mo mw ma mf m0 m1 mu mv u0 u1 iz th mb mn y_46 y_47 y_48 y_49 mlf men), (rf_RW ct 0 mb 800 b)] ++ ws) H ∧ va_D A ([(rf_RW ct 0 mf 958 g_50), (rf_MO mo mw ma mf m0 m1 mu mv u0 u1 iz th mb mn y_46 y_47 y_48 y_49 mlf men), (rf_RW ct 0 mb 800 b)] ++ ws) ∧ va_S A s.heap H locs ∧ lv_has ls 3 [(0, .ref mo), (1, .int (96 + (37 * (g 10)))), (2, .int y_45)] ∧ (1 ≤ y_45.toInt ∧ y_45.toInt ≤ 12) ∧ ((mpt.toInt ≤ y_46.toInt ∧ y_46.toInt ≤ 800) ∧ y_46.toInt ≤ y_47.toInt ∧ y_47.toInt ≤ 800) ∧ rf_pq g g_50 y_45) ⟨_, ws_39, (1 : Int32), mpt1_41, mbg1_40, mwr1_29, mwk1_30, g1_31, rfl, hT, hP, hD, hS, (lv_sub hl [2, 1, 0] rfl), ⟨by have := hz_36.1; have z0 : (0 : Int32).toInt = 0 := (by decide); have z1 : (1 : Int32).toInt = 1 := (by decide); omega, by omega, (rf_pqn (x := (((96 + (37 * (g 10))) + 1) + 0)) (rf_pq0 hL) (by decide) ⟨(rf_Ls hL).2.1.1, rf_n4b (rf_Ls hL).2.1 hc_1⟩ (by have := (rf_Ls hL).2.1; have := rf_n4b (rf_Ls hL).2.1 hc_1; have e40 := rf_mk9 (a := 96) (b := 37) (k := (g 10)) (A := 96) (B := 37) (by decide) (by decide) (by omega) (by omega) (by omega); have e41 := rf_pk (x := (96 + (37 * (g 10)))) (k := 1) (K := 1) (by decide) (by omega) (by omega); have z0 : (0 : Int32).toInt = 0 := (by decide); have e42 := rf_pk (x := ((96 + (37 * (g 10))) + 1)) (k := 0) (K := 0) (by decide) (by omega) (by omega); omega) hz_36.2)⟩⟩ (fun μ H locs ls hI ih_60 => ?_)
          obtain ⟨ws, y_45, y_46, y_47, y_48, y_49, g_50, rfl, hT, hP, hD, hS, hl, hex_60⟩ := hI
          refine lv_aload_n hx hb dX11_readProgram_60 rfl (lv_at hl 0 rfl) ?_
          refine lv_aload_n hx hb dX11_readProgram_61 rfl (lv_at hl 0 rfl) ?_
          refine va_get (v := .int y_47) (D := D) (ci := 11) (C := RX11) (T := TX11) (N := 19) hx hb hts in_X11 hown hK hP 1 rfl rfl 14 (by decide) (hts _ kl_RX11_81) (fun _ h9 => h9) rfl dX11_readProgram_62 ?_
          refine ty_ki (wr := [(rf_RW ct 0 mf 958 g_50)]) (wc := ([(rf_MO mo mw ma mf m0 m1 mu mv u0 u1 iz th mb mn y_46 y_47 y_48 y_49 mlf men), (rf_RW ct 0 mb 800 b)] ++ ws)) (va_runV (As := [.int y_47]) (rest := []) ⟨hx, hb, hml, hown, hts⟩ (m_X11_isLetter l D ct S ws mo mw ma mf m0 m1 mu mv u0 u1 iz mb th mn y_46 y_47 y_48 y_49 mlf men b y_47 _ hT hmn (by omega)) (cm_V 1 hts kc_X11_isLetter ki_RX11 kl_RX11_90 kv_X11_isLetter kx_X11_isLetter kd_X11_isLetter ⟨Nat.le_of_ble_eq_true rfl, Nat.le_of_ble_eq_true rfl⟩) (ty_preE (wr := [(rf_RW ct 0 mf 958 g_50)]) (wc := ([(rf_MO mo mw ma mf m0 m1 mu mv u0 u1 iz th mb mn y_46 y_47 y_48 y_49 mlf men), (rf_RW ct 0 mb 800 b)] ++ ws)) (ci := 11) (q0 := 1) hP hK hD hS hA hX rfl rfl) rfl rfl hl.1 rfl (lv_room (Nat.le_of_ble_eq_true rfl)) dX11_readProgram_65 ⟨Nat.le_of_ble_eq_true rfl, Nat.le_of_ble_eq_true rfl⟩) hP hD hS hA (fun r_51 u H locs hw_52 hP hD hS => ?_)
          obtain ⟨ws_53, rfl⟩ : ∃ z, z = u := ⟨_, rfl⟩
          obtain ⟨hT, rfl⟩ := hw_52
          have hP : va_P D vwCl ([(rf_RW ct 0 mf 958 g_50), (rf_MO mo mw ma mf m0 m1 mu mv u0 u1 iz th mb mn y_46 y_47 y_48 y_49 mlf men), (rf_RW ct 0 mb 800 b)] ++ ws_53) H := hP
          have hD : va_D A ([(rf_RW ct 0 mf 958 g_50), (rf_MO mo mw ma mf m0 m1 mu mv u0 u1 iz th mb mn y_46 y_47 y_48 y_49 mlf men), (rf_RW ct 0 mb 800 b)] ++ ws_53) := hD
          refine lv_if_eq (tgt := 99) hx hb dX11_readProgram_68 (by decide) (fun hc_54 => ?_) (fun hc_54 => ?_)
          · refine lv_aload_n hx hb dX11_readProgram_99 rfl (lv_at hl 0 rfl) ?_
            refine va_get (v := .ref mf) (D := D) (ci := 11) (C := RX11) (T := TX11) (N := 19) hx hb hts in_X11 hown hK hP 1 rfl rfl 2 (by decide) (hts _ kl_RX11_16) (fun _ h9 => h9) rfl dX11_readProgram_100 ?_
            refine lv_iload_n hx hb dX11_readProgram_103 rfl (lv_at hl 1 rfl) ?_
            refine lv_iload_n hx hb dX11_readProgram_104 rfl (lv_at hl 2 rfl) ?_
            refine va_iast hx hb hK hP hD hS 0 0 rfl rfl (rf_vin (by have := (rf_Ls hL).2.1; have := rf_n4b (rf_Ls hL).2.1 hc_1; have e40 := rf_mk9 (a := 96) (b := 37) (k := (g 10)) (A := 96) (B := 37) (by decide) (by decide) (by omega) (by omega) (by omega); omega)) dX11_readProgram_105 (fun H locs hP hD hS => ?_)
            have hP : va_P D vwCl ([(rf_RW ct 0 mf 958 (upd g_50 (96 + (37 * (g 10))).toNatClampNeg y_45)), (rf_MO mo mw ma mf m0 m1 mu mv u0 u1 iz th mb mn y_46 y_47 y_48 y_49 mlf men), (rf_RW ct 0 mb 800 b)] ++ ws_53) H := hP
            have hD : va_D A ([(rf_RW ct 0 mf 958 (upd g_50 (96 + (37 * (g 10))).toNatClampNeg y_45)), (rf_MO mo mw ma mf m0 m1 mu mv u0 u1 iz th mb mn y_46 y_47 y_48 y_49 mlf men), (rf_RW ct 0 mb 800 b)] ++ ws_53) := hD
            refine lv_aload_n hx hb dX11_readProgram_106 rfl (lv_at hl 0 rfl) ?_
            refine va_get (v := .ref mf) (D := D) (ci := 11) (C := RX11) (T := TX11) (N := 19) hx hb hts in_X11 hown hK hP 1 rfl rfl 2 (by decide) (hts _ kl_RX11_16) (fun _ h9 => h9) rfl dX11_readProgram_107 ?_
            refine lv_bipush (v := 10) hx hb dX11_readProgram_110 (by decide) ?_
            refine lv_dup2_11 hx hb dX11_readProgram_112 rfl rfl ?_
            refine va_iald hx hb hK hP 0 0 rfl rfl (cm_vin (by decide)) dX11_readProgram_113 ?_
            refine cm_cst (y := ((upd g_50 (96 + (37 * (g 10))).toNatClampNeg y_45) 10)) (by first | rfl | decide +kernel) ?_
            refine lv_iconst (v := 1) hx hb dX11_readProgram_114 (by decide) ?_
            refine lv_iadd hx hb dX11_readProgram_115 ?_
            refine va_iast hx hb hK hP hD hS 0 0 rfl rfl (cm_vin (by decide)) dX11_readProgram_116 (fun H locs hP hD hS => ?_)
            have hP : va_P D vwCl ([(rf_RW ct 0 mf 958 (upd (upd g_50 (96 + (37 * (g 10))).toNatClampNeg y_45) (10 : Int32).toNatClampNeg (((upd g_50 (96 + (37 * (g 10))).toNatClampNeg y_45) 10) + 1))), (rf_MO mo mw ma mf m0 m1 mu mv u0 u1 iz th mb mn y_46 y_47 y_48 y_49 mlf men), (rf_RW ct 0 mb 800 b)] ++ ws_53) H := hP
            have hD : va_D A ([(rf_RW ct 0 mf 958 (upd (upd g_50 (96 + (37 * (g 10))).toNatClampNeg y_45) (10 : Int32).toNatClampNeg (((upd g_50 (96 + (37 * (g 10))).toNatClampNeg y_45) 10) + 1))), (rf_MO mo mw ma mf m0 m1 mu mv u0 u1 iz th mb mn y_46 y_47 y_48 y_49 mlf men), (rf_RW ct 0 mb 800 b)] ++ ws_53) := hD
            refine lv_iconst (v := 1) hx hb dX11_readProgram_117 (by decide) ?_
            have hP : va_P D vwCl ([(rf_MO mo mw ma mf m0 m1 mu mv u0 u1 iz th mb mn y_46 y_47 y_48 y_49 mlf men), (rf_RW ct 0 mb 800 b), (rf_RW ct 0 mf 958 (upd (upd g_50 (96 + (37 * (g 10))).toNatClampNeg y_45) (10 : Int32).toNatClampNeg (((upd g_50 (96 + (37 * (g 10))).toNatClampNeg y_45) 10) + 1)))] ++ ws_53) H := ty_permP hP (ty_ordp (E := [(rf_RW ct 0 mf 958 (upd (upd g_50 (96 + (37 * (g 10))).toNatClampNeg y_45) (10 : Int32).toNatClampNeg (((upd g_50 (96 + (37 * (g 10))).toNatClampNeg y_45) 10) + 1))), (rf_MO mo mw ma mf m0 m1 mu mv u0 u1 iz th mb mn y_46 y_47 y_48 y_49 mlf men), (rf_RW ct 0 mb 800 b)]) (E2 := [(rf_MO mo mw ma mf m0 m1 mu mv u0 u1 iz th mb mn y_46 y_47 y_48 y_49 mlf men), (rf_RW ct 0 mb 800 b), (rf_RW ct 0 mf 958 (upd (upd g_50 (96 + (37 * (g 10))).toNatClampNeg y_45) (10 : Int32).toNatClampNeg (((upd g_50 (96 + (37 * (g 10))).toNatClampNeg y_45) 10) + 1)))]) (n := 3) [1, 2, 0] rfl rfl (by decide))
            have hD : va_D A ([(rf_MO mo mw ma mf m0 m1 mu mv u0 u1 iz th mb mn y_46 y_47 y_48 y_49 mlf men), (rf_RW ct 0 mb 800 b), (rf_RW ct 0 mf 958 (upd (upd g_50 (96 + (37 * (g 10))).toNatClampNeg y_45) (10 : Int32).toNatClampNeg (((upd g_50 (96 + (37 * (g 10))).toNatClampNeg y_45) 10) + 1)))] ++ ws_53) := ty_permD hD (ty_ordp (E := [(rf_RW ct 0 mf 958 (upd (upd g_50 (96 + (37 * (g 10))).toNatClampNeg y_45) (10 : Int32).toNatClampNeg (((upd g_50 (96 + (37 * (g 10))).toNatClampNeg y_45) 10) + 1))), (rf_MO mo mw ma mf m0 m1 mu mv u0 u1 iz th mb mn y_46 y_47 y_48 y_49 mlf men), (rf_RW ct 0 mb 800 b)]) (E2 := [(rf_MO mo mw ma mf m0 m1 mu mv u0 u1 iz th mb mn y_46 y_47 y_48 y_49 mlf men), (rf_RW ct 0 mb 800 b), (rf_RW ct 0 mf 958 (upd (upd g_50 (96 + (37 * (g 10))).toNatClampNeg y_45) (10 : Int32).toNatClampNeg (((upd g_50 (96 + (37 * (g 10))).toNatClampNeg y_45) 10) + 1)))]) (n := 3) [1, 2, 0] rfl rfl (by decide))
            exact W.zret (v := 1) hx hb hr (by decide) (fun t ht hW => ⟨⟨1, (ws_53, y_46, y_47, y_48, y_49, (upd (upd g_50 (96 + (37 * (g 10))).toNatClampNeg y_45) (10 : Int32).toNatClampNeg (((upd g_50 (96 + (37 * (g 10))).toNatClampNeg y_45) 10) + 1))), rfl, ⟨hT, ⟨by omega, Or.inr ⟨rfl, (rf_Lpg hex_60.2.2 hex_60.1 ⟨(rf_Ls hL).2.1.1, rf_n4b (rf_Ls hL).2.1 hc_1⟩ (by have := (rf_Ls hL).2.1; have := rf_n4b (rf_Ls hL).2.1 hc_1; have e40 := rf_mk9 (a := 96) (b := 37) (k := (g 10)) (A := 96) (B := 37) (by decide) (by decide) (by omega) (by omega) (by omega); omega))⟩⟩⟩, by rw [ht]; exact hP, by rw [hAe]; exact hD⟩, hS.F ht⟩) hS.2.2 dX11_readProgram_118
          · refine lv_aload_n hx hb dX11_readProgram_71 rfl (lv_at hl 0 rfl) ?_
            refine lv_iload_n hx hb dX11_readProgram_72 rfl (lv_at hl 1 rfl) ?_
            refine lv_iconst (v := 1) hx hb dX11_readProgram_73 (by decide) ?_
            refine lv_iadd hx hb dX11_readProgram_74 ?_
            refine lv_iconst (v := 3) hx hb dX11_readProgram_75 (by decide) ?_
            refine lv_iload_n hx hb dX11_readProgram_76 rfl (lv_at hl 2 rfl) ?_
            refine lv_imul hx hb dX11_readProgram_77 ?_
            refine lv_iadd hx hb dX11_readProgram_78 ?_
            refine lv_iload_n hx hb dX11_readProgram_79 rfl (lv_at hl 2 rfl) ?_
            have hP : va_P D vwCl ([(rf_MO mo mw ma mf m0 m1 mu mv u0 u1 iz th mb mn y_46 y_47 y_48 y_49 mlf men), (rf_RW ct 0 mb 800 b), (rf_RW ct 0 mf 958 g_50)] ++ ws_53) H := ty_permP hP (ty_ordp (E := [(rf_RW ct 0 mf 958 g_50), (rf_MO mo mw ma mf m0 m1 mu mv u0 u1 iz th mb mn y_46 y_47 y_48 y_49 mlf men), (rf_RW ct 0 mb 800 b)]) (E2 := [(rf_MO mo mw ma mf m0 m1 mu mv u0 u1 iz th mb mn y_46 y_47 y_48 y_49 mlf men), (rf_RW ct 0 mb 800 b), (rf_RW ct 0 mf 958 g_50)]) (n := 3) [1, 2, 0] rfl rfl (by decide))
            have hD : va_D A ([(rf_MO mo mw ma mf m0 m1 mu mv u0 u1 iz th mb mn y_46 y_47 y_48 y_49 mlf men), (rf_RW ct 0 mb 800 b), (rf_RW ct 0 mf 958 g_50)] ++ ws_53) := ty_permD hD (ty_ordp (E := [(rf_RW ct 0 mf 958 g_50), (rf_MO mo mw ma mf m0 m1 mu mv u0 u1 iz th mb mn y_46 y_47 y_48 y_49 mlf men), (rf_RW ct 0 mb 800 b)]) (E2 := [(rf_MO mo mw ma mf m0 m1 mu mv u0 u1 iz th mb mn y_46 y_47 y_48 y_49 mlf men), (rf_RW ct 0 mb 800 b), (rf_RW ct 0 mf 958 g_50)]) (n := 3) [1, 2, 0] rfl rfl (by decide))
            refine ty_ki (wr := []) (wc := ([(rf_MO mo mw ma mf m0 m1 mu mv u0 u1 iz th mb mn y_46 y_47 y_48 y_49 mlf men), (rf_RW ct 0 mb 800 b), (rf_RW ct 0 mf 958 g_50)] ++ ws_53)) (va_runV (As := [.int (((96 + (37 * (g 10))) + 1) + (3 * y_45)), .int y_45]) (rest := []) ⟨hx, hb, hml, hown, hts⟩ (m_X11_readStep l D ct S ws_53 mo mw ma mf m0 m1 mu mv u0 u1 iz mb th mn y_46 y_47 y_48 y_49 mlf men b (((96 + (37 * (g 10))) + 1) + (3 * y_45)) y_45 g_50 _ hT hmn (by omega) (by omega) hex_60.2.2.1 (by have e10 := congrArg Int32.toInt hex_60.2.2.2.1; have := rf_n4b (rf_Ls hL).2.1 hc_1; omega) (by have e10 := congrArg Int32.toInt hex_60.2.2.2.1; have := (rf_Ls hL).2.1; have := rf_n4b (rf_Ls hL).2.1 hc_1; have e40 := rf_mk9 (a := 96) (b := 37) (k := (g 10)) (A := 96) (B := 37) (by decide) (by decide) (by omega) (by omega) (by omega); have e41 := rf_pk (x := (96 + (37 * (g 10)))) (k := 1) (K := 1) (by decide) (by omega) (by omega); have := hex_60.1; have e43 := rf_m3 (n := y_45) (by omega); have e42 := rf_pk (x := ((96 + (37 * (g 10))) + 1)) (k := (3 * y_45)) (K := 3 * y_45.toInt) e43 (by omega) (by omega); omega) (by have := hex_60.1; omega)) (cm_V 2 hts kc_X11_readStep ki_RX11 kl_RX11_158 kv_X11_readStep kx_X11_readStep kd_X11_readStep ⟨Nat.le_of_ble_eq_true rfl, Nat.le_of_ble_eq_true rfl⟩) (ty_preE (wr := []) (wc := ([(rf_MO mo mw ma mf m0 m1 mu mv u0 u1 iz th mb mn y_46 y_47 y_48 y_49 mlf men), (rf_RW ct 0 mb 800 b), (rf_RW ct 0 mf 958 g_50)] ++ ws_53)) (ci := 11) (q0 := 0) hP hK hD hS hA hX rfl rfl) rfl rfl hl.1 rfl (lv_room (Nat.le_of_ble_eq_true rfl)) dX11_readProgram_80 ⟨Nat.le_of_ble_eq_true rfl, Nat.le_of_ble_eq_true rfl⟩) hP hD hS hA (fun r_55 u H locs hw_56 hP hD hS => ?_)
            obtain ⟨ws_57, mpt1_58, mbg1_59, mwr1_60, mwk1_61, g1_62⟩ := u
            obtain ⟨hT, hp_63⟩ := hw_56
            have hp_63 : ((y_46.toInt ≤ mpt1_58.toInt ∧ mpt1_58.toInt ≤ 800) ∧ 0 ≤ mbg1_59.toInt ∧ mbg1_59.toInt ≤ 800) ∧ (r_55 = 0 ∨ (r_55 = 1 ∧ y_45.toInt ≤ 11 ∧ rf_sp g_50 g1_62 (((96 + (37 * (g 10))) + 1) + (3 * y_45)).toInt.toNat y_45)) := hp_63
            have hP : va_P D vwCl ([(rf_MO mo mw ma mf m0 m1 mu mv u0 u1 iz th mb mn mpt1_58 mbg1_59 mwr1_60 mwk1_61 mlf men), (rf_RW ct 0 mb 800 b), (rf_RW ct 0 mf 958 g1_62)] ++ ws_57) H := hP
            have hD : va_D A ([(rf_MO mo mw ma mf m0 m1 mu mv u0 u1 iz th mb mn mpt1_58 mbg1_59 mwr1_60 mwk1_61 mlf men), (rf_RW ct 0 mb 800 b), (rf_RW ct 0 mf 958 g1_62)] ++ ws_57) := hD
            obtain ⟨hb_64, hb_66⟩ := hp_63
            rcases hb_66 with rfl | ⟨rfl, hz_67⟩
            · refine lv_if_ne (tgt := 88) hx hb dX11_readProgram_83 (by decide) (fun hc => absurd (by decide) hc) (fun _ => ?_)
              refine lv_iconst (v := 0) hx hb dX11_readProgram_86 (by decide) ?_
              exact W.zret (v := 0) hx hb hr (by decide) (fun t ht hW => ⟨⟨0, (ws_57, mpt1_58, mbg1_59, mwr1_60, mwk1_61, g1_62), rfl, ⟨hT, ⟨by omega, Or.inl rfl⟩⟩, by rw [ht]; exact hP, by rw [hAe]; exact hD⟩, hS.F ht⟩) hS.2.2 dX11_readProgram_87
            · refine lv_if_ne (tgt := 88) hx hb dX11_readProgram_83 (by decide) (fun _ => ?_) (fun hc => absurd hc (by decide))
              refine lv_iinc (v := (y_45 + Int32.ofInt 1)) (lv' := [(2, .int (y_45 + Int32.ofInt 1)), (0, .ref mo), (1, .int (96 + (37 * (g 10))))]) hx hb dX11_readProgram_88 hl (k := 2) rfl rfl (by decide) rfl (fun ls hl => ?_)
              refine lv_aload_n hx hb dX11_readProgram_91 rfl (lv_at hl 1 rfl) ?_
              have hP : va_P D vwCl ([(rf_RW ct 0 mf 958 g1_62), (rf_MO mo mw ma mf m0 m1 mu mv u0 u1 iz th mb mn mpt1_58 mbg1_59 mwr1_60 mwk1_61 mlf men), (rf_RW ct 0 mb 800 b)] ++ ws_57) H := ty_permP hP (ty_ordp (E := [(rf_MO mo mw ma mf m0 m1 mu mv u0 u1 iz th mb mn mpt1_58 mbg1_59 mwr1_60 mwk1_61 mlf men), (rf_RW ct 0 mb 800 b), (rf_RW ct 0 mf 958 g1_62)]) (E2 := [(rf_RW ct 0 mf 958 g1_62), (rf_MO mo mw ma mf m0 m1 mu mv u0 u1 iz th mb mn mpt1_58 mbg1_59 mwr1_60 mwk1_61 mlf men), (rf_RW ct 0 mb 800 b)]) (n := 3) [2, 0, 1] rfl rfl (by decide))
              have hD : va_D A ([(rf_RW ct 0 mf 958 g1_62), (rf_MO mo mw ma mf m0 m1 mu mv u0 u1 iz th mb mn mpt1_58 mbg1_59 mwr1_60 mwk1_61 mlf men), (rf_RW ct 0 mb 800 b)] ++ ws_57) := ty_permD hD (ty_ordp (E := [(rf_MO mo mw ma mf m0 m1 mu mv u0 u1 iz th mb mn mpt1_58 mbg1_59 mwr1_60 mwk1_61 mlf men), (rf_RW ct 0 mb 800 b), (rf_RW ct 0 mf 958 g1_62)]) (E2 := [(rf_RW ct 0 mf 958 g1_62), (rf_MO mo mw ma mf m0 m1 mu mv u0 u1 iz th mb mn mpt1_58 mbg1_59 mwr1_60 mwk1_61 mlf men), (rf_RW ct 0 mb 800 b)]) (n := 3) [2, 0, 1] rfl rfl (by decide))
              refine ty_ki (wr := [(rf_RW ct 0 mf 958 g1_62)]) (wc := ([(rf_MO mo mw ma mf m0 m1 mu mv u0 u1 iz th mb mn mpt1_58 mbg1_59 mwr1_60 mwk1_61 mlf men), (rf_RW ct 0 mb 800 b)] ++ ws_57)) (va_runV (As := []) (rest := []) ⟨hx, hb, hml, hown, hts⟩ (m_X11_see l D ct S ws_57 mo mw ma mf m0 m1 mu mv u0 u1 iz mb th mn mpt1_58 mbg1_59 mwr1_60 mwk1_61 mlf men b _ hT hmn (by omega)) (cm_V 0 hts kc_X11_see ki_RX11 kl_RX11_106 kv_X11_see kx_X11_see kd_X11_see ⟨Nat.le_of_ble_eq_true rfl, Nat.le_of_ble_eq_true rfl⟩) (ty_preE (wr := [(rf_RW ct 0 mf 958 g1_62)]) (wc := ([(rf_MO mo mw ma mf m0 m1 mu mv u0 u1 iz th mb mn mpt1_58 mbg1_59 mwr1_60 mwk1_61 mlf men), (rf_RW ct 0 mb 800 b)] ++ ws_57)) (ci := 11) (q0 := 1) hP hK hD hS hA hX rfl rfl) rfl rfl hl.1 rfl (lv_room (Nat.le_of_ble_eq_true rfl)) dX11_readProgram_92 ⟨Nat.le_of_ble_eq_true rfl, Nat.le_of_ble_eq_true rfl⟩) hP hD hS hA (fun r_68 u H locs hw_69 hP hD hS => ?_)
              obtain ⟨ws_70, mbg1_71, mpt1_72⟩ := u
              obtain ⟨hT, rfl, hp_73⟩ := hw_69
              have hP : va_P D vwCl ([(rf_RW ct 0 mf 958 g1_62), (rf_MO mo mw ma mf m0 m1 mu mv u0 u1 iz th mb mn mpt1_72 mbg1_71 mwr1_60 mwk1_61 mlf men), (rf_RW ct 0 mb 800 b)] ++ ws_70) H := hP
              have hD : va_D A ([(rf_RW ct 0 mf 958 g1_62), (rf_MO mo mw ma mf m0 m1 mu mv u0 u1 iz th mb mn mpt1_72 mbg1_71 mwr1_60 mwk1_61 mlf men), (rf_RW ct 0 mb 800 b)] ++ ws_70) := hD
              have hs_74 : mpt1_58.toInt ≤ mpt1_72.toInt ∧ mpt1_72.toInt ≤ 800 := hp_73.1
              have hs_75 : mbg1_71.toInt = mpt1_72.toInt := congrArg Int32.toInt hp_73.2
              refine lv_pop hx hb dX11_readProgram_95 rfl ?_
              refine lv_goto (tgt := 60) hx hb dX11_readProgram_96 (by decide) ?_
              exact ih_60 _ _ _ _ (by have := hex_60.1; have := hz_67.1; have := rf_oi (n := y_45) (by omega); omega) ⟨ws_70, (y_45 + Int32.ofInt 1), mpt1_72, mbg1_71, mwr1_60, mwk1_61, g1_62, rfl, hT, hP, hD, hS, (lv_sub hl [1, 2, 0] rfl), ⟨by have := hex_60.1; have := hz_67.1; have := rf_oi (n := y_45) (by omega); omega, by omega, (rf_pqn (x := (((96 + (37 * (g 10))) + 1) + (3 * y_45))) hex_60.2.2 (by have := hex_60.1; have := hz_67.1; omega) ⟨(rf_Ls hL).2.1.1, rf_n4b (rf_Ls hL).2.1 hc_1⟩ (by have := (rf_Ls hL).2.1; have := rf_n4b (rf_Ls hL).2.1 hc_1; have e40 := rf_mk9 (a := 96) (b := 37) (k := (g 10)) (A := 96) (B := 37) (by decide) (by decide) (by omega) (by omega) (by omega); have e41 := rf_pk (x := (96 + (37 * (g 10)))) (k := 1) (K := 1) (by decide) (by omega) (by omega); have := hex_60.1; have e43 := rf_m3 (n := y_45) (by omega); have e42 := rf_pk (x := ((96 + (37 * (g 10))) + 1)) (k := (3 * y_45)) (K := 3 * y_45.toInt) e43 (by omega) (by omega); omega) hz_67.2)⟩⟩
    · refine lv_aload_n hx hb dX11_readProgram_52 rfl (lv_at hl 1 rfl) ?_
      refine lv_iconst (v := 1) hx hb dX11_readProgram_53 (by decide) ?_
      have hP : va_P D vwCl ([(rf_RW ct 0 mf 958 g), (rf_RW ct 0 mb 800 b), (rf_MO mo mw ma mf m0 m1 mu mv u0 u1 iz th mb mn mpt1_12 mbg1_11 mwr mwk mlf men)] ++ ws_18) H := ty_permP hP (ty_ordp (E := [(rf_RW ct 0 mf 958 g), (rf_MO mo mw ma mf m0 m1 mu mv u0 u1 iz th mb mn mpt1_12 mbg1_11 mwr mwk mlf men), (rf_RW ct 0 mb 800 b)]) (E2 := [(rf_RW ct 0 mf 958 g), (rf_RW ct 0 mb 800 b), (rf_MO mo mw ma mf m0 m1 mu mv u0 u1 iz th mb mn mpt1_12 mbg1_11 mwr mwk mlf men)]) (n := 3) [0, 2, 1] rfl rfl (by decide))
      have hD : va_D A ([(rf_RW ct 0 mf 958 g), (rf_RW ct 0 mb 800 b), (rf_MO mo mw ma mf m0 m1 mu mv u0 u1 iz th mb mn mpt1_12 mbg1_11 mwr mwk mlf men)] ++ ws_18) := ty_permD hD (ty_ordp (E := [(rf_RW ct 0 mf 958 g), (rf_MO mo mw ma mf m0 m1 mu mv u0 u1 iz th mb mn mpt1_12 mbg1_11 mwr mwk mlf men), (rf_RW ct 0 mb 800 b)]) (E2 := [(rf_RW ct 0 mf 958 g), (rf_RW ct 0 mb 800 b), (rf_MO mo mw ma mf m0 m1 mu mv u0 u1 iz th mb mn mpt1_12 mbg1_11 mwr mwk mlf men)]) (n := 3) [0, 2, 1] rfl rfl (by decide))
      refine ty_ki (wr := [(rf_RW ct 0 mf 958 g), (rf_RW ct 0 mb 800 b)]) (wc := ([(rf_MO mo mw ma mf m0 m1 mu mv u0 u1 iz th mb mn mpt1_12 mbg1_11 mwr mwk mlf men)] ++ ws_18)) (va_runV (As := [.int 1]) (rest := []) ⟨hx, hb, hml, hown, hts⟩ (m_X11_fails l D ct S ws_18 mo mw ma mf m0 m1 mu mv u0 u1 iz mb th mn mpt1_12 mbg1_11 mwr mwk mlf men (1 : Int32) _ hT) (cm_V 1 hts kc_X11_fails ki_RX11 kl_RX11_112 kv_X11_fails kx_X11_fails kd_X11_fails ⟨Nat.le_of_ble_eq_true rfl, Nat.le_of_ble_eq_true rfl⟩) (ty_preE (wr := [(rf_RW ct 0 mf 958 g), (rf_RW ct 0 mb 800 b)]) (wc := ([(rf_MO mo mw ma mf m0 m1 mu mv u0 u1 iz th mb mn mpt1_12 mbg1_11 mwr mwk mlf men)] ++ ws_18)) (ci := 11) (q0 := 2) hP hK hD hS hA hX rfl rfl) rfl rfl hl.1 rfl (lv_room (Nat.le_of_ble_eq_true rfl)) dX11_readProgram_54 ⟨Nat.le_of_ble_eq_true rfl, Nat.le_of_ble_eq_true rfl⟩) hP hD hS hA (fun r_76 u H locs hw_77 hP hD hS => ?_)
      obtain ⟨ws_78, mwr1_79, mwk1_80⟩ := u
      obtain ⟨hT, rfl⟩ := hw_77
      have hP : va_P D vwCl ([(rf_RW ct 0 mf 958 g), (rf_RW ct 0 mb 800 b), (rf_MO mo mw ma mf m0 m1 mu mv u0 u1 iz th mb mn mpt1_12 mbg1_11 mwr1_79 mwk1_80 mlf men)] ++ ws_78) H := hP
      have hD : va_D A ([(rf_RW ct 0 mf 958 g), (rf_RW ct 0 mb 800 b), (rf_MO mo mw ma mf m0 m1 mu mv u0 u1 iz th mb mn mpt1_12 mbg1_11 mwr1_79 mwk1_80 mlf men)] ++ ws_78) := hD
      have hP : va_P D vwCl ([(rf_MO mo mw ma mf m0 m1 mu mv u0 u1 iz th mb mn mpt1_12 mbg1_11 mwr1_79 mwk1_80 mlf men), (rf_RW ct 0 mb 800 b), (rf_RW ct 0 mf 958 g)] ++ ws_78) H := ty_permP hP (ty_ordp (E := [(rf_RW ct 0 mf 958 g), (rf_RW ct 0 mb 800 b), (rf_MO mo mw ma mf m0 m1 mu mv u0 u1 iz th mb mn mpt1_12 mbg1_11 mwr1_79 mwk1_80 mlf men)]) (E2 := [(rf_MO mo mw ma mf m0 m1 mu mv u0 u1 iz th mb mn mpt1_12 mbg1_11 mwr1_79 mwk1_80 mlf men), (rf_RW ct 0 mb 800 b), (rf_RW ct 0 mf 958 g)]) (n := 3) [2, 1, 0] rfl rfl (by decide))
      have hD : va_D A ([(rf_MO mo mw ma mf m0 m1 mu mv u0 u1 iz th mb mn mpt1_12 mbg1_11 mwr1_79 mwk1_80 mlf men), (rf_RW ct 0 mb 800 b), (rf_RW ct 0 mf 958 g)] ++ ws_78) := ty_permD hD (ty_ordp (E := [(rf_RW ct 0 mf 958 g), (rf_RW ct 0 mb 800 b), (rf_MO mo mw ma mf m0 m1 mu mv u0 u1 iz th mb mn mpt1_12 mbg1_11 mwr1_79 mwk1_80 mlf men)]) (E2 := [(rf_MO mo mw ma mf m0 m1 mu mv u0 u1 iz th mb mn mpt1_12 mbg1_11 mwr1_79 mwk1_80 mlf men), (rf_RW ct 0 mb 800 b), (rf_RW ct 0 mf 958 g)]) (n := 3) [2, 1, 0] rfl rfl (by decide))
      exact W.zret (v := 0) hx hb hr (by decide) (fun t ht hW => ⟨⟨0, (ws_78, mpt1_12, mbg1_11, mwr1_79, mwk1_80, g), rfl, ⟨hT, ⟨by omega, Or.inl rfl⟩⟩, by rw [ht]; exact hP, by rw [hAe]; exact hD⟩, hS.F ht⟩) hS.2.2 dX11_readProgram_57
  · refine lv_aload_n hx hb dX11_readProgram_11 rfl (lv_at hl 0 rfl) ?_
    refine lv_iconst (v := 4) hx hb dX11_readProgram_12 (by decide) ?_
    have hP : va_P D vwCl ([(rf_RW ct 0 mb 800 b), (rf_RW ct 0 mf 958 g), (rf_MO mo mw ma mf m0 m1 mu mv u0 u1 iz th mb mn mpt mbg mwr mwk mlf men)] ++ ws) s.heap := ty_permP hP (ty_ordp (E := [(rf_MO mo mw ma mf m0 m1 mu mv u0 u1 iz th mb mn mpt mbg mwr mwk mlf men), (rf_RW ct 0 mb 800 b), (rf_RW ct 0 mf 958 g)]) (E2 := [(rf_RW ct 0 mb 800 b), (rf_RW ct 0 mf 958 g), (rf_MO mo mw ma mf m0 m1 mu mv u0 u1 iz th mb mn mpt mbg mwr mwk mlf men)]) (n := 3) [1, 2, 0] rfl rfl (by decide))
    have hD : va_D A ([(rf_RW ct 0 mb 800 b), (rf_RW ct 0 mf 958 g), (rf_MO mo mw ma mf m0 m1 mu mv u0 u1 iz th mb mn mpt mbg mwr mwk mlf men)] ++ ws) := ty_permD hD (ty_ordp (E := [(rf_MO mo mw ma mf m0 m1 mu mv u0 u1 iz th mb mn mpt mbg mwr mwk mlf men), (rf_RW ct 0 mb 800 b), (rf_RW ct 0 mf 958 g)]) (E2 := [(rf_RW ct 0 mb 800 b), (rf_RW ct 0 mf 958 g), (rf_MO mo mw ma mf m0 m1 mu mv u0 u1 iz th mb mn mpt mbg mwr mwk mlf men)]) (n := 3) [1, 2, 0] rfl rfl (by decide))
    refine ty_ki (wr := [(rf_RW ct 0 mb 800 b), (rf_RW ct 0 mf 958 g)]) (wc := ([(rf_MO mo mw ma mf m0 m1 mu mv u0 u1 iz th mb mn mpt mbg mwr mwk mlf men)] ++ ws)) (va_runV (As := [.int 4]) (rest := []) ⟨hx, hb, hml, hown, hts⟩ (m_X11_fails l D ct S ws mo mw ma mf m0 m1 mu mv u0 u1 iz mb th mn mpt mbg mwr mwk mlf men (4 : Int32) _ hT) (cm_V 1 hts kc_X11_fails ki_RX11 kl_RX11_112 kv_X11_fails kx_X11_fails kd_X11_fails ⟨Nat.le_of_ble_eq_true rfl, Nat.le_of_ble_eq_true rfl⟩) (ty_preE (wr := [(rf_RW ct 0 mb 800 b), (rf_RW ct 0 mf 958 g)]) (wc := ([(rf_MO mo mw ma mf m0 m1 mu mv u0 u1 iz th mb mn mpt mbg mwr mwk mlf men)] ++ ws)) (ci := 11) (q0 := 2) hP hK hD hS hA hX rfl rfl) rfl rfl hl.1 rfl (lv_room (Nat.le_of_ble_eq_true rfl)) dX11_readProgram_13 ⟨Nat.le_of_ble_eq_true rfl, Nat.le_of_ble_eq_true rfl⟩) hP hD hS hA (fun r_81 u H locs hw_82 hP hD hS => ?_)
    obtain ⟨ws_83, mwr1_84, mwk1_85⟩ := u
    obtain ⟨hT, rfl⟩ := hw_82
    have hP : va_P D vwCl ([(rf_RW ct 0 mb 800 b), (rf_RW ct 0 mf 958 g), (rf_MO mo mw ma mf m0 m1 mu mv u0 u1 iz th mb mn mpt mbg mwr1_84 mwk1_85 mlf men)] ++ ws_83) H := hP
    have hD : va_D A ([(rf_RW ct 0 mb 800 b), (rf_RW ct 0 mf 958 g), (rf_MO mo mw ma mf m0 m1 mu mv u0 u1 iz th mb mn mpt mbg mwr1_84 mwk1_85 mlf men)] ++ ws_83) := hD
    have hP : va_P D vwCl ([(rf_MO mo mw ma mf m0 m1 mu mv u0 u1 iz th mb mn mpt mbg mwr1_84 mwk1_85 mlf men), (rf_RW ct 0 mb 800 b), (rf_RW ct 0 mf 958 g)] ++ ws_83) H := ty_permP hP (ty_ordp (E := [(rf_RW ct 0 mb 800 b), (rf_RW ct 0 mf 958 g), (rf_MO mo mw ma mf m0 m1 mu mv u0 u1 iz th mb mn mpt mbg mwr1_84 mwk1_85 mlf men)]) (E2 := [(rf_MO mo mw ma mf m0 m1 mu mv u0 u1 iz th mb mn mpt mbg mwr1_84 mwk1_85 mlf men), (rf_RW ct 0 mb 800 b), (rf_RW ct 0 mf 958 g)]) (n := 3) [2, 0, 1] rfl rfl (by decide))
    have hD : va_D A ([(rf_MO mo mw ma mf m0 m1 mu mv u0 u1 iz th mb mn mpt mbg mwr1_84 mwk1_85 mlf men), (rf_RW ct 0 mb 800 b), (rf_RW ct 0 mf 958 g)] ++ ws_83) := ty_permD hD (ty_ordp (E := [(rf_RW ct 0 mb 800 b), (rf_RW ct 0 mf 958 g), (rf_MO mo mw ma mf m0 m1 mu mv u0 u1 iz th mb mn mpt mbg mwr1_84 mwk1_85 mlf men)]) (E2 := [(rf_MO mo mw ma mf m0 m1 mu mv u0 u1 iz th mb mn mpt mbg mwr1_84 mwk1_85 mlf men), (rf_RW ct 0 mb 800 b), (rf_RW ct 0 mf 958 g)]) (n := 3) [2, 0, 1] rfl rfl (by decide))
    exact W.zret (v := 0) hx hb hr (by decide) (fun t ht hW => ⟨⟨0, (ws_83, mpt, mbg, mwr1_84, mwk1_85, g), rfl, ⟨hT, ⟨by omega, Or.inl rfl⟩⟩, by rw [ht]; exact hP, by rw [hAe]; exact hD⟩, hS.F ht⟩) hS.2.2 dX11_readProgram_16
