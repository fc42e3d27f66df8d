theorem dX6_readText_4 : decode cX6_readText 4 = .ok (.getfield 15, 3) := by decide +kernel
theorem dX6_readText_7 : decode cX6_readText 7 = .ok (.if_icmp .gt 105, 3) := by decide +kernel
theorem dX6_readText_10 : decode cX6_readText 10 = .ok (.aload_n 0, 1) := by decide +kernel
theorem dX6_readText_11 : decode cX6_readText 11 = .ok (.invokevirtual 23, 3) := by decide +kernel
theorem dX6_readText_14 : decode cX6_readText 14 = .ok (.aload_n 0, 1) := by decide +kernel
theorem dX6_readText_15 : decode cX6_readText 15 = .ok (.ldc 26, 2) := by decide +kernel
theorem dX6_readText_17 : decode cX6_readText 17 = .ok (.invokevirtual 28, 3) := by decide +kernel
theorem dX6_readText_20 : decode cX6_readText 20 = .ok (.ifCond .eq 10, 3) := by decide +kernel
theorem dX6_readText_23 : decode cX6_readText 23 = .ok (.aload_n 0, 1) := by decide +kernel
theorem dX6_readText_24 : decode cX6_readText 24 = .ok (.invokevirtual 32, 3) := by decide +kernel
theorem dX6_readText_27 : decode cX6_readText 27 = .ok (.goto 46, 3) := by decide +kernel
theorem dX6_readText_30 : decode cX6_readText 30 = .ok (.aload_n 0, 1) := by decide +kernel
theorem dX6_readText_31 : decode cX6_readText 31 = .ok (.ldc 35, 2) := by decide +kernel
theorem dX6_readText_33 : decode cX6_readText 33 = .ok (.invokevirtual 28, 3) := by decide +kernel
theorem dX6_readText_36 : decode cX6_readText 36 = .ok (.ifCond .eq 10, 3) := by decide +kernel
theorem dX6_readText_39 : decode cX6_readText 39 = .ok (.aload_n 0, 1) := by decide +kernel
theorem dX6_readText_40 : decode cX6_readText 40 = .ok (.invokevirtual 37, 3) := by decide +kernel
theorem dX6_readText_43 : decode cX6_readText 43 = .ok (.goto 30, 3) := by decide +kernel
theorem dX6_readText_46 : decode cX6_readText 46 = .ok (.aload_n 0, 1) := by decide +kernel
theorem dX6_readText_47 : decode cX6_readText 47 = .ok (.ldc 40, 2) := by decide +kernel
theorem dX6_readText_49 : decode cX6_readText 49 = .ok (.invokevirtual 28, 3) := by decide +kernel
theorem dX6_readText_52 : decode cX6_readText 52 = .ok (.ifCond .eq 10, 3) := by decide +kernel
theorem dX6_readText_55 : decode cX6_readText 55 = .ok (.aload_n 0, 1) := by decide +kernel
theorem dX6_readText_56 : decode cX6_readText 56 = .ok (.invokevirtual 42, 3) := by decide +kernel
theorem dX6_readText_59 : decode cX6_readText 59 = .ok (.goto 14, 3) := by decide +kernel
theorem dX6_readText_62 : decode cX6_readText 62 = .ok (.aload_n 0, 1) := by decide +kernel
theorem dX6_readText_63 : decode cX6_readText 63 = .ok (.aload_n 0, 1) := by decide +kernel
theorem dX6_readText_64 : decode cX6_readText 64 = .ok (.getfield 19, 3) := by decide +kernel
theorem dX6_readText_67 : decode cX6_readText 67 = .ok (.getfield 45, 3) := by decide +kernel
theorem dX6_readText_70 : decode cX6_readText 70 = .ok (.invokevirtual 51, 3) := by decide +kernel
theorem dX6_readText_73 : decode cX6_readText 73 = .ok (.aload_n 0, 1) := by decide +kernel
theorem dX6_readText_74 : decode cX6_readText 74 = .ok (.invokevirtual 55, 3) := by decide +kernel
theorem dX6_readText_77 : decode cX6_readText 77 = .ok (.aload_n 0, 1) := by decide +kernel
theorem dX6_readText_78 : decode cX6_readText 78 = .ok (.getfield 58, 3) := by decide +kernel
theorem dX6_readText_81 : decode cX6_readText 81 = .ok (.ifCond .ne 31, 3) := by decide +kernel
theorem dX6_readText_84 : decode cX6_readText 84 = .ok (.aload_n 0, 1) := by decide +kernel
theorem dX6_readText_85 : decode cX6_readText 85 = .ok (.invokevirtual 61, 3) := by decide +kernel
theorem dX6_readText_88 : decode cX6_readText 88 = .ok (.bipush 59, 2) := by decide +kernel
theorem dX6_readText_90 : decode cX6_readText 90 = .ok (.if_icmp .eq 6, 3) := by decide +kernel
theorem dX6_readText_93 : decode cX6_readText 93 = .ok (.goto 19, 3) := by decide +kernel
theorem dX6_readText_96 : decode cX6_readText 96 = .ok (.aload_n 0, 1) := by decide +kernel
theorem dX6_readText_97 : decode cX6_readText 97 = .ok (.dup, 1) := by decide +kernel
theorem dX6_readText_98 : decode cX6_readText 98 = .ok (.getfield 65, 3) := by decide +kernel
theorem dX6_readText_101 : decode cX6_readText 101 = .ok (.iconst 1, 1) := by decide +kernel
theorem dX6_readText_102 : decode cX6_readText 102 = .ok (.iadd, 1) := by decide +kernel
theorem dX6_readText_103 : decode cX6_readText 103 = .ok (.putfield 65, 3) := by decide +kernel
theorem dX6_readText_106 : decode cX6_readText 106 = .ok (.iinc 1 1, 3) := by decide +kernel
theorem dX6_readText_109 : decode cX6_readText 109 = .ok (.goto (-107), 3) := by decide +kernel
theorem dX6_readText_112 : decode cX6_readText 112 = .ok (.aload_n 0, 1) := by decide +kernel
theorem dX6_readText_113 : decode cX6_readText 113 = .ok (.getfield 65, 3) := by decide +kernel
theorem dX6_readText_116 : decode cX6_readText 116 = .ok (.aload_n 0, 1) := by decide +kernel
theorem dX6_readText_117 : decode cX6_readText 117 = .ok (.getfield 15, 3) := by decide +kernel
theorem dX6_readText_120 : decode cX6_readText 120 = .ok (.if_icmp .ge 12, 3) := by decide +kernel
theorem dX6_readText_123 : decode cX6_readText 123 = .ok (.aload_n 0, 1) := by decide +kernel
theorem dX6_readText_124 : decode cX6_readText 124 = .ok (.iconst 1, 1) := by decide +kernel
theorem dX6_readText_125 : decode cX6_readText 125 = .ok (.aload_n 0, 1) := by decide +kernel
theorem dX6_readText_126 : decode cX6_readText 126 = .ok (.getfield 65, 3) := by decide +kernel
theorem dX6_readText_129 : decode cX6_readText 129 = .ok (.invokevirtual 68, 3) := by decide +kernel
theorem dX6_readText_132 : decode cX6_readText 132 = .ok (.return_, 1) := by decide +kernel
set_option maxRecDepth 100000 in
set_option maxHeartbeats 4000000 in
theorem r_readText (l : Launch) (D : va_G) (ct : Nat → ClassId) (S : ty_S) (ws : va_W) (rd : Nat) (bt : Nat) (tg : Nat) (ln : Int32) (b : Nat → Int32) (ps : rp_PS tg) (cu : Nat) (na : Nat) (pr : Nat) (ch : Nat) (nf : Nat → Int64) (sz : Nat) (hT : ty_V ct S (rp_F ps cu na pr ch (0) (0) (0) nf) ws) (h_tg : S tg = some (.inl 9)) (h_cu : S cu = some (.inl 2)) (h_na : S na = some (.inr (1, 4))) (h_pr : S pr = some (.inl 5)) (h_ch : S ch = some (.inr (3, 6))) (hln : 0 ≤ ln.toInt ∧ ln.toInt ≤ 800) (hby : rp_by b ln) : Met l yX6_readText (ws_ yX6_readText cX6_readText 2 none) ({ frames := 7, cells := 0, slots := 0, locals := 152 } : Room) (va_Pc [.ref rd] (cmP D ct sz ([(ty_RD rd bt ln tg (0) (0) (0) (0)), (rf_RW ct 0 bt 800 b)] ++ ws))) (va_Qv (fun (u : va_W × Int32 × Int32 × Int32 × Int32 × Int32 × Int32 × Int32 × (Nat → Int64)) => match u with | (u9, pl1, ws1, er1, ep1, cnt1, nc1, np1, nf1) => ty_V ct S (rp_F ps cu na pr ch cnt1 nc1 np1 nf1) u9 ∧ rp_T b ln er1 ep1 nc1) (cmB D ([(ty_RD rd bt ln tg (0) (0) (0) (0)), (rf_RW ct 0 bt 800 b)] ++ ws) sz (fun (u : va_W × Int32 × Int32 × Int32 × Int32 × Int32 × Int32 × Int32 × (Nat → Int64)) => match u with | (u9, pl1, ws1, er1, ep1, cnt1, nc1, np1, nf1) => ([(ty_RD rd bt ln tg pl1 ws1 er1 ep1), (rf_RW ct 0 bt 800 b)] ++ u9))) (va_A ([(ty_RD rd bt ln tg (0) (0) (0) (0)), (rf_RW ct 0 bt 800 b)] ++ ws) sz)) 0 0 (va_A ([(ty_RD rd bt ln tg (0) (0) (0) (0)), (rf_RW ct 0 bt 800 b)] ++ ws) sz) := by
  refine Met.ofW (cc := cX6_readText) (maxL := 2) (ret := none) (by decide) rfl ?_
  intro p e s m args below meth c s₁ B hml hv
  obtain ⟨rfl, hsz, hP, hK, hD0, hX⟩ := hv
  have hx := B.exec
  have hb := B.bytes
  have hr := B.returns
  have hts := ws_all (atoms_spec (ws := ws_ yX6_readText cX6_readText 2 none) B.pre)
  have hown : s.vm.findClass RX6 = some m.cls := findClass_of_methodNamed B.named
  have hlocks := B.notSynchronized
  subst hsz
  have hD := hD0.self (sz := s.heap.size)
  generalize hAe : va_A ([(ty_RD rd bt ln tg (0) (0) (0) (0)), (rf_RW ct 0 bt 800 b)] ++ ws) s.heap.size = A at hD hX ⊢
  have hA : ∀ q : Nat, s.heap.size ≤ q → A q := fun q h => by rw [← hAe]; exact Or.inr h
  have hS : va_S A s.heap s.heap [] := va_S.rf
  have hl := lv_entry ([.ref rd]) (n := 2) (Nat.le_of_ble_eq_true rfl)
  rw [lg_entry_eq]
  generalize (lg_sl ([.ref rd]) ++ List.replicate (2 - (lg_sl ([.ref rd])).length) Slot.unset).toArray = ls at hl ⊢
  have hl : lv_has ls 2 [(0, .ref rd)] := hl
  refine lv_iconst (v := 0) hx hb dX6_readText_0 (by decide) ?_
  refine lv_istore_n (lv' := [(1, .int 0), (0, .ref rd)]) hx hb dX6_readText_1 rfl hl (by decide) rfl (fun ls hl => ?_)
  refine ty_loop (I := fun μ H locs ls => ∃ (ws : va_W) (y_1 : Int32) (y_2 : Int32) (y_3 : Int32) (y_4 : Int32) (cnt_5 : Int32) (nc_6 : Int32) (np_7 : Int32) (nf_8 : Nat → Int64) (N_9 : List (List Int32)), μ = (2147483648 - y_1.toInt).toNat ∧ ty_V ct S (rp_F ps cu na pr ch cnt_5 nc_6 np_7 nf_8) ws ∧ va_P D vwCl ([(ty_RD rd bt ln tg y_2 y_3 (0) y_4), (rf_RW ct 0 bt 800 b)] ++ ws) H ∧ va_D A ([(ty_RD rd bt ln tg y_2 y_3 (0) y_4), (rf_RW ct 0 bt 800 b)] ++ ws) ∧ va_S A s.heap H locs ∧ lv_has ls 2 [(0, .ref rd), (1, .int y_1)] ∧ (0 ≤ y_1.toInt ∧ y_1.toInt ≤ y_2.toInt ∧ y_2.toInt ≤ ln.toInt) ∧ rp_xJ b ln (rp_K b ln) (rp_P b ln) (rp_C b ln) y_1 N_9 np_7.toInt nc_6.toInt y_2 ∧ rp_N N_9 cnt_5 nf_8 ∧ (0 ≤ nc_6.toInt ∧ nc_6.toInt ≤ 6) ∧ 0 ≤ np_7.toInt ∧ np_7.toInt ≤ 4) ⟨_, ws, (0 : Int32), (0 : Int32), (0 : Int32), (0 : Int32), (0 : Int32), (0 : Int32), (0 : Int32), nf, ([]), rfl, hT, hP, hD, hS, (lv_sub hl [1, 0] rfl), ⟨by decide, by decide, by have z : (0 : Int32).toInt = 0 := (by decide); omega⟩, rp_J0 b ln, rp_N0 nf, (by decide), (by decide)⟩ (fun μ H locs ls hI ih_2 => ?_)
  obtain ⟨ws, y_1, y_2, y_3, y_4, cnt_5, nc_6, np_7, nf_8, N_9, rfl, hT, hP, hD, hS, hl, hex_2⟩ := hI
  have hxb := hex_2.1
  refine lv_iload_n hx hb dX6_readText_2 rfl (lv_at hl 1 rfl) ?_
  refine lv_aload_n hx hb dX6_readText_3 rfl (lv_at hl 0 rfl) ?_
  refine va_get (v := .int ln) (D := D) (ci := 6) (C := RX6) (T := TX6) (N := 7) hx hb hts in_X6 hown hK hP 0 rfl rfl 1 (by decide) (hts _ kl_RX6_15) (fun _ h9 => h9) rfl dX6_readText_4 ?_
  refine lv_icmp_gt (tgt := 112) hx hb dX6_readText_7 (by decide) (fun hc_10 => ?_) (fun hc_10 => ?_)
  · exact absurd hc_10 (by rw [Int32.lt_iff_toInt_lt]; omega)
  · refine lv_aload_n hx hb dX6_readText_10 rfl (lv_at hl 0 rfl) ?_
    have hP : va_P D vwCl (([] ++ ws) ++ ([(ty_RD rd bt ln tg y_2 y_3 (0) y_4), (rf_RW ct 0 bt 800 b)] ++ ([] : va_W))) H := ty_permP (w1 := (([] ++ [(ty_RD rd bt ln tg y_2 y_3 (0) y_4), (rf_RW ct 0 bt 800 b)]) ++ ws)) hP ty_mv2
    have hD : va_D A (([] ++ ws) ++ ([(ty_RD rd bt ln tg y_2 y_3 (0) y_4), (rf_RW ct 0 bt 800 b)] ++ ([] : va_W))) := ty_permD (w1 := (([] ++ [(ty_RD rd bt ln tg y_2 y_3 (0) y_4), (rf_RW ct 0 bt 800 b)]) ++ ws)) hD ty_mv2
    refine ty_kv (wr := ([] ++ ws)) (wc := ([(ty_RD rd bt ln tg y_2 y_3 (0) y_4), (rf_RW ct 0 bt 800 b)] ++ ([] : va_W))) (va_runV (As := []) (rest := []) ⟨hx, hb, hml, hown, hts⟩ (r_readWord l D ct (fun _ => none) [] (fun _ => True) (fun _ _ _ => True) rd bt tg ln y_2 y_3 (0 : Int32) y_4 b _ ty_V0 ty_C0 ty_y10 hln (by omega)) (cm_V 0 hts kc_X6_readWord ki_RX6 kl_RX6_23 kv_X6_readWord kx_X6_readWord kd_X6_readWord ⟨Nat.le_of_ble_eq_true rfl, Nat.le_of_ble_eq_true rfl⟩) (ty_preE (wr := ([] ++ ws)) (wc := ([(ty_RD rd bt ln tg y_2 y_3 (0) y_4), (rf_RW ct 0 bt 800 b)] ++ ([] : va_W))) (ci := 6) (q0 := (([] ++ ws) : va_W).length + 0) hP hK hD hS hA hX rfl (ty_app rfl)) rfl rfl hl.1 rfl (lv_room (Nat.le_of_ble_eq_true rfl)) dX6_readText_11 ⟨Nat.le_of_ble_eq_true rfl, Nat.le_of_ble_eq_true rfl⟩) hP hD hS hA (fun u H locs hw_12 hP hD hS => ?_)
    obtain ⟨ws_13, pl1_14, ws1_15, er1_16, ep1_17⟩ := u
    obtain ⟨hT9_18, hp_19⟩ := hw_12
    have hp_19 : pl1_14 = (rp_we b ln (rp_sk b ln y_2)) ∧ ws1_15 = (rp_sk b ln y_2) ∧ rp_o (0 : Int32) y_4 er1_16 ep1_17 (rp_wk b ln (rp_sk b ln y_2)) (rp_sk b ln y_2) True := hp_19
    have hP : va_P D vwCl ([(ty_RD rd bt ln tg pl1_14 ws1_15 er1_16 ep1_17), (rf_RW ct 0 bt 800 b)] ++ ws) H := ty_bkP hP
    have hD : va_D A ([(ty_RD rd bt ln tg pl1_14 ws1_15 er1_16 ep1_17), (rf_RW ct 0 bt 800 b)] ++ ws) := ty_bkD hD
    obtain ⟨rfl, rfl, ho_20⟩ := hp_19
    have hq := rp_sk_b (b := b) (p := y_2) hln.2 (by omega)
    have hq2 := rp_we_b (b := b) (p := (rp_sk b ln y_2)) hln.2 (by omega)
    have hQ : 0 ≤ (rp_sk b ln y_2).toInt ∧ (rp_sk b ln y_2).toInt ≤ 800 := (by omega)
    refine lv_aload_n hx hb dX6_readText_14 rfl (lv_at hl 0 rfl) ?_
    obtain ⟨sa_21, sv_22, hsr_23, hss_24⟩ := hX.2.2.2.1 ("CellCycler$Reader", 26, "curve", [99, 117, 114, 118, 101]) (by decide +kernel)
    refine va_ldcS hx hb hown hsr_23 dX6_readText_15 ?_
    have hP : va_P D vwCl (([] ++ ws) ++ ([(ty_RD rd bt ln tg (rp_we b ln (rp_sk b ln y_2)) (rp_sk b ln y_2) er1_16 ep1_17), (rf_RW ct 0 bt 800 b)] ++ ([] : va_W))) H := ty_permP (w1 := (([] ++ [(ty_RD rd bt ln tg (rp_we b ln (rp_sk b ln y_2)) (rp_sk b ln y_2) er1_16 ep1_17), (rf_RW ct 0 bt 800 b)]) ++ ws)) hP ty_mv2
    have hD : va_D A (([] ++ ws) ++ ([(ty_RD rd bt ln tg (rp_we b ln (rp_sk b ln y_2)) (rp_sk b ln y_2) er1_16 ep1_17), (rf_RW ct 0 bt 800 b)] ++ ([] : va_W))) := ty_permD (w1 := (([] ++ [(ty_RD rd bt ln tg (rp_we b ln (rp_sk b ln y_2)) (rp_sk b ln y_2) er1_16 ep1_17), (rf_RW ct 0 bt 800 b)]) ++ ws)) hD ty_mv2
    refine ty_ki (wr := ([] ++ ws)) (wc := ([(ty_RD rd bt ln tg (rp_we b ln (rp_sk b ln y_2)) (rp_sk b ln y_2) er1_16 ep1_17), (rf_RW ct 0 bt 800 b)] ++ ([] : va_W))) (va_runV (As := [.ref sa_21]) (rest := []) ⟨hx, hb, hml, hown, hts⟩ (r_wordIs l D ct (fun _ => none) [] (fun _ => True) (fun _ _ _ => True) rd bt tg ln (rp_we b ln (rp_sk b ln y_2)) (rp_sk b ln y_2) er1_16 ep1_17 b sa_21 ("CellCycler$Reader", 26, "curve", [99, 117, 114, 118, 101]) _ ty_V0 ty_C0 ty_y10 hln (by omega) (by omega) (by decide +kernel)) (cm_V 1 hts kc_X6_wordIs ki_RX6 kl_RX6_28 kv_X6_wordIs kx_X6_wordIs kd_X6_wordIs ⟨Nat.le_of_ble_eq_true rfl, Nat.le_of_ble_eq_true rfl⟩) (cm_preVs (ty_preE (wr := ([] ++ ws)) (wc := ([(ty_RD rd bt ln tg (rp_we b ln (rp_sk b ln y_2)) (rp_sk b ln y_2) er1_16 ep1_17), (rf_RW ct 0 bt 800 b)] ++ ([] : va_W))) (ci := 6) (q0 := (([] ++ ws) : va_W).length + 0) hP hK hD hS hA hX rfl (ty_app rfl)) hsr_23) rfl rfl hl.1 rfl (lv_room (Nat.le_of_ble_eq_true rfl)) dX6_readText_17 ⟨Nat.le_of_ble_eq_true rfl, Nat.le_of_ble_eq_true rfl⟩) hP hD hS hA (fun r_25 u H locs hw_26 hP hD hS => ?_)
    obtain ⟨ws_27, rfl⟩ : ∃ z, z = u := ⟨_, rfl⟩
    obtain ⟨hT9_28, hp_29⟩ := hw_26
    have hp_29 : ((r_25 = 1 ∧ rp_wd b (rp_sk b ln y_2) (rp_we b ln (rp_sk b ln y_2)) = ("CellCycler$Reader", 26, "curve", [99, 117, 114, 118, 101]).2.2.2) ∨ (r_25 = 0 ∧ ¬ rp_wd b (rp_sk b ln y_2) (rp_we b ln (rp_sk b ln y_2)) = ("CellCycler$Reader", 26, "curve", [99, 117, 114, 118, 101]).2.2.2)) := hp_29
    have hP : va_P D vwCl ([(ty_RD rd bt ln tg (rp_we b ln (rp_sk b ln y_2)) (rp_sk b ln y_2) er1_16 ep1_17), (rf_RW ct 0 bt 800 b)] ++ ws) H := ty_bkP hP
    have hD : va_D A ([(ty_RD rd bt ln tg (rp_we b ln (rp_sk b ln y_2)) (rp_sk b ln y_2) er1_16 ep1_17), (rf_RW ct 0 bt 800 b)] ++ ws) := ty_bkD hD
    rcases hp_29 with ⟨rfl, hz_30⟩ | ⟨rfl, hz_31⟩
    · refine lv_if_eq (tgt := 30) hx hb dX6_readText_20 (by decide) (fun hc => absurd hc (by decide)) (fun _ => ?_)
      obtain ⟨hke_33, hkp_34⟩ := rp_wk0 rfl ho_20 (rp_wl hQ hz_30)
      subst hke_33
      refine lv_aload_n hx hb dX6_readText_23 rfl (lv_at hl 0 rfl) ?_
      refine ty_kv (wr := []) (wc := ([(ty_RD rd bt ln tg (rp_we b ln (rp_sk b ln y_2)) (rp_sk b ln y_2) (0) ep1_17), (rf_RW ct 0 bt 800 b)] ++ ws)) (va_runV (As := []) (rest := []) ⟨hx, hb, hml, hown, hts⟩ (r_readCurve l D ct S ws rd bt tg ln (rp_we b ln (rp_sk b ln y_2)) (rp_sk b ln y_2) (0 : Int32) ep1_17 b ps cu na pr ch cnt_5 nc_6 np_7 nf_8 N_9 _ hT h_tg h_cu h_na hln (by omega) rfl (by omega) rfl hex_2.2.2.1) (cm_V 0 hts kc_X6_readCurve ki_RX6 kl_RX6_32 kv_X6_readCurve kx_X6_readCurve kd_X6_readCurve ⟨Nat.le_of_ble_eq_true rfl, Nat.le_of_ble_eq_true rfl⟩) (ty_preE (wr := []) (wc := ([(ty_RD rd bt ln tg (rp_we b ln (rp_sk b ln y_2)) (rp_sk b ln y_2) (0) ep1_17), (rf_RW ct 0 bt 800 b)] ++ ws)) (ci := 6) (q0 := 0) hP hK hD hS hA hX rfl rfl) rfl rfl hl.1 rfl (lv_room (Nat.le_of_ble_eq_true rfl)) dX6_readText_24 ⟨Nat.le_of_ble_eq_true rfl, Nat.le_of_ble_eq_true rfl⟩) hP hD hS hA (fun u H locs hw_36 hP hD hS => ?_)
      obtain ⟨ws_37, pl1_38, ws1_39, er1_40, ep1_41, cnt1_42, nf1_43⟩ := u
      obtain ⟨hT, hp_44⟩ := hw_36
      have hp_44 : (0 ≤ pl1_38.toInt ∧ pl1_38.toInt ≤ ln.toInt) ∧ rp_o (0 : Int32) ep1_17 er1_40 ep1_41 (rp_ck b ln N_9 (rp_sk b ln y_2)) (rp_cp b ln N_9 (rp_sk b ln y_2)) (rp_N (N_9 ++ [rp_w b ln (rp_q2 b ln (rp_sk b ln y_2))]) cnt1_42 nf1_43 ∧ rp_sk b ln pl1_38 = rp_sk b ln (rp_cp b ln N_9 (rp_sk b ln y_2))) := hp_44
      have hP : va_P D vwCl ([(ty_RD rd bt ln tg pl1_38 ws1_39 er1_40 ep1_41), (rf_RW ct 0 bt 800 b)] ++ ws_37) H := hP
      have hD : va_D A ([(ty_RD rd bt ln tg pl1_38 ws1_39 er1_40 ep1_41), (rf_RW ct 0 bt 800 b)] ++ ws_37) := hD
      obtain ⟨hb_45, ho_46⟩ := hp_44
      rw [hkp_34] at ho_46
      have hso_47 := rp_s1 (show rp_wh b ln (rp_sk b ln y_2) = 1 from (if_pos hz_30)) hex_2.2.2.2.1 hex_2.2.2.2.2 ho_46
      refine lv_goto (tgt := 73) hx hb dX6_readText_27 (by decide) ?_
      refine lv_aload_n hx hb dX6_readText_73 rfl (lv_at hl 0 rfl) ?_
      have hP : va_P D vwCl (([] ++ ws_37) ++ ([(ty_RD rd bt ln tg pl1_38 ws1_39 er1_40 ep1_41), (rf_RW ct 0 bt 800 b)] ++ ([] : va_W))) H := ty_permP (w1 := (([] ++ [(ty_RD rd bt ln tg pl1_38 ws1_39 er1_40 ep1_41), (rf_RW ct 0 bt 800 b)]) ++ ws_37)) hP ty_mv2
      have hD : va_D A (([] ++ ws_37) ++ ([(ty_RD rd bt ln tg pl1_38 ws1_39 er1_40 ep1_41), (rf_RW ct 0 bt 800 b)] ++ ([] : va_W))) := ty_permD (w1 := (([] ++ [(ty_RD rd bt ln tg pl1_38 ws1_39 er1_40 ep1_41), (rf_RW ct 0 bt 800 b)]) ++ ws_37)) hD ty_mv2
      refine ty_kv (wr := ([] ++ ws_37)) (wc := ([(ty_RD rd bt ln tg pl1_38 ws1_39 er1_40 ep1_41), (rf_RW ct 0 bt 800 b)] ++ ([] : va_W))) (va_runV (As := []) (rest := []) ⟨hx, hb, hml, hown, hts⟩ (r_skip l D ct (fun _ => none) [] (fun _ => True) (fun _ _ _ => True) rd bt tg ln pl1_38 ws1_39 er1_40 ep1_41 b _ ty_V0 ty_C0 ty_y10 hln hb_45) (cm_V 0 hts kc_X6_skipSpaces ki_RX6 kl_RX6_55 kv_X6_skipSpaces kx_X6_skipSpaces kd_X6_skipSpaces ⟨Nat.le_of_ble_eq_true rfl, Nat.le_of_ble_eq_true rfl⟩) (ty_preE (wr := ([] ++ ws_37)) (wc := ([(ty_RD rd bt ln tg pl1_38 ws1_39 er1_40 ep1_41), (rf_RW ct 0 bt 800 b)] ++ ([] : va_W))) (ci := 6) (q0 := (([] ++ ws_37) : va_W).length + 0) hP hK hD hS hA hX rfl (ty_app rfl)) rfl rfl hl.1 rfl (lv_room (Nat.le_of_ble_eq_true rfl)) dX6_readText_74 ⟨Nat.le_of_ble_eq_true rfl, Nat.le_of_ble_eq_true rfl⟩) hP hD hS hA (fun u H locs hw_49 hP hD hS => ?_)
      obtain ⟨ws_50, pl1_51⟩ := u
      obtain ⟨hT9_52, hp_53⟩ := hw_49
      have hp_53 : pl1_51 = (rp_sk b ln pl1_38) := hp_53
      have hP : va_P D vwCl ([(ty_RD rd bt ln tg pl1_51 ws1_39 er1_40 ep1_41), (rf_RW ct 0 bt 800 b)] ++ ws_37) H := ty_bkP hP
      have hD : va_D A ([(ty_RD rd bt ln tg pl1_51 ws1_39 er1_40 ep1_41), (rf_RW ct 0 bt 800 b)] ++ ws_37) := ty_bkD hD
      obtain rfl := hp_53
      have hs_55 := rp_sk_b (b := b) (p := pl1_38) hln.2 hb_45
      refine lv_aload_n hx hb dX6_readText_77 rfl (lv_at hl 0 rfl) ?_
      refine va_get (v := .int er1_40) (D := D) (ci := 6) (C := RX6) (T := TX6) (N := 7) hx hb hts in_X6 hown hK hP 0 rfl rfl 5 (by decide) (hts _ kl_RX6_58) (fun _ h9 => h9) rfl dX6_readText_78 ?_
      refine lv_if_ne (tgt := 112) hx hb dX6_readText_81 (by decide) (fun hc_56 => ?_) (fun hc_56 => ?_)
      · refine lv_aload_n hx hb dX6_readText_112 rfl (lv_at hl 0 rfl) ?_
        refine va_get (v := .int (rp_sk b ln pl1_38)) (D := D) (ci := 6) (C := RX6) (T := TX6) (N := 7) hx hb hts in_X6 hown hK hP 0 rfl rfl 3 (by decide) (hts _ kl_RX6_65) (fun _ h9 => h9) rfl dX6_readText_113 ?_
        refine lv_aload_n hx hb dX6_readText_116 rfl (lv_at hl 0 rfl) ?_
        refine va_get (v := .int ln) (D := D) (ci := 6) (C := RX6) (T := TX6) (N := 7) hx hb hts in_X6 hown hK hP 0 rfl rfl 1 (by decide) (hts _ kl_RX6_15) (fun _ h9 => h9) rfl dX6_readText_117 ?_
        refine lv_icmp_ge (tgt := 132) hx hb dX6_readText_120 (by decide) (fun hc_57 => ?_) (fun hc_57 => ?_)
        · exact W.vret hx hb hr (fun t ht hW => ⟨⟨(ws_37, (rp_sk b ln pl1_38), ws1_39, er1_40, ep1_41, cnt1_42, nc_6, np_7, nf1_43), rfl, ⟨hT, rp_e1n hex_2.2.1 (by omega) rfl hso_47 hc_56⟩, by rw [ht]; exact hP, by rw [hAe]; exact hD⟩, hS.F ht⟩) hS.2.2 dX6_readText_132
        · refine lv_aload_n hx hb dX6_readText_123 rfl (lv_at hl 0 rfl) ?_
          refine lv_iconst (v := 1) hx hb dX6_readText_124 (by decide) ?_
          refine lv_aload_n hx hb dX6_readText_125 rfl (lv_at hl 0 rfl) ?_
          refine va_get (v := .int (rp_sk b ln pl1_38)) (D := D) (ci := 6) (C := RX6) (T := TX6) (N := 7) hx hb hts in_X6 hown hK hP 0 rfl rfl 3 (by decide) (hts _ kl_RX6_65) (fun _ h9 => h9) rfl dX6_readText_126 ?_
          have hP : va_P D vwCl ([(rf_RW ct 0 bt 800 b), (ty_RD rd bt ln tg (rp_sk b ln pl1_38) ws1_39 er1_40 ep1_41)] ++ ws_37) H := ty_permP hP (ty_ordp (E := [(ty_RD rd bt ln tg (rp_sk b ln pl1_38) ws1_39 er1_40 ep1_41), (rf_RW ct 0 bt 800 b)]) (E2 := [(rf_RW ct 0 bt 800 b), (ty_RD rd bt ln tg (rp_sk b ln pl1_38) ws1_39 er1_40 ep1_41)]) (n := 2) [1, 0] rfl rfl (by decide))
          have hD : va_D A ([(rf_RW ct 0 bt 800 b), (ty_RD rd bt ln tg (rp_sk b ln pl1_38) ws1_39 er1_40 ep1_41)] ++ ws_37) := ty_permD hD (ty_ordp (E := [(ty_RD rd bt ln tg (rp_sk b ln pl1_38) ws1_39 er1_40 ep1_41), (rf_RW ct 0 bt 800 b)]) (E2 := [(rf_RW ct 0 bt 800 b), (ty_RD rd bt ln tg (rp_sk b ln pl1_38) ws1_39 er1_40 ep1_41)]) (n := 2) [1, 0] rfl rfl (by decide))
          have hP : va_P D vwCl (([(rf_RW ct 0 bt 800 b)] ++ ws_37) ++ ([(ty_RD rd bt ln tg (rp_sk b ln pl1_38) ws1_39 er1_40 ep1_41)] ++ ([] : va_W))) H := ty_permP (w1 := (([(rf_RW ct 0 bt 800 b)] ++ [(ty_RD rd bt ln tg (rp_sk b ln pl1_38) ws1_39 er1_40 ep1_41)]) ++ ws_37)) hP ty_mv2
          have hD : va_D A (([(rf_RW ct 0 bt 800 b)] ++ ws_37) ++ ([(ty_RD rd bt ln tg (rp_sk b ln pl1_38) ws1_39 er1_40 ep1_41)] ++ ([] : va_W))) := ty_permD (w1 := (([(rf_RW ct 0 bt 800 b)] ++ [(ty_RD rd bt ln tg (rp_sk b ln pl1_38) ws1_39 er1_40 ep1_41)]) ++ ws_37)) hD ty_mv2
          refine ty_kv (wr := ([(rf_RW ct 0 bt 800 b)] ++ ws_37)) (wc := ([(ty_RD rd bt ln tg (rp_sk b ln pl1_38) ws1_39 er1_40 ep1_41)] ++ ([] : va_W))) (va_runV (As := [.int 1, .int (rp_sk b ln pl1_38)]) (rest := []) ⟨hx, hb, hml, hown, hts⟩ (r_fail l D ct (fun _ => none) [] (fun _ => True) (fun _ _ _ => True) rd bt tg ln (rp_sk b ln pl1_38) ws1_39 er1_40 ep1_41 (1 : Int32) (rp_sk b ln pl1_38) _ ty_V0 ty_C0 ty_y10 (by decide)) (cm_V 2 hts kc_X6_fail ki_RX6 kl_RX6_68 kv_X6_fail kx_X6_fail kd_X6_fail ⟨Nat.le_of_ble_eq_true rfl, Nat.le_of_ble_eq_true rfl⟩) (ty_preE (wr := ([(rf_RW ct 0 bt 800 b)] ++ ws_37)) (wc := ([(ty_RD rd bt ln tg (rp_sk b ln pl1_38) ws1_39 er1_40 ep1_41)] ++ ([] : va_W))) (ci := 6) (q0 := (([(rf_RW ct 0 bt 800 b)] ++ ws_37) : va_W).length + 0) hP hK hD hS hA hX rfl (ty_app rfl)) rfl rfl hl.1 rfl (lv_room (Nat.le_of_ble_eq_true rfl)) dX6_readText_129 ⟨Nat.le_of_ble_eq_true rfl, Nat.le_of_ble_eq_true rfl⟩) hP hD hS hA (fun u H locs hw_59 hP hD hS => ?_)
          obtain ⟨ws_60, er1_61, ep1_62⟩ := u
          obtain ⟨hT9_63, hp_64⟩ := hw_59
          have hp_64 : rp_o er1_40 ep1_41 er1_61 ep1_62 (1 : Int32) (rp_sk b ln pl1_38) True := hp_64
          have hP : va_P D vwCl ([(rf_RW ct 0 bt 800 b), (ty_RD rd bt ln tg (rp_sk b ln pl1_38) ws1_39 er1_61 ep1_62)] ++ ws_37) H := ty_bkP hP
          have hD : va_D A ([(rf_RW ct 0 bt 800 b), (ty_RD rd bt ln tg (rp_sk b ln pl1_38) ws1_39 er1_61 ep1_62)] ++ ws_37) := ty_bkD hD
          have hP : va_P D vwCl ([(ty_RD rd bt ln tg (rp_sk b ln pl1_38) ws1_39 er1_61 ep1_62), (rf_RW ct 0 bt 800 b)] ++ ws_37) H := ty_permP hP (ty_ordp (E := [(rf_RW ct 0 bt 800 b), (ty_RD rd bt ln tg (rp_sk b ln pl1_38) ws1_39 er1_61 ep1_62)]) (E2 := [(ty_RD rd bt ln tg (rp_sk b ln pl1_38) ws1_39 er1_61 ep1_62), (rf_RW ct 0 bt 800 b)]) (n := 2) [1, 0] rfl rfl (by decide))
          have hD : va_D A ([(ty_RD rd bt ln tg (rp_sk b ln pl1_38) ws1_39 er1_61 ep1_62), (rf_RW ct 0 bt 800 b)] ++ ws_37) := ty_permD hD (ty_ordp (E := [(rf_RW ct 0 bt 800 b), (ty_RD rd bt ln tg (rp_sk b ln pl1_38) ws1_39 er1_61 ep1_62)]) (E2 := [(ty_RD rd bt ln tg (rp_sk b ln pl1_38) ws1_39 er1_61 ep1_62), (rf_RW ct 0 bt 800 b)]) (n := 2) [1, 0] rfl rfl (by decide))
          exact W.vret hx hb hr (fun t ht hW => ⟨⟨(ws_37, (rp_sk b ln pl1_38), ws1_39, er1_61, ep1_62, cnt1_42, nc_6, np_7, nf1_43), rfl, ⟨hT, rp_e1 hex_2.2.1 (by omega) rfl hso_47 hc_56 hp_64⟩, by rw [ht]; exact hP, by rw [hAe]; exact hD⟩, hS.F ht⟩) hS.2.2 dX6_readText_132
      · subst hc_56
        refine lv_aload_n hx hb dX6_readText_84 rfl (lv_at hl 0 rfl) ?_
        have hP : va_P D vwCl (([] ++ ws_37) ++ ([(ty_RD rd bt ln tg (rp_sk b ln pl1_38) ws1_39 (0) ep1_41), (rf_RW ct 0 bt 800 b)] ++ ([] : va_W))) H := ty_permP (w1 := (([] ++ [(ty_RD rd bt ln tg (rp_sk b ln pl1_38) ws1_39 (0) ep1_41), (rf_RW ct 0 bt 800 b)]) ++ ws_37)) hP ty_mv2
        have hD : va_D A (([] ++ ws_37) ++ ([(ty_RD rd bt ln tg (rp_sk b ln pl1_38) ws1_39 (0) ep1_41), (rf_RW ct 0 bt 800 b)] ++ ([] : va_W))) := ty_permD (w1 := (([] ++ [(ty_RD rd bt ln tg (rp_sk b ln pl1_38) ws1_39 (0) ep1_41), (rf_RW ct 0 bt 800 b)]) ++ ws_37)) hD ty_mv2
        refine ty_ki (wr := ([] ++ ws_37)) (wc := ([(ty_RD rd bt ln tg (rp_sk b ln pl1_38) ws1_39 (0) ep1_41), (rf_RW ct 0 bt 800 b)] ++ ([] : va_W))) (va_runV (As := []) (rest := []) ⟨hx, hb, hml, hown, hts⟩ (r_next l D ct (fun _ => none) [] (fun _ => True) (fun _ _ _ => True) rd bt tg ln (rp_sk b ln pl1_38) ws1_39 (0 : Int32) ep1_41 b _ ty_V0 ty_C0 ty_y10 hln (by omega)) (cm_V 0 hts kc_X6_next ki_RX6 kl_RX6_61 kv_X6_next kx_X6_next kd_X6_next ⟨Nat.le_of_ble_eq_true rfl, Nat.le_of_ble_eq_true rfl⟩) (ty_preE (wr := ([] ++ ws_37)) (wc := ([(ty_RD rd bt ln tg (rp_sk b ln pl1_38) ws1_39 (0) ep1_41), (rf_RW ct 0 bt 800 b)] ++ ([] : va_W))) (ci := 6) (q0 := (([] ++ ws_37) : va_W).length + 0) hP hK hD hS hA hX rfl (ty_app rfl)) rfl rfl hl.1 rfl (lv_room (Nat.le_of_ble_eq_true rfl)) dX6_readText_85 ⟨Nat.le_of_ble_eq_true rfl, Nat.le_of_ble_eq_true rfl⟩) hP hD hS hA (fun r_65 u H locs hw_66 hP hD hS => ?_)
        obtain ⟨ws_67, rfl⟩ : ∃ z, z = u := ⟨_, rfl⟩
        obtain ⟨hT9_68, rfl⟩ := hw_66
        have hP : va_P D vwCl ([(ty_RD rd bt ln tg (rp_sk b ln pl1_38) ws1_39 (0) ep1_41), (rf_RW ct 0 bt 800 b)] ++ ws_37) H := ty_bkP hP
        have hD : va_D A ([(ty_RD rd bt ln tg (rp_sk b ln pl1_38) ws1_39 (0) ep1_41), (rf_RW ct 0 bt 800 b)] ++ ws_37) := ty_bkD hD
        refine lv_bipush (v := 59) hx hb dX6_readText_88 (by decide) ?_
        refine lv_icmp_eq (tgt := 96) hx hb dX6_readText_90 (by decide) (fun hc_69 => ?_) (fun hc_69 => ?_)
        · refine lv_aload_n hx hb dX6_readText_96 rfl (lv_at hl 0 rfl) ?_
          refine lv_dup hx hb dX6_readText_97 rfl ?_
          refine va_get (v := .int (rp_sk b ln pl1_38)) (D := D) (ci := 6) (C := RX6) (T := TX6) (N := 7) hx hb hts in_X6 hown hK hP 0 rfl rfl 3 (by decide) (hts _ kl_RX6_65) (fun _ h9 => h9) rfl dX6_readText_98 ?_
          refine lv_iconst (v := 1) hx hb dX6_readText_101 (by decide) ?_
          refine lv_iadd hx hb dX6_readText_102 ?_
          refine va_put (v := .int ((rp_sk b ln pl1_38) + 1)) (ty := .int) (D := D) (ci := 6) (C := RX6) (T := TX6) (N := 7) hx hb hts in_X6 tyX6 tyX6_ok nmX6 hown hK hP hD hS 0 rfl rfl 3 (by decide) (hts _ kl_RX6_65) (fun _ h9 => h9) rfl (by decide +kernel) rfl rfl (Nat.le_of_ble_eq_true rfl) dX6_readText_103 (fun H locs hP hD hS => ?_)
          have hP : va_P D vwCl ([(ty_RD rd bt ln tg ((rp_sk b ln pl1_38) + 1) ws1_39 (0) ep1_41), (rf_RW ct 0 bt 800 b)] ++ ws_37) H := hP
          have hD : va_D A ([(ty_RD rd bt ln tg ((rp_sk b ln pl1_38) + 1) ws1_39 (0) ep1_41), (rf_RW ct 0 bt 800 b)] ++ ws_37) := hD
          refine lv_iinc (v := (y_1 + Int32.ofInt 1)) (lv' := [(1, .int (y_1 + Int32.ofInt 1)), (0, .ref rd)]) hx hb dX6_readText_106 hl (k := 1) rfl rfl (by decide) rfl (fun ls hl => ?_)
          refine lv_goto (tgt := 2) hx hb dX6_readText_109 (by decide) ?_
          exact ih_2 _ _ _ _ (ty_inc (N := 801) (by rw [Int32.lt_iff_toInt_lt, show (801 : Int32).toInt = 801 from by decide]; omega)) ⟨ws_37, (y_1 + Int32.ofInt 1), ((rp_sk b ln pl1_38) + 1), ws1_39, ep1_41, cnt1_42, nc_6, np_7, nf1_43, (N_9 ++ [rp_w b ln (rp_q2 b ln (rp_sk b ln y_2))]), rfl, hT, hP, hD, hS, (lv_sub hl [1, 0] rfl), rp_xn hex_2.2.1 hln.2 (by omega) rfl hso_47 hc_69⟩
        · refine lv_goto (tgt := 112) hx hb dX6_readText_93 (by decide) ?_
          refine lv_aload_n hx hb dX6_readText_112 rfl (lv_at hl 0 rfl) ?_
          refine va_get (v := .int (rp_sk b ln pl1_38)) (D := D) (ci := 6) (C := RX6) (T := TX6) (N := 7) hx hb hts in_X6 hown hK hP 0 rfl rfl 3 (by decide) (hts _ kl_RX6_65) (fun _ h9 => h9) rfl dX6_readText_113 ?_
          refine lv_aload_n hx hb dX6_readText_116 rfl (lv_at hl 0 rfl) ?_
          refine va_get (v := .int ln) (D := D) (ci := 6) (C := RX6) (T := TX6) (N := 7) hx hb hts in_X6 hown hK hP 0 rfl rfl 1 (by decide) (hts _ kl_RX6_15) (fun _ h9 => h9) rfl dX6_readText_117 ?_
          refine lv_icmp_ge (tgt := 132) hx hb dX6_readText_120 (by decide) (fun hc_70 => ?_) (fun hc_70 => ?_)
          · exact W.vret hx hb hr (fun t ht hW => ⟨⟨(ws_37, (rp_sk b ln pl1_38), ws1_39, (0 : Int32), ep1_41, cnt1_42, nc_6, np_7, nf1_43), rfl, ⟨hT, rp_e3 hex_2.2.1 (by omega) rfl hso_47 hc_69 hc_70⟩, by rw [ht]; exact hP, by rw [hAe]; exact hD⟩, hS.F ht⟩) hS.2.2 dX6_readText_132
          · refine lv_aload_n hx hb dX6_readText_123 rfl (lv_at hl 0 rfl) ?_
            refine lv_iconst (v := 1) hx hb dX6_readText_124 (by decide) ?_
            refine lv_aload_n hx hb dX6_readText_125 rfl (lv_at hl 0 rfl) ?_
            refine va_get (v := .int (rp_sk b ln pl1_38)) (D := D) (ci := 6) (C := RX6) (T := TX6) (N := 7) hx hb hts in_X6 hown hK hP 0 rfl rfl 3 (by decide) (hts _ kl_RX6_65) (fun _ h9 => h9) rfl dX6_readText_126 ?_
            have hP : va_P D vwCl ([(rf_RW ct 0 bt 800 b), (ty_RD rd bt ln tg (rp_sk b ln pl1_38) ws1_39 (0) ep1_41)] ++ ws_37) H := ty_permP hP (ty_ordp (E := [(ty_RD rd bt ln tg (rp_sk b ln pl1_38) ws1_39 (0) ep1_41), (rf_RW ct 0 bt 800 b)]) (E2 := [(rf_RW ct 0 bt 800 b), (ty_RD rd bt ln tg (rp_sk b ln pl1_38) ws1_39 (0) ep1_41)]) (n := 2) [1, 0] rfl rfl (by decide))
            have hD : va_D A ([(rf_RW ct 0 bt 800 b), (ty_RD rd bt ln tg (rp_sk b ln pl1_38) ws1_39 (0) ep1_41)] ++ ws_37) := ty_permD hD (ty_ordp (E := [(ty_RD rd bt ln tg (rp_sk b ln pl1_38) ws1_39 (0) ep1_41), (rf_RW ct 0 bt 800 b)]) (E2 := [(rf_RW ct 0 bt 800 b), (ty_RD rd bt ln tg (rp_sk b ln pl1_38) ws1_39 (0) ep1_41)]) (n := 2) [1, 0] rfl rfl (by decide))
            have hP : va_P D vwCl (([(rf_RW ct 0 bt 800 b)] ++ ws_37) ++ ([(ty_RD rd bt ln tg (rp_sk b ln pl1_38) ws1_39 (0) ep1_41)] ++ ([] : va_W))) H := ty_permP (w1 := (([(rf_RW ct 0 bt 800 b)] ++ [(ty_RD rd bt ln tg (rp_sk b ln pl1_38) ws1_39 (0) ep1_41)]) ++ ws_37)) hP ty_mv2
            have hD : va_D A (([(rf_RW ct 0 bt 800 b)] ++ ws_37) ++ ([(ty_RD rd bt ln tg (rp_sk b ln pl1_38) ws1_39 (0) ep1_41)] ++ ([] : va_W))) := ty_permD (w1 := (([(rf_RW ct 0 bt 800 b)] ++ [(ty_RD rd bt ln tg (rp_sk b ln pl1_38) ws1_39 (0) ep1_41)]) ++ ws_37)) hD ty_mv2
            refine ty_kv (wr := ([(rf_RW ct 0 bt 800 b)] ++ ws_37)) (wc := ([(ty_RD rd bt ln tg (rp_sk b ln pl1_38) ws1_39 (0) ep1_41)] ++ ([] : va_W))) (va_runV (As := [.int 1, .int (rp_sk b ln pl1_38)]) (rest := []) ⟨hx, hb, hml, hown, hts⟩ (r_fail l D ct (fun _ => none) [] (fun _ => True) (fun _ _ _ => True) rd bt tg ln (rp_sk b ln pl1_38) ws1_39 (0 : Int32) ep1_41 (1 : Int32) (rp_sk b ln pl1_38) _ ty_V0 ty_C0 ty_y10 (by decide)) (cm_V 2 hts kc_X6_fail ki_RX6 kl_RX6_68 kv_X6_fail kx_X6_fail kd_X6_fail ⟨Nat.le_of_ble_eq_true rfl, Nat.le_of_ble_eq_true rfl⟩) (ty_preE (wr := ([(rf_RW ct 0 bt 800 b)] ++ ws_37)) (wc := ([(ty_RD rd bt ln tg (rp_sk b ln pl1_38) ws1_39 (0) ep1_41)] ++ ([] : va_W))) (ci := 6) (q0 := (([(rf_RW ct 0 bt 800 b)] ++ ws_37) : va_W).length + 0) hP hK hD hS hA hX rfl (ty_app rfl)) rfl rfl hl.1 rfl (lv_room (Nat.le_of_ble_eq_true rfl)) dX6_readText_129 ⟨Nat.le_of_ble_eq_true rfl, Nat.le_of_ble_eq_true rfl⟩) hP hD hS hA (fun u H locs hw_72 hP hD hS => ?_)
            obtain ⟨ws_73, er1_74, ep1_75⟩ := u
            obtain ⟨hT9_76, hp_77⟩ := hw_72
            have hp_77 : rp_o (0 : Int32) ep1_41 er1_74 ep1_75 (1 : Int32) (rp_sk b ln pl1_38) True := hp_77
            have hP : va_P D vwCl ([(rf_RW ct 0 bt 800 b), (ty_RD rd bt ln tg (rp_sk b ln pl1_38) ws1_39 er1_74 ep1_75)] ++ ws_37) H := ty_bkP hP
            have hD : va_D A ([(rf_RW ct 0 bt 800 b), (ty_RD rd bt ln tg (rp_sk b ln pl1_38) ws1_39 er1_74 ep1_75)] ++ ws_37) := ty_bkD hD
            have hP : va_P D vwCl ([(ty_RD rd bt ln tg (rp_sk b ln pl1_38) ws1_39 er1_74 ep1_75), (rf_RW ct 0 bt 800 b)] ++ ws_37) H := ty_permP hP (ty_ordp (E := [(rf_RW ct 0 bt 800 b), (ty_RD rd bt ln tg (rp_sk b ln pl1_38) ws1_39 er1_74 ep1_75)]) (E2 := [(ty_RD rd bt ln tg (rp_sk b ln pl1_38) ws1_39 er1_74 ep1_75), (rf_RW ct 0 bt 800 b)]) (n := 2) [1, 0] rfl rfl (by decide))
            have hD : va_D A ([(ty_RD rd bt ln tg (rp_sk b ln pl1_38) ws1_39 er1_74 ep1_75), (rf_RW ct 0 bt 800 b)] ++ ws_37) := ty_permD hD (ty_ordp (E := [(rf_RW ct 0 bt 800 b), (ty_RD rd bt ln tg (rp_sk b ln pl1_38) ws1_39 er1_74 ep1_75)]) (E2 := [(ty_RD rd bt ln tg (rp_sk b ln pl1_38) ws1_39 er1_74 ep1_75), (rf_RW ct 0 bt 800 b)]) (n := 2) [1, 0] rfl rfl (by decide))
            exact W.vret hx hb hr (fun t ht hW => ⟨⟨(ws_37, (rp_sk b ln pl1_38), ws1_39, er1_74, ep1_75, cnt1_42, nc_6, np_7, nf1_43), rfl, ⟨hT, rp_e2 hex_2.2.1 (by omega) rfl hso_47 hc_69 hby (by omega) hc_70 hp_77⟩, by rw [ht]; exact hP, by rw [hAe]; exact hD⟩, hS.F ht⟩) hS.2.2 dX6_readText_132
    · refine lv_if_eq (tgt := 30) hx hb dX6_readText_20 (by decide) (fun _ => ?_) (fun hc => absurd (by decide) hc)
      refine lv_aload_n hx hb dX6_readText_30 rfl (lv_at hl 0 rfl) ?_
      obtain ⟨sa_78, sv_79, hsr_80, hss_81⟩ := hX.2.2.2.1 ("CellCycler$Reader", 35, "cell", [99, 101, 108, 108]) (by decide +kernel)
      refine va_ldcS hx hb hown hsr_80 dX6_readText_31 ?_
      have hP : va_P D vwCl (([] ++ ws) ++ ([(ty_RD rd bt ln tg (rp_we b ln (rp_sk b ln y_2)) (rp_sk b ln y_2) er1_16 ep1_17), (rf_RW ct 0 bt 800 b)] ++ ([] : va_W))) H := ty_permP (w1 := (([] ++ [(ty_RD rd bt ln tg (rp_we b ln (rp_sk b ln y_2)) (rp_sk b ln y_2) er1_16 ep1_17), (rf_RW ct 0 bt 800 b)]) ++ ws)) hP ty_mv2
      have hD : va_D A (([] ++ ws) ++ ([(ty_RD rd bt ln tg (rp_we b ln (rp_sk b ln y_2)) (rp_sk b ln y_2) er1_16 ep1_17), (rf_RW ct 0 bt 800 b)] ++ ([] : va_W))) := ty_permD (w1 := (([] ++ [(ty_RD rd bt ln tg (rp_we b ln (rp_sk b ln y_2)) (rp_sk b ln y_2) er1_16 ep1_17), (rf_RW ct 0 bt 800 b)]) ++ ws)) hD ty_mv2
      refine ty_ki (wr := ([] ++ ws)) (wc := ([(ty_RD rd bt ln tg (rp_we b ln (rp_sk b ln y_2)) (rp_sk b ln y_2) er1_16 ep1_17), (rf_RW ct 0 bt 800 b)] ++ ([] : va_W))) (va_runV (As := [.ref sa_78]) (rest := []) ⟨hx, hb, hml, hown, hts⟩ (r_wordIs l D ct (fun _ => none) [] (fun _ => True) (fun _ _ _ => True) rd bt tg ln (rp_we b ln (rp_sk b ln y_2)) (rp_sk b ln y_2) er1_16 ep1_17 b sa_78 ("CellCycler$Reader", 35, "cell", [99, 101, 108, 108]) _ ty_V0 ty_C0 ty_y10 hln (by omega) (by omega) (by decide +kernel)) (cm_V 1 hts kc_X6_wordIs ki_RX6 kl_RX6_28 kv_X6_wordIs kx_X6_wordIs kd_X6_wordIs ⟨Nat.le_of_ble_eq_true rfl, Nat.le_of_ble_eq_true rfl⟩) (cm_preVs (ty_preE (wr := ([] ++ ws)) (wc := ([(ty_RD rd bt ln tg (rp_we b ln (rp_sk b ln y_2)) (rp_sk b ln y_2) er1_16 ep1_17), (rf_RW ct 0 bt 800 b)] ++ ([] : va_W))) (ci := 6) (q0 := (([] ++ ws) : va_W).length + 0) hP hK hD hS hA hX rfl (ty_app rfl)) hsr_80) rfl rfl hl.1 rfl (lv_room (Nat.le_of_ble_eq_true rfl)) dX6_readText_33 ⟨Nat.le_of_ble_eq_true rfl, Nat.le_of_ble_eq_true rfl⟩) hP hD hS hA (fun r_82 u H locs hw_83 hP hD hS => ?_)
      obtain ⟨ws_84, rfl⟩ : ∃ z, z = u := ⟨_, rfl⟩
      obtain ⟨hT9_85, hp_86⟩ := hw_83
      have hp_86 : ((r_82 = 1 ∧ rp_wd b (rp_sk b ln y_2) (rp_we b ln (rp_sk b ln y_2)) = ("CellCycler$Reader", 35, "cell", [99, 101, 108, 108]).2.2.2) ∨ (r_82 = 0 ∧ ¬ rp_wd b (rp_sk b ln y_2) (rp_we b ln (rp_sk b ln y_2)) = ("CellCycler$Reader", 35, "cell", [99, 101, 108, 108]).2.2.2)) := hp_86
      have hP : va_P D vwCl ([(ty_RD rd bt ln tg (rp_we b ln (rp_sk b ln y_2)) (rp_sk b ln y_2) er1_16 ep1_17), (rf_RW ct 0 bt 800 b)] ++ ws) H := ty_bkP hP
      have hD : va_D A ([(ty_RD rd bt ln tg (rp_we b ln (rp_sk b ln y_2)) (rp_sk b ln y_2) er1_16 ep1_17), (rf_RW ct 0 bt 800 b)] ++ ws) := ty_bkD hD
      rcases hp_86 with ⟨rfl, hz_87⟩ | ⟨rfl, hz_88⟩
      · refine lv_if_eq (tgt := 46) hx hb dX6_readText_36 (by decide) (fun hc => absurd hc (by decide)) (fun _ => ?_)
        obtain ⟨hke_90, hkp_91⟩ := rp_wk0 rfl ho_20 (rp_wl hQ hz_87)
        subst hke_90
        refine lv_aload_n hx hb dX6_readText_39 rfl (lv_at hl 0 rfl) ?_
        refine ty_kv (wr := []) (wc := ([(ty_RD rd bt ln tg (rp_we b ln (rp_sk b ln y_2)) (rp_sk b ln y_2) (0) ep1_17), (rf_RW ct 0 bt 800 b)] ++ ws)) (va_runV (As := []) (rest := []) ⟨hx, hb, hml, hown, hts⟩ (r_readCell l D ct S ws rd bt tg ln (rp_we b ln (rp_sk b ln y_2)) (rp_sk b ln y_2) (0 : Int32) ep1_17 b ps cu na pr ch cnt_5 nc_6 np_7 nf_8 N_9 _ hT h_tg h_cu h_na h_ch hln (by omega) rfl (by omega) rfl hex_2.2.2.1 hex_2.2.2.2.1) (cm_V 0 hts kc_X6_readCell ki_RX6 kl_RX6_37 kv_X6_readCell kx_X6_readCell kd_X6_readCell ⟨Nat.le_of_ble_eq_true rfl, Nat.le_of_ble_eq_true rfl⟩) (ty_preE (wr := []) (wc := ([(ty_RD rd bt ln tg (rp_we b ln (rp_sk b ln y_2)) (rp_sk b ln y_2) (0) ep1_17), (rf_RW ct 0 bt 800 b)] ++ ws)) (ci := 6) (q0 := 0) hP hK hD hS hA hX rfl rfl) rfl rfl hl.1 rfl (lv_room (Nat.le_of_ble_eq_true rfl)) dX6_readText_40 ⟨Nat.le_of_ble_eq_true rfl, Nat.le_of_ble_eq_true rfl⟩) hP hD hS hA (fun u H locs hw_93 hP hD hS => ?_)
        obtain ⟨ws_94, pl1_95, ws1_96, er1_97, ep1_98, nc1_99⟩ := u
        obtain ⟨hT, hp_100⟩ := hw_93
        have hp_100 : (0 ≤ pl1_95.toInt ∧ pl1_95.toInt ≤ ln.toInt) ∧ rp_o (0 : Int32) ep1_17 er1_97 ep1_98 (rp_lk b ln N_9 nc_6.toInt (rp_sk b ln y_2)) (rp_lp b ln N_9 nc_6.toInt (rp_sk b ln y_2)) (nc1_99 = nc_6 + 1 ∧ rp_sk b ln pl1_95 = rp_sk b ln (rp_lp b ln N_9 nc_6.toInt (rp_sk b ln y_2))) := hp_100
        have hP : va_P D vwCl ([(ty_RD rd bt ln tg pl1_95 ws1_96 er1_97 ep1_98), (rf_RW ct 0 bt 800 b)] ++ ws_94) H := hP
        have hD : va_D A ([(ty_RD rd bt ln tg pl1_95 ws1_96 er1_97 ep1_98), (rf_RW ct 0 bt 800 b)] ++ ws_94) := hD
        obtain ⟨hb_101, ho_102⟩ := hp_100
        rw [hkp_91] at ho_102
        have hso_103 := rp_s2 (show rp_wh b ln (rp_sk b ln y_2) = 2 from ((if_neg hz_31).trans (if_pos hz_87))) hex_2.2.2.1 hex_2.2.2.2.1 hex_2.2.2.2.2 ho_102
        refine lv_goto (tgt := 73) hx hb dX6_readText_43 (by decide) ?_
        refine lv_aload_n hx hb dX6_readText_73 rfl (lv_at hl 0 rfl) ?_
        have hP : va_P D vwCl (([] ++ ws_94) ++ ([(ty_RD rd bt ln tg pl1_95 ws1_96 er1_97 ep1_98), (rf_RW ct 0 bt 800 b)] ++ ([] : va_W))) H := ty_permP (w1 := (([] ++ [(ty_RD rd bt ln tg pl1_95 ws1_96 er1_97 ep1_98), (rf_RW ct 0 bt 800 b)]) ++ ws_94)) hP ty_mv2
        have hD : va_D A (([] ++ ws_94) ++ ([(ty_RD rd bt ln tg pl1_95 ws1_96 er1_97 ep1_98), (rf_RW ct 0 bt 800 b)] ++ ([] : va_W))) := ty_permD (w1 := (([] ++ [(ty_RD rd bt ln tg pl1_95 ws1_96 er1_97 ep1_98), (rf_RW ct 0 bt 800 b)]) ++ ws_94)) hD ty_mv2
        refine ty_kv (wr := ([] ++ ws_94)) (wc := ([(ty_RD rd bt ln tg pl1_95 ws1_96 er1_97 ep1_98), (rf_RW ct 0 bt 800 b)] ++ ([] : va_W))) (va_runV (As := []) (rest := []) ⟨hx, hb, hml, hown, hts⟩ (r_skip l D ct (fun _ => none) [] (fun _ => True) (fun _ _ _ => True) rd bt tg ln pl1_95 ws1_96 er1_97 ep1_98 b _ ty_V0 ty_C0 ty_y10 hln hb_101) (cm_V 0 hts kc_X6_skipSpaces ki_RX6 kl_RX6_55 kv_X6_skipSpaces kx_X6_skipSpaces kd_X6_skipSpaces ⟨Nat.le_of_ble_eq_true rfl, Nat.le_of_ble_eq_true rfl⟩) (ty_preE (wr := ([] ++ ws_94)) (wc := ([(ty_RD rd bt ln tg pl1_95 ws1_96 er1_97 ep1_98), (rf_RW ct 0 bt 800 b)] ++ ([] : va_W))) (ci := 6) (q0 := (([] ++ ws_94) : va_W).length + 0) hP hK hD hS hA hX rfl (ty_app rfl)) rfl rfl hl.1 rfl (lv_room (Nat.le_of_ble_eq_true rfl)) dX6_readText_74 ⟨Nat.le_of_ble_eq_true rfl, Nat.le_of_ble_eq_true rfl⟩) hP hD hS hA (fun u H locs hw_105 hP hD hS => ?_)
        obtain ⟨ws_106, pl1_107⟩ := u
        obtain ⟨hT9_108, hp_109⟩ := hw_105
        have hp_109 : pl1_107 = (rp_sk b ln pl1_95) := hp_109
        have hP : va_P D vwCl ([(ty_RD rd bt ln tg pl1_107 ws1_96 er1_97 ep1_98), (rf_RW ct 0 bt 800 b)] ++ ws_94) H := ty_bkP hP
        have hD : va_D A ([(ty_RD rd bt ln tg pl1_107 ws1_96 er1_97 ep1_98), (rf_RW ct 0 bt 800 b)] ++ ws_94) := ty_bkD hD
        obtain rfl := hp_109
        have hs_111 := rp_sk_b (b := b) (p := pl1_95) hln.2 hb_101
        refine lv_aload_n hx hb dX6_readText_77 rfl (lv_at hl 0 rfl) ?_
        refine va_get (v := .int er1_97) (D := D) (ci := 6) (C := RX6) (T := TX6) (N := 7) hx hb hts in_X6 hown hK hP 0 rfl rfl 5 (by decide) (hts _ kl_RX6_58) (fun _ h9 => h9) rfl dX6_readText_78 ?_
        refine lv_if_ne (tgt := 112) hx hb dX6_readText_81 (by decide) (fun hc_112 => ?_) (fun hc_112 => ?_)
        · refine lv_aload_n hx hb dX6_readText_112 rfl (lv_at hl 0 rfl) ?_
          refine va_get (v := .int (rp_sk b ln pl1_95)) (D := D) (ci := 6) (C := RX6) (T := TX6) (N := 7) hx hb hts in_X6 hown hK hP 0 rfl rfl 3 (by decide) (hts _ kl_RX6_65) (fun _ h9 => h9) rfl dX6_readText_113 ?_
          refine lv_aload_n hx hb dX6_readText_116 rfl (lv_at hl 0 rfl) ?_
          refine va_get (v := .int ln) (D := D) (ci := 6) (C := RX6) (T := TX6) (N := 7) hx hb hts in_X6 hown hK hP 0 rfl rfl 1 (by decide) (hts _ kl_RX6_15) (fun _ h9 => h9) rfl dX6_readText_117 ?_
          refine lv_icmp_ge (tgt := 132) hx hb dX6_readText_120 (by decide) (fun hc_113 => ?_) (fun hc_113 => ?_)
          · exact W.vret hx hb hr (fun t ht hW => ⟨⟨(ws_94, (rp_sk b ln pl1_95), ws1_96, er1_97, ep1_98, cnt_5, nc1_99, np_7, nf_8), rfl, ⟨hT, rp_e1n hex_2.2.1 (by omega) rfl hso_103 hc_112⟩, by rw [ht]; exact hP, by rw [hAe]; exact hD⟩, hS.F ht⟩) hS.2.2 dX6_readText_132
          · refine lv_aload_n hx hb dX6_readText_123 rfl (lv_at hl 0 rfl) ?_
            refine lv_iconst (v := 1) hx hb dX6_readText_124 (by decide) ?_
            refine lv_aload_n hx hb dX6_readText_125 rfl (lv_at hl 0 rfl) ?_
            refine va_get (v := .int (rp_sk b ln pl1_95)) (D := D) (ci := 6) (C := RX6) (T := TX6) (N := 7) hx hb hts in_X6 hown hK hP 0 rfl rfl 3 (by decide) (hts _ kl_RX6_65) (fun _ h9 => h9) rfl dX6_readText_126 ?_
            have hP : va_P D vwCl ([(rf_RW ct 0 bt 800 b), (ty_RD rd bt ln tg (rp_sk b ln pl1_95) ws1_96 er1_97 ep1_98)] ++ ws_94) H := ty_permP hP (ty_ordp (E := [(ty_RD rd bt ln tg (rp_sk b ln pl1_95) ws1_96 er1_97 ep1_98), (rf_RW ct 0 bt 800 b)]) (E2 := [(rf_RW ct 0 bt 800 b), (ty_RD rd bt ln tg (rp_sk b ln pl1_95) ws1_96 er1_97 ep1_98)]) (n := 2) [1, 0] rfl rfl (by decide))
            have hD : va_D A ([(rf_RW ct 0 bt 800 b), (ty_RD rd bt ln tg (rp_sk b ln pl1_95) ws1_96 er1_97 ep1_98)] ++ ws_94) := ty_permD hD (ty_ordp (E := [(ty_RD rd bt ln tg (rp_sk b ln pl1_95) ws1_96 er1_97 ep1_98), (rf_RW ct 0 bt 800 b)]) (E2 := [(rf_RW ct 0 bt 800 b), (ty_RD rd bt ln tg (rp_sk b ln pl1_95) ws1_96 er1_97 ep1_98)]) (n := 2) [1, 0] rfl rfl (by decide))
            have hP : va_P D vwCl (([(rf_RW ct 0 bt 800 b)] ++ ws_94) ++ ([(ty_RD rd bt ln tg (rp_sk b ln pl1_95) ws1_96 er1_97 ep1_98)] ++ ([] : va_W))) H := ty_permP (w1 := (([(rf_RW ct 0 bt 800 b)] ++ [(ty_RD rd bt ln tg (rp_sk b ln pl1_95) ws1_96 er1_97 ep1_98)]) ++ ws_94)) hP ty_mv2
            have hD : va_D A (([(rf_RW ct 0 bt 800 b)] ++ ws_94) ++ ([(ty_RD rd bt ln tg (rp_sk b ln pl1_95) ws1_96 er1_97 ep1_98)] ++ ([] : va_W))) := ty_permD (w1 := (([(rf_RW ct 0 bt 800 b)] ++ [(ty_RD rd bt ln tg (rp_sk b ln pl1_95) ws1_96 er1_97 ep1_98)]) ++ ws_94)) hD ty_mv2
            refine ty_kv (wr := ([(rf_RW ct 0 bt 800 b)] ++ ws_94)) (wc := ([(ty_RD rd bt ln tg (rp_sk b ln pl1_95) ws1_96 er1_97 ep1_98)] ++ ([] : va_W))) (va_runV (As := [.int 1, .int (rp_sk b ln pl1_95)]) (rest := []) ⟨hx, hb, hml, hown, hts⟩ (r_fail l D ct (fun _ => none) [] (fun _ => True) (fun _ _ _ => True) rd bt tg ln (rp_sk b ln pl1_95) ws1_96 er1_97 ep1_98 (1 : Int32) (rp_sk b ln pl1_95) _ ty_V0 ty_C0 ty_y10 (by decide)) (cm_V 2 hts kc_X6_fail ki_RX6 kl_RX6_68 kv_X6_fail kx_X6_fail kd_X6_fail ⟨Nat.le_of_ble_eq_true rfl, Nat.le_of_ble_eq_true rfl⟩) (ty_preE (wr := ([(rf_RW ct 0 bt 800 b)] ++ ws_94)) (wc := ([(ty_RD rd bt ln tg (rp_sk b ln pl1_95) ws1_96 er1_97 ep1_98)] ++ ([] : va_W))) (ci := 6) (q0 := (([(rf_RW ct 0 bt 800 b)] ++ ws_94) : va_W).length + 0) hP hK hD hS hA hX rfl (ty_app rfl)) rfl rfl hl.1 rfl (lv_room (Nat.le_of_ble_eq_true rfl)) dX6_readText_129 ⟨Nat.le_of_ble_eq_true rfl, Nat.le_of_ble_eq_true rfl⟩) hP hD hS hA (fun u H locs hw_115 hP hD hS => ?_)
            obtain ⟨ws_116, er1_117, ep1_118⟩ := u
            obtain ⟨hT9_119, hp_120⟩ := hw_115
            have hp_120 : rp_o er1_97 ep1_98 er1_117 ep1_118 (1 : Int32) (rp_sk b ln pl1_95) True := hp_120
            have hP : va_P D vwCl ([(rf_RW ct 0 bt 800 b), (ty_RD rd bt ln tg (rp_sk b ln pl1_95) ws1_96 er1_117 ep1_118)] ++ ws_94) H := ty_bkP hP
            have hD : va_D A ([(rf_RW ct 0 bt 800 b), (ty_RD rd bt ln tg (rp_sk b ln pl1_95) ws1_96 er1_117 ep1_118)] ++ ws_94) := ty_bkD hD
            have hP : va_P D vwCl ([(ty_RD rd bt ln tg (rp_sk b ln pl1_95) ws1_96 er1_117 ep1_118), (rf_RW ct 0 bt 800 b)] ++ ws_94) H := ty_permP hP (ty_ordp (E := [(rf_RW ct 0 bt 800 b), (ty_RD rd bt ln tg (rp_sk b ln pl1_95) ws1_96 er1_117 ep1_118)]) (E2 := [(ty_RD rd bt ln tg (rp_sk b ln pl1_95) ws1_96 er1_117 ep1_118), (rf_RW ct 0 bt 800 b)]) (n := 2) [1, 0] rfl rfl (by decide))
            have hD : va_D A ([(ty_RD rd bt ln tg (rp_sk b ln pl1_95) ws1_96 er1_117 ep1_118), (rf_RW ct 0 bt 800 b)] ++ ws_94) := ty_permD hD (ty_ordp (E := [(rf_RW ct 0 bt 800 b), (ty_RD rd bt ln tg (rp_sk b ln pl1_95) ws1_96 er1_117 ep1_118)]) (E2 := [(ty_RD rd bt ln tg (rp_sk b ln pl1_95) ws1_96 er1_117 ep1_118), (rf_RW ct 0 bt 800 b)]) (n := 2) [1, 0] rfl rfl (by decide))
            exact W.vret hx hb hr (fun t ht hW => ⟨⟨(ws_94, (rp_sk b ln pl1_95), ws1_96, er1_117, ep1_118, cnt_5, nc1_99, np_7, nf_8), rfl, ⟨hT, rp_e1 hex_2.2.1 (by omega) rfl hso_103 hc_112 hp_120⟩, by rw [ht]; exact hP, by rw [hAe]; exact hD⟩, hS.F ht⟩) hS.2.2 dX6_readText_132
        · subst hc_112
          refine lv_aload_n hx hb dX6_readText_84 rfl (lv_at hl 0 rfl) ?_
          have hP : va_P D vwCl (([] ++ ws_94) ++ ([(ty_RD rd bt ln tg (rp_sk b ln pl1_95) ws1_96 (0) ep1_98), (rf_RW ct 0 bt 800 b)] ++ ([] : va_W))) H := ty_permP (w1 := (([] ++ [(ty_RD rd bt ln tg (rp_sk b ln pl1_95) ws1_96 (0) ep1_98), (rf_RW ct 0 bt 800 b)]) ++ ws_94)) hP ty_mv2
          have hD : va_D A (([] ++ ws_94) ++ ([(ty_RD rd bt ln tg (rp_sk b ln pl1_95) ws1_96 (0) ep1_98), (rf_RW ct 0 bt 800 b)] ++ ([] : va_W))) := ty_permD (w1 := (([] ++ [(ty_RD rd bt ln tg (rp_sk b ln pl1_95) ws1_96 (0) ep1_98), (rf_RW ct 0 bt 800 b)]) ++ ws_94)) hD ty_mv2
          refine ty_ki (wr := ([] ++ ws_94)) (wc := ([(ty_RD rd bt ln tg (rp_sk b ln pl1_95) ws1_96 (0) ep1_98), (rf_RW ct 0 bt 800 b)] ++ ([] : va_W))) (va_runV (As := []) (rest := []) ⟨hx, hb, hml, hown, hts⟩ (r_next l D ct (fun _ => none) [] (fun _ => True) (fun _ _ _ => True) rd bt tg ln (rp_sk b ln pl1_95) ws1_96 (0 : Int32) ep1_98 b _ ty_V0 ty_C0 ty_y10 hln (by omega)) (cm_V 0 hts kc_X6_next ki_RX6 kl_RX6_61 kv_X6_next kx_X6_next kd_X6_next ⟨Nat.le_of_ble_eq_true rfl, Nat.le_of_ble_eq_true rfl⟩) (ty_preE (wr := ([] ++ ws_94)) (wc := ([(ty_RD rd bt ln tg (rp_sk b ln pl1_95) ws1_96 (0) ep1_98), (rf_RW ct 0 bt 800 b)] ++ ([] : va_W))) (ci := 6) (q0 := (([] ++ ws_94) : va_W).length + 0) hP hK hD hS hA hX rfl (ty_app rfl)) rfl rfl hl.1 rfl (lv_room (Nat.le_of_ble_eq_true rfl)) dX6_readText_85 ⟨Nat.le_of_ble_eq_true rfl, Nat.le_of_ble_eq_true rfl⟩) hP hD hS hA (fun r_121 u H locs hw_122 hP hD hS => ?_)
          obtain ⟨ws_123, rfl⟩ : ∃ z, z = u := ⟨_, rfl⟩
          obtain ⟨hT9_124, rfl⟩ := hw_122
          have hP : va_P D vwCl ([(ty_RD rd bt ln tg (rp_sk b ln pl1_95) ws1_96 (0) ep1_98), (rf_RW ct 0 bt 800 b)] ++ ws_94) H := ty_bkP hP
          have hD : va_D A ([(ty_RD rd bt ln tg (rp_sk b ln pl1_95) ws1_96 (0) ep1_98), (rf_RW ct 0 bt 800 b)] ++ ws_94) := ty_bkD hD
          refine lv_bipush (v := 59) hx hb dX6_readText_88 (by decide) ?_
          refine lv_icmp_eq (tgt := 96) hx hb dX6_readText_90 (by decide) (fun hc_125 => ?_) (fun hc_125 => ?_)
          · refine lv_aload_n hx hb dX6_readText_96 rfl (lv_at hl 0 rfl) ?_
            refine lv_dup hx hb dX6_readText_97 rfl ?_
            refine va_get (v := .int (rp_sk b ln pl1_95)) (D := D) (ci := 6) (C := RX6) (T := TX6) (N := 7) hx hb hts in_X6 hown hK hP 0 rfl rfl 3 (by decide) (hts _ kl_RX6_65) (fun _ h9 => h9) rfl dX6_readText_98 ?_
            refine lv_iconst (v := 1) hx hb dX6_readText_101 (by decide) ?_
            refine lv_iadd hx hb dX6_readText_102 ?_
            refine va_put (v := .int ((rp_sk b ln pl1_95) + 1)) (ty := .int) (D := D) (ci := 6) (C := RX6) (T := TX6) (N := 7) hx hb hts in_X6 tyX6 tyX6_ok nmX6 hown hK hP hD hS 0 rfl rfl 3 (by decide) (hts _ kl_RX6_65) (fun _ h9 => h9) rfl (by decide +kernel) rfl rfl (Nat.le_of_ble_eq_true rfl) dX6_readText_103 (fun H locs hP hD hS => ?_)
            have hP : va_P D vwCl ([(ty_RD rd bt ln tg ((rp_sk b ln pl1_95) + 1) ws1_96 (0) ep1_98), (rf_RW ct 0 bt 800 b)] ++ ws_94) H := hP
            have hD : va_D A ([(ty_RD rd bt ln tg ((rp_sk b ln pl1_95) + 1) ws1_96 (0) ep1_98), (rf_RW ct 0 bt 800 b)] ++ ws_94) := hD
            refine lv_iinc (v := (y_1 + Int32.ofInt 1)) (lv' := [(1, .int (y_1 + Int32.ofInt 1)), (0, .ref rd)]) hx hb dX6_readText_106 hl (k := 1) rfl rfl (by decide) rfl (fun ls hl => ?_)
            refine lv_goto (tgt := 2) hx hb dX6_readText_109 (by decide) ?_
            exact ih_2 _ _ _ _ (ty_inc (N := 801) (by rw [Int32.lt_iff_toInt_lt, show (801 : Int32).toInt = 801 from by decide]; omega)) ⟨ws_94, (y_1 + Int32.ofInt 1), ((rp_sk b ln pl1_95) + 1), ws1_96, ep1_98, cnt_5, nc1_99, np_7, nf_8, N_9, rfl, hT, hP, hD, hS, (lv_sub hl [1, 0] rfl), rp_xn hex_2.2.1 hln.2 (by omega) rfl hso_103 hc_125⟩
          · refine lv_goto (tgt := 112) hx hb dX6_readText_93 (by decide) ?_
            refine lv_aload_n hx hb dX6_readText_112 rfl (lv_at hl 0 rfl) ?_
            refine va_get (v := .int (rp_sk b ln pl1_95)) (D := D) (ci := 6) (C := RX6) (T := TX6) (N := 7) hx hb hts in_X6 hown hK hP 0 rfl rfl 3 (by decide) (hts _ kl_RX6_65) (fun _ h9 => h9) rfl dX6_readText_113 ?_
            refine lv_aload_n hx hb dX6_readText_116 rfl (lv_at hl 0 rfl) ?_
            refine va_get (v := .int ln) (D := D) (ci := 6) (C := RX6) (T := TX6) (N := 7) hx hb hts in_X6 hown hK hP 0 rfl rfl 1 (by decide) (hts _ kl_RX6_15) (fun _ h9 => h9) rfl dX6_readText_117 ?_
            refine lv_icmp_ge (tgt := 132) hx hb dX6_readText_120 (by decide) (fun hc_126 => ?_) (fun hc_126 => ?_)
            · exact W.vret hx hb hr (fun t ht hW => ⟨⟨(ws_94, (rp_sk b ln pl1_95), ws1_96, (0 : Int32), ep1_98, cnt_5, nc1_99, np_7, nf_8), rfl, ⟨hT, rp_e3 hex_2.2.1 (by omega) rfl hso_103 hc_125 hc_126⟩, by rw [ht]; exact hP, by rw [hAe]; exact hD⟩, hS.F ht⟩) hS.2.2 dX6_readText_132
            · refine lv_aload_n hx hb dX6_readText_123 rfl (lv_at hl 0 rfl) ?_
              refine lv_iconst (v := 1) hx hb dX6_readText_124 (by decide) ?_
              refine lv_aload_n hx hb dX6_readText_125 rfl (lv_at hl 0 rfl) ?_
              refine va_get (v := .int (rp_sk b ln pl1_95)) (D := D) (ci := 6) (C := RX6) (T := TX6) (N := 7) hx hb hts in_X6 hown hK hP 0 rfl rfl 3 (by decide) (hts _ kl_RX6_65) (fun _ h9 => h9) rfl dX6_readText_126 ?_
              have hP : va_P D vwCl ([(rf_RW ct 0 bt 800 b), (ty_RD rd bt ln tg (rp_sk b ln pl1_95) ws1_96 (0) ep1_98)] ++ ws_94) H := ty_permP hP (ty_ordp (E := [(ty_RD rd bt ln tg (rp_sk b ln pl1_95) ws1_96 (0) ep1_98), (rf_RW ct 0 bt 800 b)]) (E2 := [(rf_RW ct 0 bt 800 b), (ty_RD rd bt ln tg (rp_sk b ln pl1_95) ws1_96 (0) ep1_98)]) (n := 2) [1, 0] rfl rfl (by decide))
              have hD : va_D A ([(rf_RW ct 0 bt 800 b), (ty_RD rd bt ln tg (rp_sk b ln pl1_95) ws1_96 (0) ep1_98)] ++ ws_94) := ty_permD hD (ty_ordp (E := [(ty_RD rd bt ln tg (rp_sk b ln pl1_95) ws1_96 (0) ep1_98), (rf_RW ct 0 bt 800 b)]) (E2 := [(rf_RW ct 0 bt 800 b), (ty_RD rd bt ln tg (rp_sk b ln pl1_95) ws1_96 (0) ep1_98)]) (n := 2) [1, 0] rfl rfl (by decide))
              have hP : va_P D vwCl (([(rf_RW ct 0 bt 800 b)] ++ ws_94) ++ ([(ty_RD rd bt ln tg (rp_sk b ln pl1_95) ws1_96 (0) ep1_98)] ++ ([] : va_W))) H := ty_permP (w1 := (([(rf_RW ct 0 bt 800 b)] ++ [(ty_RD rd bt ln tg (rp_sk b ln pl1_95) ws1_96 (0) ep1_98)]) ++ ws_94)) hP ty_mv2
              have hD : va_D A (([(rf_RW ct 0 bt 800 b)] ++ ws_94) ++ ([(ty_RD rd bt ln tg (rp_sk b ln pl1_95) ws1_96 (0) ep1_98)] ++ ([] : va_W))) := ty_permD (w1 := (([(rf_RW ct 0 bt 800 b)] ++ [(ty_RD rd bt ln tg (rp_sk b ln pl1_95) ws1_96 (0) ep1_98)]) ++ ws_94)) hD ty_mv2
              refine ty_kv (wr := ([(rf_RW ct 0 bt 800 b)] ++ ws_94)) (wc := ([(ty_RD rd bt ln tg (rp_sk b ln pl1_95) ws1_96 (0) ep1_98)] ++ ([] : va_W))) (va_runV (As := [.int 1, .int (rp_sk b ln pl1_95)]) (rest := []) ⟨hx, hb, hml, hown, hts⟩ (r_fail l D ct (fun _ => none) [] (fun _ => True) (fun _ _ _ => True) rd bt tg ln (rp_sk b ln pl1_95) ws1_96 (0 : Int32) ep1_98 (1 : Int32) (rp_sk b ln pl1_95) _ ty_V0 ty_C0 ty_y10 (by decide)) (cm_V 2 hts kc_X6_fail ki_RX6 kl_RX6_68 kv_X6_fail kx_X6_fail kd_X6_fail ⟨Nat.le_of_ble_eq_true rfl, Nat.le_of_ble_eq_true rfl⟩) (ty_preE (wr := ([(rf_RW ct 0 bt 800 b)] ++ ws_94)) (wc := ([(ty_RD rd bt ln tg (rp_sk b ln pl1_95) ws1_96 (0) ep1_98)] ++ ([] : va_W))) (ci := 6) (q0 := (([(rf_RW ct 0 bt 800 b)] ++ ws_94) : va_W).length + 0) hP hK hD hS hA hX rfl (ty_app rfl)) rfl rfl hl.1 rfl (lv_room (Nat.le_of_ble_eq_true rfl)) dX6_readText_129 ⟨Nat.le_of_ble_eq_true rfl, Nat.le_of_ble_eq_true rfl⟩) hP hD hS hA (fun u H locs hw_128 hP hD hS => ?_)
              obtain ⟨ws_129, er1_130, ep1_131⟩ := u
              obtain ⟨hT9_132, hp_133⟩ := hw_128
              have hp_133 : rp_o (0 : Int32) ep1_98 er1_130 ep1_131 (1 : Int32) (rp_sk b ln pl1_95) True := hp_133
              have hP : va_P D vwCl ([(rf_RW ct 0 bt 800 b), (ty_RD rd bt ln tg (rp_sk b ln pl1_95) ws1_96 er1_130 ep1_131)] ++ ws_94) H := ty_bkP hP
              have hD : va_D A ([(rf_RW ct 0 bt 800 b), (ty_RD rd bt ln tg (rp_sk b ln pl1_95) ws1_96 er1_130 ep1_131)] ++ ws_94) := ty_bkD hD
              have hP : va_P D vwCl ([(ty_RD rd bt ln tg (rp_sk b ln pl1_95) ws1_96 er1_130 ep1_131), (rf_RW ct 0 bt 800 b)] ++ ws_94) H := ty_permP hP (ty_ordp (E := [(rf_RW ct 0 bt 800 b), (ty_RD rd bt ln tg (rp_sk b ln pl1_95) ws1_96 er1_130 ep1_131)]) (E2 := [(ty_RD rd bt ln tg (rp_sk b ln pl1_95) ws1_96 er1_130 ep1_131), (rf_RW ct 0 bt 800 b)]) (n := 2) [1, 0] rfl rfl (by decide))
              have hD : va_D A ([(ty_RD rd bt ln tg (rp_sk b ln pl1_95) ws1_96 er1_130 ep1_131), (rf_RW ct 0 bt 800 b)] ++ ws_94) := ty_permD hD (ty_ordp (E := [(rf_RW ct 0 bt 800 b), (ty_RD rd bt ln tg (rp_sk b ln pl1_95) ws1_96 er1_130 ep1_131)]) (E2 := [(ty_RD rd bt ln tg (rp_sk b ln pl1_95) ws1_96 er1_130 ep1_131), (rf_RW ct 0 bt 800 b)]) (n := 2) [1, 0] rfl rfl (by decide))
              exact W.vret hx hb hr (fun t ht hW => ⟨⟨(ws_94, (rp_sk b ln pl1_95), ws1_96, er1_130, ep1_131, cnt_5, nc1_99, np_7, nf_8), rfl, ⟨hT, rp_e2 hex_2.2.1 (by omega) rfl hso_103 hc_125 hby (by omega) hc_126 hp_133⟩, by rw [ht]; exact hP, by rw [hAe]; exact hD⟩, hS.F ht⟩) hS.2.2 dX6_readText_132
      · refine lv_if_eq (tgt := 46) hx hb dX6_readText_36 (by decide) (fun _ => ?_) (fun hc => absurd (by decide) hc)
        refine lv_aload_n hx hb dX6_readText_46 rfl (lv_at hl 0 rfl) ?_
        obtain ⟨sa_134, sv_135, hsr_136, hss_137⟩ := hX.2.2.2.1 ("CellCycler$Reader", 40, "program", [112, 114, 111, 103, 114, 97, 109]) (by decide +kernel)
        refine va_ldcS hx hb hown hsr_136 dX6_readText_47 ?_
        have hP : va_P D vwCl (([] ++ ws) ++ ([(ty_RD rd bt ln tg (rp_we b ln (rp_sk b ln y_2)) (rp_sk b ln y_2) er1_16 ep1_17), (rf_RW ct 0 bt 800 b)] ++ ([] : va_W))) H := ty_permP (w1 := (([] ++ [(ty_RD rd bt ln tg (rp_we b ln (rp_sk b ln y_2)) (rp_sk b ln y_2) er1_16 ep1_17), (rf_RW ct 0 bt 800 b)]) ++ ws)) hP ty_mv2
        have hD : va_D A (([] ++ ws) ++ ([(ty_RD rd bt ln tg (rp_we b ln (rp_sk b ln y_2)) (rp_sk b ln y_2) er1_16 ep1_17), (rf_RW ct 0 bt 800 b)] ++ ([] : va_W))) := ty_permD (w1 := (([] ++ [(ty_RD rd bt ln tg (rp_we b ln (rp_sk b ln y_2)) (rp_sk b ln y_2) er1_16 ep1_17), (rf_RW ct 0 bt 800 b)]) ++ ws)) hD ty_mv2
        refine ty_ki (wr := ([] ++ ws)) (wc := ([(ty_RD rd bt ln tg (rp_we b ln (rp_sk b ln y_2)) (rp_sk b ln y_2) er1_16 ep1_17), (rf_RW ct 0 bt 800 b)] ++ ([] : va_W))) (va_runV (As := [.ref sa_134]) (rest := []) ⟨hx, hb, hml, hown, hts⟩ (r_wordIs l D ct (fun _ => none) [] (fun _ => True) (fun _ _ _ => True) rd bt tg ln (rp_we b ln (rp_sk b ln y_2)) (rp_sk b ln y_2) er1_16 ep1_17 b sa_134 ("CellCycler$Reader", 40, "program", [112, 114, 111, 103, 114, 97, 109]) _ ty_V0 ty_C0 ty_y10 hln (by omega) (by omega) (by decide +kernel)) (cm_V 1 hts kc_X6_wordIs ki_RX6 kl_RX6_28 kv_X6_wordIs kx_X6_wordIs kd_X6_wordIs ⟨Nat.le_of_ble_eq_true rfl, Nat.le_of_ble_eq_true rfl⟩) (cm_preVs (ty_preE (wr := ([] ++ ws)) (wc := ([(ty_RD rd bt ln tg (rp_we b ln (rp_sk b ln y_2)) (rp_sk b ln y_2) er1_16 ep1_17), (rf_RW ct 0 bt 800 b)] ++ ([] : va_W))) (ci := 6) (q0 := (([] ++ ws) : va_W).length + 0) hP hK hD hS hA hX rfl (ty_app rfl)) hsr_136) rfl rfl hl.1 rfl (lv_room (Nat.le_of_ble_eq_true rfl)) dX6_readText_49 ⟨Nat.le_of_ble_eq_true rfl, Nat.le_of_ble_eq_true rfl⟩) hP hD hS hA (fun r_138 u H locs hw_139 hP hD hS => ?_)
        obtain ⟨ws_140, rfl⟩ : ∃ z, z = u := ⟨_, rfl⟩
        obtain ⟨hT9_141, hp_142⟩ := hw_139
        have hp_142 : ((r_138 = 1 ∧ rp_wd b (rp_sk b ln y_2) (rp_we b ln (rp_sk b ln y_2)) = ("CellCycler$Reader", 40, "program", [112, 114, 111, 103, 114, 97, 109]).2.2.2) ∨ (r_138 = 0 ∧ ¬ rp_wd b (rp_sk b ln y_2) (rp_we b ln (rp_sk b ln y_2)) = ("CellCycler$Reader", 40, "program", [112, 114, 111, 103, 114, 97, 109]).2.2.2)) := hp_142
        have hP : va_P D vwCl ([(ty_RD rd bt ln tg (rp_we b ln (rp_sk b ln y_2)) (rp_sk b ln y_2) er1_16 ep1_17), (rf_RW ct 0 bt 800 b)] ++ ws) H := ty_bkP hP
        have hD : va_D A ([(ty_RD rd bt ln tg (rp_we b ln (rp_sk b ln y_2)) (rp_sk b ln y_2) er1_16 ep1_17), (rf_RW ct 0 bt 800 b)] ++ ws) := ty_bkD hD
        rcases hp_142 with ⟨rfl, hz_143⟩ | ⟨rfl, hz_144⟩
        · refine lv_if_eq (tgt := 62) hx hb dX6_readText_52 (by decide) (fun hc => absurd hc (by decide)) (fun _ => ?_)
          obtain ⟨hke_146, hkp_147⟩ := rp_wk0 rfl ho_20 (rp_wl hQ hz_143)
          subst hke_146
          refine lv_aload_n hx hb dX6_readText_55 rfl (lv_at hl 0 rfl) ?_
          refine ty_kv (wr := []) (wc := ([(ty_RD rd bt ln tg (rp_we b ln (rp_sk b ln y_2)) (rp_sk b ln y_2) (0) ep1_17), (rf_RW ct 0 bt 800 b)] ++ ws)) (va_runV (As := []) (rest := []) ⟨hx, hb, hml, hown, hts⟩ (r_readProgram l D ct S ws rd bt tg ln (rp_we b ln (rp_sk b ln y_2)) (rp_sk b ln y_2) (0 : Int32) ep1_17 b ps cu na pr ch cnt_5 nc_6 np_7 nf_8 _ hT h_tg h_pr hln (by omega) rfl (by omega) rfl hex_2.2.2.2.2) (cm_V 0 hts kc_X6_readProgram ki_RX6 kl_RX6_42 kv_X6_readProgram kx_X6_readProgram kd_X6_readProgram ⟨Nat.le_of_ble_eq_true rfl, Nat.le_of_ble_eq_true rfl⟩) (ty_preE (wr := []) (wc := ([(ty_RD rd bt ln tg (rp_we b ln (rp_sk b ln y_2)) (rp_sk b ln y_2) (0) ep1_17), (rf_RW ct 0 bt 800 b)] ++ ws)) (ci := 6) (q0 := 0) hP hK hD hS hA hX rfl rfl) rfl rfl hl.1 rfl (lv_room (Nat.le_of_ble_eq_true rfl)) dX6_readText_56 ⟨Nat.le_of_ble_eq_true rfl, Nat.le_of_ble_eq_true rfl⟩) hP hD hS hA (fun u H locs hw_149 hP hD hS => ?_)
          obtain ⟨ws_150, pl1_151, ws1_152, er1_153, ep1_154, np1_155⟩ := u
          obtain ⟨hT, hp_156⟩ := hw_149
          have hp_156 : (0 ≤ pl1_151.toInt ∧ pl1_151.toInt ≤ ln.toInt) ∧ rp_o (0 : Int32) ep1_17 er1_153 ep1_154 (rp_gk b ln np_7.toInt (rp_sk b ln y_2)) (rp_gp b ln np_7.toInt (rp_sk b ln y_2)) (np1_155 = np_7 + 1 ∧ rp_sk b ln pl1_151 = rp_sk b ln (rp_gp b ln np_7.toInt (rp_sk b ln y_2))) := hp_156
          have hP : va_P D vwCl ([(ty_RD rd bt ln tg pl1_151 ws1_152 er1_153 ep1_154), (rf_RW ct 0 bt 800 b)] ++ ws_150) H := hP
          have hD : va_D A ([(ty_RD rd bt ln tg pl1_151 ws1_152 er1_153 ep1_154), (rf_RW ct 0 bt 800 b)] ++ ws_150) := hD
          obtain ⟨hb_157, ho_158⟩ := hp_156
          rw [hkp_147] at ho_158
          have hso_159 := rp_s3 (show rp_wh b ln (rp_sk b ln y_2) = 3 from (((if_neg hz_31).trans (if_neg hz_88)).trans (if_pos hz_143))) hex_2.2.2.1 hex_2.2.2.2.1 hex_2.2.2.2.2 ho_158
          refine lv_goto (tgt := 73) hx hb dX6_readText_59 (by decide) ?_
          refine lv_aload_n hx hb dX6_readText_73 rfl (lv_at hl 0 rfl) ?_
          have hP : va_P D vwCl (([] ++ ws_150) ++ ([(ty_RD rd bt ln tg pl1_151 ws1_152 er1_153 ep1_154), (rf_RW ct 0 bt 800 b)] ++ ([] : va_W))) H := ty_permP (w1 := (([] ++ [(ty_RD rd bt ln tg pl1_151 ws1_152 er1_153 ep1_154), (rf_RW ct 0 bt 800 b)]) ++ ws_150)) hP ty_mv2
          have hD : va_D A (([] ++ ws_150) ++ ([(ty_RD rd bt ln tg pl1_151 ws1_152 er1_153 ep1_154), (rf_RW ct 0 bt 800 b)] ++ ([] : va_W))) := ty_permD (w1 := (([] ++ [(ty_RD rd bt ln tg pl1_151 ws1_152 er1_153 ep1_154), (rf_RW ct 0 bt 800 b)]) ++ ws_150)) hD ty_mv2
          refine ty_kv (wr := ([] ++ ws_150)) (wc := ([(ty_RD rd bt ln tg pl1_151 ws1_152 er1_153 ep1_154), (rf_RW ct 0 bt 800 b)] ++ ([] : va_W))) (va_runV (As := []) (rest := []) ⟨hx, hb, hml, hown, hts⟩ (r_skip l D ct (fun _ => none) [] (fun _ => True) (fun _ _ _ => True) rd bt tg ln pl1_151 ws1_152 er1_153 ep1_154 b _ ty_V0 ty_C0 ty_y10 hln hb_157) (cm_V 0 hts kc_X6_skipSpaces ki_RX6 kl_RX6_55 kv_X6_skipSpaces kx_X6_skipSpaces kd_X6_skipSpaces ⟨Nat.le_of_ble_eq_true rfl, Nat.le_of_ble_eq_true rfl⟩) (ty_preE (wr := ([] ++ ws_150)) (wc := ([(ty_RD rd bt ln tg pl1_151 ws1_152 er1_153 ep1_154), (rf_RW ct 0 bt 800 b)] ++ ([] : va_W))) (ci := 6) (q0 := (([] ++ ws_150) : va_W).length + 0) hP hK hD hS hA hX rfl (ty_app rfl)) rfl rfl hl.1 rfl (lv_room (Nat.le_of_ble_eq_true rfl)) dX6_readText_74 ⟨Nat.le_of_ble_eq_true rfl, Nat.le_of_ble_eq_true rfl⟩) hP hD hS hA (fun u H locs hw_161 hP hD hS => ?_)
          obtain ⟨ws_162, pl1_163⟩ := u
          obtain ⟨hT9_164, hp_165⟩ := hw_161
          have hp_165 : pl1_163 = (rp_sk b ln pl1_151) := hp_165
          have hP : va_P D vwCl ([(ty_RD rd bt ln tg pl1_163 ws1_152 er1_153 ep1_154), (rf_RW ct 0 bt 800 b)] ++ ws_150) H := ty_bkP hP
          have hD : va_D A ([(ty_RD rd bt ln tg pl1_163 ws1_152 er1_153 ep1_154), (rf_RW ct 0 bt 800 b)] ++ ws_150) := ty_bkD hD
          obtain rfl := hp_165
          have hs_167 := rp_sk_b (b := b) (p := pl1_151) hln.2 hb_157
          refine lv_aload_n hx hb dX6_readText_77 rfl (lv_at hl 0 rfl) ?_
          refine va_get (v := .int er1_153) (D := D) (ci := 6) (C := RX6) (T := TX6) (N := 7) hx hb hts in_X6 hown hK hP 0 rfl rfl 5 (by decide) (hts _ kl_RX6_58) (fun _ h9 => h9) rfl dX6_readText_78 ?_
          refine lv_if_ne (tgt := 112) hx hb dX6_readText_81 (by decide) (fun hc_168 => ?_) (fun hc_168 => ?_)
          · refine lv_aload_n hx hb dX6_readText_112 rfl (lv_at hl 0 rfl) ?_
            refine va_get (v := .int (rp_sk b ln pl1_151)) (D := D) (ci := 6) (C := RX6) (T := TX6) (N := 7) hx hb hts in_X6 hown hK hP 0 rfl rfl 3 (by decide) (hts _ kl_RX6_65) (fun _ h9 => h9) rfl dX6_readText_113 ?_
            refine lv_aload_n hx hb dX6_readText_116 rfl (lv_at hl 0 rfl) ?_
            refine va_get (v := .int ln) (D := D) (ci := 6) (C := RX6) (T := TX6) (N := 7) hx hb hts in_X6 hown hK hP 0 rfl rfl 1 (by decide) (hts _ kl_RX6_15) (fun _ h9 => h9) rfl dX6_readText_117 ?_
            refine lv_icmp_ge (tgt := 132) hx hb dX6_readText_120 (by decide) (fun hc_169 => ?_) (fun hc_169 => ?_)
            · exact W.vret hx hb hr (fun t ht hW => ⟨⟨(ws_150, (rp_sk b ln pl1_151), ws1_152, er1_153, ep1_154, cnt_5, nc_6, np1_155, nf_8), rfl, ⟨hT, rp_e1n hex_2.2.1 (by omega) rfl hso_159 hc_168⟩, by rw [ht]; exact hP, by rw [hAe]; exact hD⟩, hS.F ht⟩) hS.2.2 dX6_readText_132
            · refine lv_aload_n hx hb dX6_readText_123 rfl (lv_at hl 0 rfl) ?_
              refine lv_iconst (v := 1) hx hb dX6_readText_124 (by decide) ?_
              refine lv_aload_n hx hb dX6_readText_125 rfl (lv_at hl 0 rfl) ?_
              refine va_get (v := .int (rp_sk b ln pl1_151)) (D := D) (ci := 6) (C := RX6) (T := TX6) (N := 7) hx hb hts in_X6 hown hK hP 0 rfl rfl 3 (by decide) (hts _ kl_RX6_65) (fun _ h9 => h9) rfl dX6_readText_126 ?_
              have hP : va_P D vwCl ([(rf_RW ct 0 bt 800 b), (ty_RD rd bt ln tg (rp_sk b ln pl1_151) ws1_152 er1_153 ep1_154)] ++ ws_150) H := ty_permP hP (ty_ordp (E := [(ty_RD rd bt ln tg (rp_sk b ln pl1_151) ws1_152 er1_153 ep1_154), (rf_RW ct 0 bt 800 b)]) (E2 := [(rf_RW ct 0 bt 800 b), (ty_RD rd bt ln tg (rp_sk b ln pl1_151) ws1_152 er1_153 ep1_154)]) (n := 2) [1, 0] rfl rfl (by decide))
              have hD : va_D A ([(rf_RW ct 0 bt 800 b), (ty_RD rd bt ln tg (rp_sk b ln pl1_151) ws1_152 er1_153 ep1_154)] ++ ws_150) := ty_permD hD (ty_ordp (E := [(ty_RD rd bt ln tg (rp_sk b ln pl1_151) ws1_152 er1_153 ep1_154), (rf_RW ct 0 bt 800 b)]) (E2 := [(rf_RW ct 0 bt 800 b), (ty_RD rd bt ln tg (rp_sk b ln pl1_151) ws1_152 er1_153 ep1_154)]) (n := 2) [1, 0] rfl rfl (by decide))
              have hP : va_P D vwCl (([(rf_RW ct 0 bt 800 b)] ++ ws_150) ++ ([(ty_RD rd bt ln tg (rp_sk b ln pl1_151) ws1_152 er1_153 ep1_154)] ++ ([] : va_W))) H := ty_permP (w1 := (([(rf_RW ct 0 bt 800 b)] ++ [(ty_RD rd bt ln tg (rp_sk b ln pl1_151) ws1_152 er1_153 ep1_154)]) ++ ws_150)) hP ty_mv2
              have hD : va_D A (([(rf_RW ct 0 bt 800 b)] ++ ws_150) ++ ([(ty_RD rd bt ln tg (rp_sk b ln pl1_151) ws1_152 er1_153 ep1_154)] ++ ([] : va_W))) := ty_permD (w1 := (([(rf_RW ct 0 bt 800 b)] ++ [(ty_RD rd bt ln tg (rp_sk b ln pl1_151) ws1_152 er1_153 ep1_154)]) ++ ws_150)) hD ty_mv2
              refine ty_kv (wr := ([(rf_RW ct 0 bt 800 b)] ++ ws_150)) (wc := ([(ty_RD rd bt ln tg (rp_sk b ln pl1_151) ws1_152 er1_153 ep1_154)] ++ ([] : va_W))) (va_runV (As := [.int 1, .int (rp_sk b ln pl1_151)]) (rest := []) ⟨hx, hb, hml, hown, hts⟩ (r_fail l D ct (fun _ => none) [] (fun _ => True) (fun _ _ _ => True) rd bt tg ln (rp_sk b ln pl1_151) ws1_152 er1_153 ep1_154 (1 : Int32) (rp_sk b ln pl1_151) _ ty_V0 ty_C0 ty_y10 (by decide)) (cm_V 2 hts kc_X6_fail ki_RX6 kl_RX6_68 kv_X6_fail kx_X6_fail kd_X6_fail ⟨Nat.le_of_ble_eq_true rfl, Nat.le_of_ble_eq_true rfl⟩) (ty_preE (wr := ([(rf_RW ct 0 bt 800 b)] ++ ws_150)) (wc := ([(ty_RD rd bt ln tg (rp_sk b ln pl1_151) ws1_152 er1_153 ep1_154)] ++ ([] : va_W))) (ci := 6) (q0 := (([(rf_RW ct 0 bt 800 b)] ++ ws_150) : va_W).length + 0) hP hK hD hS hA hX rfl (ty_app rfl)) rfl rfl hl.1 rfl (lv_room (Nat.le_of_ble_eq_true rfl)) dX6_readText_129 ⟨Nat.le_of_ble_eq_true rfl, Nat.le_of_ble_eq_true rfl⟩) hP hD hS hA (fun u H locs hw_171 hP hD hS => ?_)
              obtain ⟨ws_172, er1_173, ep1_174⟩ := u
              obtain ⟨hT9_175, hp_176⟩ := hw_171
              have hp_176 : rp_o er1_153 ep1_154 er1_173 ep1_174 (1 : Int32) (rp_sk b ln pl1_151) True := hp_176
              have hP : va_P D vwCl ([(rf_RW ct 0 bt 800 b), (ty_RD rd bt ln tg (rp_sk b ln pl1_151) ws1_152 er1_173 ep1_174)] ++ ws_150) H := ty_bkP hP
              have hD : va_D A ([(rf_RW ct 0 bt 800 b), (ty_RD rd bt ln tg (rp_sk b ln pl1_151) ws1_152 er1_173 ep1_174)] ++ ws_150) := ty_bkD hD
              have hP : va_P D vwCl ([(ty_RD rd bt ln tg (rp_sk b ln pl1_151) ws1_152 er1_173 ep1_174), (rf_RW ct 0 bt 800 b)] ++ ws_150) H := ty_permP hP (ty_ordp (E := [(rf_RW ct 0 bt 800 b), (ty_RD rd bt ln tg (rp_sk b ln pl1_151) ws1_152 er1_173 ep1_174)]) (E2 := [(ty_RD rd bt ln tg (rp_sk b ln pl1_151) ws1_152 er1_173 ep1_174), (rf_RW ct 0 bt 800 b)]) (n := 2) [1, 0] rfl rfl (by decide))
              have hD : va_D A ([(ty_RD rd bt ln tg (rp_sk b ln pl1_151) ws1_152 er1_173 ep1_174), (rf_RW ct 0 bt 800 b)] ++ ws_150) := ty_permD hD (ty_ordp (E := [(rf_RW ct 0 bt 800 b), (ty_RD rd bt ln tg (rp_sk b ln pl1_151) ws1_152 er1_173 ep1_174)]) (E2 := [(ty_RD rd bt ln tg (rp_sk b ln pl1_151) ws1_152 er1_173 ep1_174), (rf_RW ct 0 bt 800 b)]) (n := 2) [1, 0] rfl rfl (by decide))
              exact W.vret hx hb hr (fun t ht hW => ⟨⟨(ws_150, (rp_sk b ln pl1_151), ws1_152, er1_173, ep1_174, cnt_5, nc_6, np1_155, nf_8), rfl, ⟨hT, rp_e1 hex_2.2.1 (by omega) rfl hso_159 hc_168 hp_176⟩, by rw [ht]; exact hP, by rw [hAe]; exact hD⟩, hS.F ht⟩) hS.2.2 dX6_readText_132
          · subst hc_168
            refine lv_aload_n hx hb dX6_readText_84 rfl (lv_at hl 0 rfl) ?_
            have hP : va_P D vwCl (([] ++ ws_150) ++ ([(ty_RD rd bt ln tg (rp_sk b ln pl1_151) ws1_152 (0) ep1_154), (rf_RW ct 0 bt 800 b)] ++ ([] : va_W))) H := ty_permP (w1 := (([] ++ [(ty_RD rd bt ln tg (rp_sk b ln pl1_151) ws1_152 (0) ep1_154), (rf_RW ct 0 bt 800 b)]) ++ ws_150)) hP ty_mv2
            have hD : va_D A (([] ++ ws_150) ++ ([(ty_RD rd bt ln tg (rp_sk b ln pl1_151) ws1_152 (0) ep1_154), (rf_RW ct 0 bt 800 b)] ++ ([] : va_W))) := ty_permD (w1 := (([] ++ [(ty_RD rd bt ln tg (rp_sk b ln pl1_151) ws1_152 (0) ep1_154), (rf_RW ct 0 bt 800 b)]) ++ ws_150)) hD ty_mv2
            refine ty_ki (wr := ([] ++ ws_150)) (wc := ([(ty_RD rd bt ln tg (rp_sk b ln pl1_151) ws1_152 (0) ep1_154), (rf_RW ct 0 bt 800 b)] ++ ([] : va_W))) (va_runV (As := []) (rest := []) ⟨hx, hb, hml, hown, hts⟩ (r_next l D ct (fun _ => none) [] (fun _ => True) (fun _ _ _ => True) rd bt tg ln (rp_sk b ln pl1_151) ws1_152 (0 : Int32) ep1_154 b _ ty_V0 ty_C0 ty_y10 hln (by omega)) (cm_V 0 hts kc_X6_next ki_RX6 kl_RX6_61 kv_X6_next kx_X6_next kd_X6_next ⟨Nat.le_of_ble_eq_true rfl, Nat.le_of_ble_eq_true rfl⟩) (ty_preE (wr := ([] ++ ws_150)) (wc := ([(ty_RD rd bt ln tg (rp_sk b ln pl1_151) ws1_152 (0) ep1_154), (rf_RW ct 0 bt 800 b)] ++ ([] : va_W))) (ci := 6) (q0 := (([] ++ ws_150) : va_W).length + 0) hP hK hD hS hA hX rfl (ty_app rfl)) rfl rfl hl.1 rfl (lv_room (Nat.le_of_ble_eq_true rfl)) dX6_readText_85 ⟨Nat.le_of_ble_eq_true rfl, Nat.le_of_ble_eq_true rfl⟩) hP hD hS hA (fun r_177 u H locs hw_178 hP hD hS => ?_)
            obtain ⟨ws_179, rfl⟩ : ∃ z, z = u := ⟨_, rfl⟩
            obtain ⟨hT9_180, rfl⟩ := hw_178
            have hP : va_P D vwCl ([(ty_RD rd bt ln tg (rp_sk b ln pl1_151) ws1_152 (0) ep1_154), (rf_RW ct 0 bt 800 b)] ++ ws_150) H := ty_bkP hP
            have hD : va_D A ([(ty_RD rd bt ln tg (rp_sk b ln pl1_151) ws1_152 (0) ep1_154), (rf_RW ct 0 bt 800 b)] ++ ws_150) := ty_bkD hD
            refine lv_bipush (v := 59) hx hb dX6_readText_88 (by decide) ?_
            refine lv_icmp_eq (tgt := 96) hx hb dX6_readText_90 (by decide) (fun hc_181 => ?_) (fun hc_181 => ?_)
            · refine lv_aload_n hx hb dX6_readText_96 rfl (lv_at hl 0 rfl) ?_
              refine lv_dup hx hb dX6_readText_97 rfl ?_
              refine va_get (v := .int (rp_sk b ln pl1_151)) (D := D) (ci := 6) (C := RX6) (T := TX6) (N := 7) hx hb hts in_X6 hown hK hP 0 rfl rfl 3 (by decide) (hts _ kl_RX6_65) (fun _ h9 => h9) rfl dX6_readText_98 ?_
              refine lv_iconst (v := 1) hx hb dX6_readText_101 (by decide) ?_
              refine lv_iadd hx hb dX6_readText_102 ?_
              refine va_put (v := .int ((rp_sk b ln pl1_151) + 1)) (ty := .int) (D := D) (ci := 6) (C := RX6) (T := TX6) (N := 7) hx hb hts in_X6 tyX6 tyX6_ok nmX6 hown hK hP hD hS 0 rfl rfl 3 (by decide) (hts _ kl_RX6_65) (fun _ h9 => h9) rfl (by decide +kernel) rfl rfl (Nat.le_of_ble_eq_true rfl) dX6_readText_103 (fun H locs hP hD hS => ?_)
              have hP : va_P D vwCl ([(ty_RD rd bt ln tg ((rp_sk b ln pl1_151) + 1) ws1_152 (0) ep1_154), (rf_RW ct 0 bt 800 b)] ++ ws_150) H := hP
              have hD : va_D A ([(ty_RD rd bt ln tg ((rp_sk b ln pl1_151) + 1) ws1_152 (0) ep1_154), (rf_RW ct 0 bt 800 b)] ++ ws_150) := hD
              refine lv_iinc (v := (y_1 + Int32.ofInt 1)) (lv' := [(1, .int (y_1 + Int32.ofInt 1)), (0, .ref rd)]) hx hb dX6_readText_106 hl (k := 1) rfl rfl (by decide) rfl (fun ls hl => ?_)
              refine lv_goto (tgt := 2) hx hb dX6_readText_109 (by decide) ?_
              exact ih_2 _ _ _ _ (ty_inc (N := 801) (by rw [Int32.lt_iff_toInt_lt, show (801 : Int32).toInt = 801 from by decide]; omega)) ⟨ws_150, (y_1 + Int32.ofInt 1), ((rp_sk b ln pl1_151) + 1), ws1_152, ep1_154, cnt_5, nc_6, np1_155, nf_8, N_9, rfl, hT, hP, hD, hS, (lv_sub hl [1, 0] rfl), rp_xn hex_2.2.1 hln.2 (by omega) rfl hso_159 hc_181⟩
            · refine lv_goto (tgt := 112) hx hb dX6_readText_93 (by decide) ?_
              refine lv_aload_n hx hb dX6_readText_112 rfl (lv_at hl 0 rfl) ?_
              refine va_get (v := .int (rp_sk b ln pl1_151)) (D := D) (ci := 6) (C := RX6) (T := TX6) (N := 7) hx hb hts in_X6 hown hK hP 0 rfl rfl 3 (by decide) (hts _ kl_RX6_65) (fun _ h9 => h9) rfl dX6_readText_113 ?_
              refine lv_aload_n hx hb dX6_readText_116 rfl (lv_at hl 0 rfl) ?_
              refine va_get (v := .int ln) (D := D) (ci := 6) (C := RX6) (T := TX6) (N := 7) hx hb hts in_X6 hown hK hP 0 rfl rfl 1 (by decide) (hts _ kl_RX6_15) (fun _ h9 => h9) rfl dX6_readText_117 ?_
              refine lv_icmp_ge (tgt := 132) hx hb dX6_readText_120 (by decide) (fun hc_182 => ?_) (fun hc_182 => ?_)
              · exact W.vret hx hb hr (fun t ht hW => ⟨⟨(ws_150, (rp_sk b ln pl1_151), ws1_152, (0 : Int32), ep1_154, cnt_5, nc_6, np1_155, nf_8), rfl, ⟨hT, rp_e3 hex_2.2.1 (by omega) rfl hso_159 hc_181 hc_182⟩, by rw [ht]; exact hP, by rw [hAe]; exact hD⟩, hS.F ht⟩) hS.2.2 dX6_readText_132
              · refine lv_aload_n hx hb dX6_readText_123 rfl (lv_at hl 0 rfl) ?_
                refine lv_iconst (v := 1) hx hb dX6_readText_124 (by decide) ?_
                refine lv_aload_n hx hb dX6_readText_125 rfl (lv_at hl 0 rfl) ?_
                refine va_get (v := .int (rp_sk b ln pl1_151)) (D := D) (ci := 6) (C := RX6) (T := TX6) (N := 7) hx hb hts in_X6 hown hK hP 0 rfl rfl 3 (by decide) (hts _ kl_RX6_65) (fun _ h9 => h9) rfl dX6_readText_126 ?_
                have hP : va_P D vwCl ([(rf_RW ct 0 bt 800 b), (ty_RD rd bt ln tg (rp_sk b ln pl1_151) ws1_152 (0) ep1_154)] ++ ws_150) H := ty_permP hP (ty_ordp (E := [(ty_RD rd bt ln tg (rp_sk b ln pl1_151) ws1_152 (0) ep1_154), (rf_RW ct 0 bt 800 b)]) (E2 := [(rf_RW ct 0 bt 800 b), (ty_RD rd bt ln tg (rp_sk b ln pl1_151) ws1_152 (0) ep1_154)]) (n := 2) [1, 0] rfl rfl (by decide))
                have hD : va_D A ([(rf_RW ct 0 bt 800 b), (ty_RD rd bt ln tg (rp_sk b ln pl1_151) ws1_152 (0) ep1_154)] ++ ws_150) := ty_permD hD (ty_ordp (E := [(ty_RD rd bt ln tg (rp_sk b ln pl1_151) ws1_152 (0) ep1_154), (rf_RW ct 0 bt 800 b)]) (E2 := [(rf_RW ct 0 bt 800 b), (ty_RD rd bt ln tg (rp_sk b ln pl1_151) ws1_152 (0) ep1_154)]) (n := 2) [1, 0] rfl rfl (by decide))
                have hP : va_P D vwCl (([(rf_RW ct 0 bt 800 b)] ++ ws_150) ++ ([(ty_RD rd bt ln tg (rp_sk b ln pl1_151) ws1_152 (0) ep1_154)] ++ ([] : va_W))) H := ty_permP (w1 := (([(rf_RW ct 0 bt 800 b)] ++ [(ty_RD rd bt ln tg (rp_sk b ln pl1_151) ws1_152 (0) ep1_154)]) ++ ws_150)) hP ty_mv2
                have hD : va_D A (([(rf_RW ct 0 bt 800 b)] ++ ws_150) ++ ([(ty_RD rd bt ln tg (rp_sk b ln pl1_151) ws1_152 (0) ep1_154)] ++ ([] : va_W))) := ty_permD (w1 := (([(rf_RW ct 0 bt 800 b)] ++ [(ty_RD rd bt ln tg (rp_sk b ln pl1_151) ws1_152 (0) ep1_154)]) ++ ws_150)) hD ty_mv2
                refine ty_kv (wr := ([(rf_RW ct 0 bt 800 b)] ++ ws_150)) (wc := ([(ty_RD rd bt ln tg (rp_sk b ln pl1_151) ws1_152 (0) ep1_154)] ++ ([] : va_W))) (va_runV (As := [.int 1, .int (rp_sk b ln pl1_151)]) (rest := []) ⟨hx, hb, hml, hown, hts⟩ (r_fail l D ct (fun _ => none) [] (fun _ => True) (fun _ _ _ => True) rd bt tg ln (rp_sk b ln pl1_151) ws1_152 (0 : Int32) ep1_154 (1 : Int32) (rp_sk b ln pl1_151) _ ty_V0 ty_C0 ty_y10 (by decide)) (cm_V 2 hts kc_X6_fail ki_RX6 kl_RX6_68 kv_X6_fail kx_X6_fail kd_X6_fail ⟨Nat.le_of_ble_eq_true rfl, Nat.le_of_ble_eq_true rfl⟩) (ty_preE (wr := ([(rf_RW ct 0 bt 800 b)] ++ ws_150)) (wc := ([(ty_RD rd bt ln tg (rp_sk b ln pl1_151) ws1_152 (0) ep1_154)] ++ ([] : va_W))) (ci := 6) (q0 := (([(rf_RW ct 0 bt 800 b)] ++ ws_150) : va_W).length + 0) hP hK hD hS hA hX rfl (ty_app rfl)) rfl rfl hl.1 rfl (lv_room (Nat.le_of_ble_eq_true rfl)) dX6_readText_129 ⟨Nat.le_of_ble_eq_true rfl, Nat.le_of_ble_eq_true rfl⟩) hP hD hS hA (fun u H locs hw_184 hP hD hS => ?_)
                obtain ⟨ws_185, er1_186, ep1_187⟩ := u
                obtain ⟨hT9_188, hp_189⟩ := hw_184
                have hp_189 : rp_o (0 : Int32) ep1_154 er1_186 ep1_187 (1 : Int32) (rp_sk b ln pl1_151) True := hp_189
                have hP : va_P D vwCl ([(rf_RW ct 0 bt 800 b), (ty_RD rd bt ln tg (rp_sk b ln pl1_151) ws1_152 er1_186 ep1_187)] ++ ws_150) H := ty_bkP hP
                have hD : va_D A ([(rf_RW ct 0 bt 800 b), (ty_RD rd bt ln tg (rp_sk b ln pl1_151) ws1_152 er1_186 ep1_187)] ++ ws_150) := ty_bkD hD
                have hP : va_P D vwCl ([(ty_RD rd bt ln tg (rp_sk b ln pl1_151) ws1_152 er1_186 ep1_187), (rf_RW ct 0 bt 800 b)] ++ ws_150) H := ty_permP hP (ty_ordp (E := [(rf_RW ct 0 bt 800 b), (ty_RD rd bt ln tg (rp_sk b ln pl1_151) ws1_152 er1_186 ep1_187)]) (E2 := [(ty_RD rd bt ln tg (rp_sk b ln pl1_151) ws1_152 er1_186 ep1_187), (rf_RW ct 0 bt 800 b)]) (n := 2) [1, 0] rfl rfl (by decide))
                have hD : va_D A ([(ty_RD rd bt ln tg (rp_sk b ln pl1_151) ws1_152 er1_186 ep1_187), (rf_RW ct 0 bt 800 b)] ++ ws_150) := ty_permD hD (ty_ordp (E := [(rf_RW ct 0 bt 800 b), (ty_RD rd bt ln tg (rp_sk b ln pl1_151) ws1_152 er1_186 ep1_187)]) (E2 := [(ty_RD rd bt ln tg (rp_sk b ln pl1_151) ws1_152 er1_186 ep1_187), (rf_RW ct 0 bt 800 b)]) (n := 2) [1, 0] rfl rfl (by decide))
                exact W.vret hx hb hr (fun t ht hW => ⟨⟨(ws_150, (rp_sk b ln pl1_151), ws1_152, er1_186, ep1_187, cnt_5, nc_6, np1_155, nf_8), rfl, ⟨hT, rp_e2 hex_2.2.1 (by omega) rfl hso_159 hc_181 hby (by omega) hc_182 hp_189⟩, by rw [ht]; exact hP, by rw [hAe]; exact hD⟩, hS.F ht⟩) hS.2.2 dX6_readText_132
        · refine lv_if_eq (tgt := 62) hx hb dX6_readText_52 (by decide) (fun _ => ?_) (fun hc => absurd (by decide) hc)
          refine lv_aload_n hx hb dX6_readText_62 rfl (lv_at hl 0 rfl) ?_
          refine lv_aload_n hx hb dX6_readText_63 rfl (lv_at hl 0 rfl) ?_
          refine va_get (v := .ref tg) (D := D) (ci := 6) (C := RX6) (T := TX6) (N := 7) hx hb hts in_X6 hown hK hP 0 rfl rfl 2 (by decide) (hts _ kl_RX6_19) (fun _ h9 => h9) rfl dX6_readText_64 ?_
          refine ty_getN (E := [(ty_RD rd bt ln tg (rp_we b ln (rp_sk b ln y_2)) (rp_sk b ln y_2) er1_16 ep1_17), (rf_RW ct 0 bt 800 b)]) (ws := ws) (D := D) (ci := 9) (C := RX9) (T := TX9) (N := 8) hx hb hts in_X9 hown hK hP hT h_tg rfl 1 (by decide) (hts _ kl_RX6_45) (fun _ h9 => h9) rfl dX6_readText_67 (fun _ hv_190 hf_191 => ?_)
          obtain ⟨a_192, rfl, ha_193⟩ := hv_190
          refine ty_kv (wr := []) (wc := ([(ty_RD rd bt ln tg (rp_we b ln (rp_sk b ln y_2)) (rp_sk b ln y_2) er1_16 ep1_17), (rf_RW ct 0 bt 800 b)] ++ ws)) (va_runV (As := [.ref a_192]) (rest := []) ⟨hx, hb, hml, hown, hts⟩ (r_readSetting l D ct S ws rd bt tg ln (rp_we b ln (rp_sk b ln y_2)) (rp_sk b ln y_2) er1_16 ep1_17 b ps cu na pr ch cnt_5 nc_6 np_7 nf_8 a_192 _ hT ha_193 hln (by omega) rfl (by omega)) (cm_V 1 hts kc_X6_readSetting ki_RX6 kl_RX6_51 kv_X6_readSetting kx_X6_readSetting kd_X6_readSetting ⟨Nat.le_of_ble_eq_true rfl, Nat.le_of_ble_eq_true rfl⟩) (ty_preE (wr := []) (wc := ([(ty_RD rd bt ln tg (rp_we b ln (rp_sk b ln y_2)) (rp_sk b ln y_2) er1_16 ep1_17), (rf_RW ct 0 bt 800 b)] ++ ws)) (ci := 6) (q0 := 0) hP hK hD hS hA hX rfl rfl) rfl rfl hl.1 rfl (lv_room (Nat.le_of_ble_eq_true rfl)) dX6_readText_70 ⟨Nat.le_of_ble_eq_true rfl, Nat.le_of_ble_eq_true rfl⟩) hP hD hS hA (fun u H locs hw_195 hP hD hS => ?_)
          obtain ⟨ws_196, pl1_197, er1_198, ep1_199⟩ := u
          obtain ⟨hT, hp_200⟩ := hw_195
          have hp_200 : (0 ≤ pl1_197.toInt ∧ pl1_197.toInt ≤ ln.toInt) ∧ rp_o er1_16 ep1_17 er1_198 ep1_199 (rp_ek b ln (rp_sk b ln y_2)) (rp_ep b ln (rp_sk b ln y_2)) (pl1_197 = rp_ep b ln (rp_sk b ln y_2)) := hp_200
          have hP : va_P D vwCl ([(ty_RD rd bt ln tg pl1_197 (rp_sk b ln y_2) er1_198 ep1_199), (rf_RW ct 0 bt 800 b)] ++ ws_196) H := hP
          have hD : va_D A ([(ty_RD rd bt ln tg pl1_197 (rp_sk b ln y_2) er1_198 ep1_199), (rf_RW ct 0 bt 800 b)] ++ ws_196) := hD
          obtain ⟨hb_201, ho_202⟩ := hp_200
          have hso_203 := rp_s0 (show rp_wh b ln (rp_sk b ln y_2) = 0 from (((if_neg hz_31).trans (if_neg hz_88)).trans (if_neg hz_144))) hex_2.2.2.1 hex_2.2.2.2.1 hex_2.2.2.2.2 hQ ho_20 ho_202
          refine lv_aload_n hx hb dX6_readText_73 rfl (lv_at hl 0 rfl) ?_
          have hP : va_P D vwCl (([] ++ ws_196) ++ ([(ty_RD rd bt ln tg pl1_197 (rp_sk b ln y_2) er1_198 ep1_199), (rf_RW ct 0 bt 800 b)] ++ ([] : va_W))) H := ty_permP (w1 := (([] ++ [(ty_RD rd bt ln tg pl1_197 (rp_sk b ln y_2) er1_198 ep1_199), (rf_RW ct 0 bt 800 b)]) ++ ws_196)) hP ty_mv2
          have hD : va_D A (([] ++ ws_196) ++ ([(ty_RD rd bt ln tg pl1_197 (rp_sk b ln y_2) er1_198 ep1_199), (rf_RW ct 0 bt 800 b)] ++ ([] : va_W))) := ty_permD (w1 := (([] ++ [(ty_RD rd bt ln tg pl1_197 (rp_sk b ln y_2) er1_198 ep1_199), (rf_RW ct 0 bt 800 b)]) ++ ws_196)) hD ty_mv2
          refine ty_kv (wr := ([] ++ ws_196)) (wc := ([(ty_RD rd bt ln tg pl1_197 (rp_sk b ln y_2) er1_198 ep1_199), (rf_RW ct 0 bt 800 b)] ++ ([] : va_W))) (va_runV (As := []) (rest := []) ⟨hx, hb, hml, hown, hts⟩ (r_skip l D ct (fun _ => none) [] (fun _ => True) (fun _ _ _ => True) rd bt tg ln pl1_197 (rp_sk b ln y_2) er1_198 ep1_199 b _ ty_V0 ty_C0 ty_y10 hln hb_201) (cm_V 0 hts kc_X6_skipSpaces ki_RX6 kl_RX6_55 kv_X6_skipSpaces kx_X6_skipSpaces kd_X6_skipSpaces ⟨Nat.le_of_ble_eq_true rfl, Nat.le_of_ble_eq_true rfl⟩) (ty_preE (wr := ([] ++ ws_196)) (wc := ([(ty_RD rd bt ln tg pl1_197 (rp_sk b ln y_2) er1_198 ep1_199), (rf_RW ct 0 bt 800 b)] ++ ([] : va_W))) (ci := 6) (q0 := (([] ++ ws_196) : va_W).length + 0) hP hK hD hS hA hX rfl (ty_app rfl)) rfl rfl hl.1 rfl (lv_room (Nat.le_of_ble_eq_true rfl)) dX6_readText_74 ⟨Nat.le_of_ble_eq_true rfl, Nat.le_of_ble_eq_true rfl⟩) hP hD hS hA (fun u H locs hw_205 hP hD hS => ?_)
          obtain ⟨ws_206, pl1_207⟩ := u
          obtain ⟨hT9_208, hp_209⟩ := hw_205
          have hp_209 : pl1_207 = (rp_sk b ln pl1_197) := hp_209
          have hP : va_P D vwCl ([(ty_RD rd bt ln tg pl1_207 (rp_sk b ln y_2) er1_198 ep1_199), (rf_RW ct 0 bt 800 b)] ++ ws_196) H := ty_bkP hP
          have hD : va_D A ([(ty_RD rd bt ln tg pl1_207 (rp_sk b ln y_2) er1_198 ep1_199), (rf_RW ct 0 bt 800 b)] ++ ws_196) := ty_bkD hD
          obtain rfl := hp_209
          have hs_211 := rp_sk_b (b := b) (p := pl1_197) hln.2 hb_201
          refine lv_aload_n hx hb dX6_readText_77 rfl (lv_at hl 0 rfl) ?_
          refine va_get (v := .int er1_198) (D := D) (ci := 6) (C := RX6) (T := TX6) (N := 7) hx hb hts in_X6 hown hK hP 0 rfl rfl 5 (by decide) (hts _ kl_RX6_58) (fun _ h9 => h9) rfl dX6_readText_78 ?_
          refine lv_if_ne (tgt := 112) hx hb dX6_readText_81 (by decide) (fun hc_212 => ?_) (fun hc_212 => ?_)
          · refine lv_aload_n hx hb dX6_readText_112 rfl (lv_at hl 0 rfl) ?_
            refine va_get (v := .int (rp_sk b ln pl1_197)) (D := D) (ci := 6) (C := RX6) (T := TX6) (N := 7) hx hb hts in_X6 hown hK hP 0 rfl rfl 3 (by decide) (hts _ kl_RX6_65) (fun _ h9 => h9) rfl dX6_readText_113 ?_
            refine lv_aload_n hx hb dX6_readText_116 rfl (lv_at hl 0 rfl) ?_
            refine va_get (v := .int ln) (D := D) (ci := 6) (C := RX6) (T := TX6) (N := 7) hx hb hts in_X6 hown hK hP 0 rfl rfl 1 (by decide) (hts _ kl_RX6_15) (fun _ h9 => h9) rfl dX6_readText_117 ?_
            refine lv_icmp_ge (tgt := 132) hx hb dX6_readText_120 (by decide) (fun hc_213 => ?_) (fun hc_213 => ?_)
            · exact W.vret hx hb hr (fun t ht hW => ⟨⟨(ws_196, (rp_sk b ln pl1_197), (rp_sk b ln y_2), er1_198, ep1_199, cnt_5, nc_6, np_7, nf_8), rfl, ⟨hT, rp_e1n hex_2.2.1 (by omega) rfl hso_203 hc_212⟩, by rw [ht]; exact hP, by rw [hAe]; exact hD⟩, hS.F ht⟩) hS.2.2 dX6_readText_132
            · refine lv_aload_n hx hb dX6_readText_123 rfl (lv_at hl 0 rfl) ?_
              refine lv_iconst (v := 1) hx hb dX6_readText_124 (by decide) ?_
              refine lv_aload_n hx hb dX6_readText_125 rfl (lv_at hl 0 rfl) ?_
              refine va_get (v := .int (rp_sk b ln pl1_197)) (D := D) (ci := 6) (C := RX6) (T := TX6) (N := 7) hx hb hts in_X6 hown hK hP 0 rfl rfl 3 (by decide) (hts _ kl_RX6_65) (fun _ h9 => h9) rfl dX6_readText_126 ?_
              have hP : va_P D vwCl ([(rf_RW ct 0 bt 800 b), (ty_RD rd bt ln tg (rp_sk b ln pl1_197) (rp_sk b ln y_2) er1_198 ep1_199)] ++ ws_196) H := ty_permP hP (ty_ordp (E := [(ty_RD rd bt ln tg (rp_sk b ln pl1_197) (rp_sk b ln y_2) er1_198 ep1_199), (rf_RW ct 0 bt 800 b)]) (E2 := [(rf_RW ct 0 bt 800 b), (ty_RD rd bt ln tg (rp_sk b ln pl1_197) (rp_sk b ln y_2) er1_198 ep1_199)]) (n := 2) [1, 0] rfl rfl (by decide))
              have hD : va_D A ([(rf_RW ct 0 bt 800 b), (ty_RD rd bt ln tg (rp_sk b ln pl1_197) (rp_sk b ln y_2) er1_198 ep1_199)] ++ ws_196) := ty_permD hD (ty_ordp (E := [(ty_RD rd bt ln tg (rp_sk b ln pl1_197) (rp_sk b ln y_2) er1_198 ep1_199), (rf_RW ct 0 bt 800 b)]) (E2 := [(rf_RW ct 0 bt 800 b), (ty_RD rd bt ln tg (rp_sk b ln pl1_197) (rp_sk b ln y_2) er1_198 ep1_199)]) (n := 2) [1, 0] rfl rfl (by decide))
              have hP : va_P D vwCl (([(rf_RW ct 0 bt 800 b)] ++ ws_196) ++ ([(ty_RD rd bt ln tg (rp_sk b ln pl1_197) (rp_sk b ln y_2) er1_198 ep1_199)] ++ ([] : va_W))) H := ty_permP (w1 := (([(rf_RW ct 0 bt 800 b)] ++ [(ty_RD rd bt ln tg (rp_sk b ln pl1_197) (rp_sk b ln y_2) er1_198 ep1_199)]) ++ ws_196)) hP ty_mv2
              have hD : va_D A (([(rf_RW ct 0 bt 800 b)] ++ ws_196) ++ ([(ty_RD rd bt ln tg (rp_sk b ln pl1_197) (rp_sk b ln y_2) er1_198 ep1_199)] ++ ([] : va_W))) := ty_permD (w1 := (([(rf_RW ct 0 bt 800 b)] ++ [(ty_RD rd bt ln tg (rp_sk b ln pl1_197) (rp_sk b ln y_2) er1_198 ep1_199)]) ++ ws_196)) hD ty_mv2
              refine ty_kv (wr := ([(rf_RW ct 0 bt 800 b)] ++ ws_196)) (wc := ([(ty_RD rd bt ln tg (rp_sk b ln pl1_197) (rp_sk b ln y_2) er1_198 ep1_199)] ++ ([] : va_W))) (va_runV (As := [.int 1, .int (rp_sk b ln pl1_197)]) (rest := []) ⟨hx, hb, hml, hown, hts⟩ (r_fail l D ct (fun _ => none) [] (fun _ => True) (fun _ _ _ => True) rd bt tg ln (rp_sk b ln pl1_197) (rp_sk b ln y_2) er1_198 ep1_199 (1 : Int32) (rp_sk b ln pl1_197) _ ty_V0 ty_C0 ty_y10 (by decide)) (cm_V 2 hts kc_X6_fail ki_RX6 kl_RX6_68 kv_X6_fail kx_X6_fail kd_X6_fail ⟨Nat.le_of_ble_eq_true rfl, Nat.le_of_ble_eq_true rfl⟩) (ty_preE (wr := ([(rf_RW ct 0 bt 800 b)] ++ ws_196)) (wc := ([(ty_RD rd bt ln tg (rp_sk b ln pl1_197) (rp_sk b ln y_2) er1_198 ep1_199)] ++ ([] : va_W))) (ci := 6) (q0 := (([(rf_RW ct 0 bt 800 b)] ++ ws_196) : va_W).length + 0) hP hK hD hS hA hX rfl (ty_app rfl)) rfl rfl hl.1 rfl (lv_room (Nat.le_of_ble_eq_true rfl)) dX6_readText_129 ⟨Nat.le_of_ble_eq_true rfl, Nat.le_of_ble_eq_true rfl⟩) hP hD hS hA (fun u H locs hw_215 hP hD hS => ?_)
              obtain ⟨ws_216, er1_217, ep1_218⟩ := u
              obtain ⟨hT9_219, hp_220⟩ := hw_215
              have hp_220 : rp_o er1_198 ep1_199 er1_217 ep1_218 (1 : Int32) (rp_sk b ln pl1_197) True := hp_220
              have hP : va_P D vwCl ([(rf_RW ct 0 bt 800 b), (ty_RD rd bt ln tg (rp_sk b ln pl1_197) (rp_sk b ln y_2) er1_217 ep1_218)] ++ ws_196) H := ty_bkP hP
              have hD : va_D A ([(rf_RW ct 0 bt 800 b), (ty_RD rd bt ln tg (rp_sk b ln pl1_197) (rp_sk b ln y_2) er1_217 ep1_218)] ++ ws_196) := ty_bkD hD
              have hP : va_P D vwCl ([(ty_RD rd bt ln tg (rp_sk b ln pl1_197) (rp_sk b ln y_2) er1_217 ep1_218), (rf_RW ct 0 bt 800 b)] ++ ws_196) H := ty_permP hP (ty_ordp (E := [(rf_RW ct 0 bt 800 b), (ty_RD rd bt ln tg (rp_sk b ln pl1_197) (rp_sk b ln y_2) er1_217 ep1_218)]) (E2 := [(ty_RD rd bt ln tg (rp_sk b ln pl1_197) (rp_sk b ln y_2) er1_217 ep1_218), (rf_RW ct 0 bt 800 b)]) (n := 2) [1, 0] rfl rfl (by decide))
              have hD : va_D A ([(ty_RD rd bt ln tg (rp_sk b ln pl1_197) (rp_sk b ln y_2) er1_217 ep1_218), (rf_RW ct 0 bt 800 b)] ++ ws_196) := ty_permD hD (ty_ordp (E := [(rf_RW ct 0 bt 800 b), (ty_RD rd bt ln tg (rp_sk b ln pl1_197) (rp_sk b ln y_2) er1_217 ep1_218)]) (E2 := [(ty_RD rd bt ln tg (rp_sk b ln pl1_197) (rp_sk b ln y_2) er1_217 ep1_218), (rf_RW ct 0 bt 800 b)]) (n := 2) [1, 0] rfl rfl (by decide))
              exact W.vret hx hb hr (fun t ht hW => ⟨⟨(ws_196, (rp_sk b ln pl1_197), (rp_sk b ln y_2), er1_217, ep1_218, cnt_5, nc_6, np_7, nf_8), rfl, ⟨hT, rp_e1 hex_2.2.1 (by omega) rfl hso_203 hc_212 hp_220⟩, by rw [ht]; exact hP, by rw [hAe]; exact hD⟩, hS.F ht⟩) hS.2.2 dX6_readText_132
          · subst hc_212
            refine lv_aload_n hx hb dX6_readText_84 rfl (lv_at hl 0 rfl) ?_
            have hP : va_P D vwCl (([] ++ ws_196) ++ ([(ty_RD rd bt ln tg (rp_sk b ln pl1_197) (rp_sk b ln y_2) (0) ep1_199), (rf_RW ct 0 bt 800 b)] ++ ([] : va_W))) H := ty_permP (w1 := (([] ++ [(ty_RD rd bt ln tg (rp_sk b ln pl1_197) (rp_sk b ln y_2) (0) ep1_199), (rf_RW ct 0 bt 800 b)]) ++ ws_196)) hP ty_mv2
            have hD : va_D A (([] ++ ws_196) ++ ([(ty_RD rd bt ln tg (rp_sk b ln pl1_197) (rp_sk b ln y_2) (0) ep1_199), (rf_RW ct 0 bt 800 b)] ++ ([] : va_W))) := ty_permD (w1 := (([] ++ [(ty_RD rd bt ln tg (rp_sk b ln pl1_197) (rp_sk b ln y_2) (0) ep1_199), (rf_RW ct 0 bt 800 b)]) ++ ws_196)) hD ty_mv2
            refine ty_ki (wr := ([] ++ ws_196)) (wc := ([(ty_RD rd bt ln tg (rp_sk b ln pl1_197) (rp_sk b ln y_2) (0) ep1_199), (rf_RW ct 0 bt 800 b)] ++ ([] : va_W))) (va_runV (As := []) (rest := []) ⟨hx, hb, hml, hown, hts⟩ (r_next l D ct (fun _ => none) [] (fun _ => True) (fun _ _ _ => True) rd bt tg ln (rp_sk b ln pl1_197) (rp_sk b ln y_2) (0 : Int32) ep1_199 b _ ty_V0 ty_C0 ty_y10 hln (by omega)) (cm_V 0 hts kc_X6_next ki_RX6 kl_RX6_61 kv_X6_next kx_X6_next kd_X6_next ⟨Nat.le_of_ble_eq_true rfl, Nat.le_of_ble_eq_true rfl⟩) (ty_preE (wr := ([] ++ ws_196)) (wc := ([(ty_RD rd bt ln tg (rp_sk b ln pl1_197) (rp_sk b ln y_2) (0) ep1_199), (rf_RW ct 0 bt 800 b)] ++ ([] : va_W))) (ci := 6) (q0 := (([] ++ ws_196) : va_W).length + 0) hP hK hD hS hA hX rfl (ty_app rfl)) rfl rfl hl.1 rfl (lv_room (Nat.le_of_ble_eq_true rfl)) dX6_readText_85 ⟨Nat.le_of_ble_eq_true rfl, Nat.le_of_ble_eq_true rfl⟩) hP hD hS hA (fun r_221 u H locs hw_222 hP hD hS => ?_)
            obtain ⟨ws_223, rfl⟩ : ∃ z, z = u := ⟨_, rfl⟩
            obtain ⟨hT9_224, rfl⟩ := hw_222
            have hP : va_P D vwCl ([(ty_RD rd bt ln tg (rp_sk b ln pl1_197) (rp_sk b ln y_2) (0) ep1_199), (rf_RW ct 0 bt 800 b)] ++ ws_196) H := ty_bkP hP
            have hD : va_D A ([(ty_RD rd bt ln tg (rp_sk b ln pl1_197) (rp_sk b ln y_2) (0) ep1_199), (rf_RW ct 0 bt 800 b)] ++ ws_196) := ty_bkD hD
            refine lv_bipush (v := 59) hx hb dX6_readText_88 (by decide) ?_
            refine lv_icmp_eq (tgt := 96) hx hb dX6_readText_90 (by decide) (fun hc_225 => ?_) (fun hc_225 => ?_)
            · refine lv_aload_n hx hb dX6_readText_96 rfl (lv_at hl 0 rfl) ?_
              refine lv_dup hx hb dX6_readText_97 rfl ?_
              refine va_get (v := .int (rp_sk b ln pl1_197)) (D := D) (ci := 6) (C := RX6) (T := TX6) (N := 7) hx hb hts in_X6 hown hK hP 0 rfl rfl 3 (by decide) (hts _ kl_RX6_65) (fun _ h9 => h9) rfl dX6_readText_98 ?_
              refine lv_iconst (v := 1) hx hb dX6_readText_101 (by decide) ?_
              refine lv_iadd hx hb dX6_readText_102 ?_
              refine va_put (v := .int ((rp_sk b ln pl1_197) + 1)) (ty := .int) (D := D) (ci := 6) (C := RX6) (T := TX6) (N := 7) hx hb hts in_X6 tyX6 tyX6_ok nmX6 hown hK hP hD hS 0 rfl rfl 3 (by decide) (hts _ kl_RX6_65) (fun _ h9 => h9) rfl (by decide +kernel) rfl rfl (Nat.le_of_ble_eq_true rfl) dX6_readText_103 (fun H locs hP hD hS => ?_)
              have hP : va_P D vwCl ([(ty_RD rd bt ln tg ((rp_sk b ln pl1_197) + 1) (rp_sk b ln y_2) (0) ep1_199), (rf_RW ct 0 bt 800 b)] ++ ws_196) H := hP
              have hD : va_D A ([(ty_RD rd bt ln tg ((rp_sk b ln pl1_197) + 1) (rp_sk b ln y_2) (0) ep1_199), (rf_RW ct 0 bt 800 b)] ++ ws_196) := hD
              refine lv_iinc (v := (y_1 + Int32.ofInt 1)) (lv' := [(1, .int (y_1 + Int32.ofInt 1)), (0, .ref rd)]) hx hb dX6_readText_106 hl (k := 1) rfl rfl (by decide) rfl (fun ls hl => ?_)
              refine lv_goto (tgt := 2) hx hb dX6_readText_109 (by decide) ?_
              exact ih_2 _ _ _ _ (ty_inc (N := 801) (by rw [Int32.lt_iff_toInt_lt, show (801 : Int32).toInt = 801 from by decide]; omega)) ⟨ws_196, (y_1 + Int32.ofInt 1), ((rp_sk b ln pl1_197) + 1), (rp_sk b ln y_2), ep1_199, cnt_5, nc_6, np_7, nf_8, N_9, rfl, hT, hP, hD, hS, (lv_sub hl [1, 0] rfl), rp_xn hex_2.2.1 hln.2 (by omega) rfl hso_203 hc_225⟩
            · refine lv_goto (tgt := 112) hx hb dX6_readText_93 (by decide) ?_
              refine lv_aload_n hx hb dX6_readText_112 rfl (lv_at hl 0 rfl) ?_
              refine va_get (v := .int (rp_sk b ln pl1_197)) (D := D) (ci := 6) (C := RX6) (T := TX6) (N := 7) hx hb hts in_X6 hown hK hP 0 rfl rfl 3 (by decide) (hts _ kl_RX6_65) (fun _ h9 => h9) rfl dX6_readText_113 ?_
              refine lv_aload_n hx hb dX6_readText_116 rfl (lv_at hl 0 rfl) ?_
              refine va_get (v := .int ln) (D := D) (ci := 6) (C := RX6) (T := TX6) (N := 7) hx hb hts in_X6 hown hK hP 0 rfl rfl 1 (by decide) (hts _ kl_RX6_15) (fun _ h9 => h9) rfl dX6_readText_117 ?_
              refine lv_icmp_ge (tgt := 132) hx hb dX6_readText_120 (by decide) (fun hc_226 => ?_) (fun hc_226 => ?_)
              · exact W.vret hx hb hr (fun t ht hW => ⟨⟨(ws_196, (rp_sk b ln pl1_197), (rp_sk b ln y_2), (0 : Int32), ep1_199, cnt_5, nc_6, np_7, nf_8), rfl, ⟨hT, rp_e3 hex_2.2.1 (by omega) rfl hso_203 hc_225 hc_226⟩, by rw [ht]; exact hP, by rw [hAe]; exact hD⟩, hS.F ht⟩) hS.2.2 dX6_readText_132
              · refine lv_aload_n hx hb dX6_readText_123 rfl (lv_at hl 0 rfl) ?_
                refine lv_iconst (v := 1) hx hb dX6_readText_124 (by decide) ?_
                refine lv_aload_n hx hb dX6_readText_125 rfl (lv_at hl 0 rfl) ?_
                refine va_get (v := .int (rp_sk b ln pl1_197)) (D := D) (ci := 6) (C := RX6) (T := TX6) (N := 7) hx hb hts in_X6 hown hK hP 0 rfl rfl 3 (by decide) (hts _ kl_RX6_65) (fun _ h9 => h9) rfl dX6_readText_126 ?_
                have hP : va_P D vwCl ([(rf_RW ct 0 bt 800 b), (ty_RD rd bt ln tg (rp_sk b ln pl1_197) (rp_sk b ln y_2) (0) ep1_199)] ++ ws_196) H := ty_permP hP (ty_ordp (E := [(ty_RD rd bt ln tg (rp_sk b ln pl1_197) (rp_sk b ln y_2) (0) ep1_199), (rf_RW ct 0 bt 800 b)]) (E2 := [(rf_RW ct 0 bt 800 b), (ty_RD rd bt ln tg (rp_sk b ln pl1_197) (rp_sk b ln y_2) (0) ep1_199)]) (n := 2) [1, 0] rfl rfl (by decide))
                have hD : va_D A ([(rf_RW ct 0 bt 800 b), (ty_RD rd bt ln tg (rp_sk b ln pl1_197) (rp_sk b ln y_2) (0) ep1_199)] ++ ws_196) := ty_permD hD (ty_ordp (E := [(ty_RD rd bt ln tg (rp_sk b ln pl1_197) (rp_sk b ln y_2) (0) ep1_199), (rf_RW ct 0 bt 800 b)]) (E2 := [(rf_RW ct 0 bt 800 b), (ty_RD rd bt ln tg (rp_sk b ln pl1_197) (rp_sk b ln y_2) (0) ep1_199)]) (n := 2) [1, 0] rfl rfl (by decide))
                have hP : va_P D vwCl (([(rf_RW ct 0 bt 800 b)] ++ ws_196) ++ ([(ty_RD rd bt ln tg (rp_sk b ln pl1_197) (rp_sk b ln y_2) (0) ep1_199)] ++ ([] : va_W))) H := ty_permP (w1 := (([(rf_RW ct 0 bt 800 b)] ++ [(ty_RD rd bt ln tg (rp_sk b ln pl1_197) (rp_sk b ln y_2) (0) ep1_199)]) ++ ws_196)) hP ty_mv2
                have hD : va_D A (([(rf_RW ct 0 bt 800 b)] ++ ws_196) ++ ([(ty_RD rd bt ln tg (rp_sk b ln pl1_197) (rp_sk b ln y_2) (0) ep1_199)] ++ ([] : va_W))) := ty_permD (w1 := (([(rf_RW ct 0 bt 800 b)] ++ [(ty_RD rd bt ln tg (rp_sk b ln pl1_197) (rp_sk b ln y_2) (0) ep1_199)]) ++ ws_196)) hD ty_mv2
                refine ty_kv (wr := ([(rf_RW ct 0 bt 800 b)] ++ ws_196)) (wc := ([(ty_RD rd bt ln tg (rp_sk b ln pl1_197) (rp_sk b ln y_2) (0) ep1_199)] ++ ([] : va_W))) (va_runV (As := [.int 1, .int (rp_sk b ln pl1_197)]) (rest := []) ⟨hx, hb, hml, hown, hts⟩ (r_fail l D ct (fun _ => none) [] (fun _ => True) (fun _ _ _ => True) rd bt tg ln (rp_sk b ln pl1_197) (rp_sk b ln y_2) (0 : Int32) ep1_199 (1 : Int32) (rp_sk b ln pl1_197) _ ty_V0 ty_C0 ty_y10 (by decide)) (cm_V 2 hts kc_X6_fail ki_RX6 kl_RX6_68 kv_X6_fail kx_X6_fail kd_X6_fail ⟨Nat.le_of_ble_eq_true rfl, Nat.le_of_ble_eq_true rfl⟩) (ty_preE (wr := ([(rf_RW ct 0 bt 800 b)] ++ ws_196)) (wc := ([(ty_RD rd bt ln tg (rp_sk b ln pl1_197) (rp_sk b ln y_2) (0) ep1_199)] ++ ([] : va_W))) (ci := 6) (q0 := (([(rf_RW ct 0 bt 800 b)] ++ ws_196) : va_W).length + 0) hP hK hD hS hA hX rfl (ty_app rfl)) rfl rfl hl.1 rfl (lv_room (Nat.le_of_ble_eq_true rfl)) dX6_readText_129 ⟨Nat.le_of_ble_eq_true rfl, Nat.le_of_ble_eq_true rfl⟩) hP hD hS hA (fun u H locs hw_228 hP hD hS => ?_)
                obtain ⟨ws_229, er1_230, ep1_231⟩ := u
                obtain ⟨hT9_232, hp_233⟩ := hw_228
                have hp_233 : rp_o (0 : Int32) ep1_199 er1_230 ep1_231 (1 : Int32) (rp_sk b ln pl1_197) True := hp_233
                have hP : va_P D vwCl ([(rf_RW ct 0 bt 800 b), (ty_RD rd bt ln tg (rp_sk b ln pl1_197) (rp_sk b ln y_2) er1_230 ep1_231)] ++ ws_196) H := ty_bkP hP
                have hD : va_D A ([(rf_RW ct 0 bt 800 b), (ty_RD rd bt ln tg (rp_sk b ln pl1_197) (rp_sk b ln y_2) er1_230 ep1_231)] ++ ws_196) := ty_bkD hD
                have hP : va_P D vwCl ([(ty_RD rd bt ln tg (rp_sk b ln pl1_197) (rp_sk b ln y_2) er1_230 ep1_231), (rf_RW ct 0 bt 800 b)] ++ ws_196) H := ty_permP hP (ty_ordp (E := [(rf_RW ct 0 bt 800 b), (ty_RD rd bt ln tg (rp_sk b ln pl1_197) (rp_sk b ln y_2) er1_230 ep1_231)]) (E2 := [(ty_RD rd bt ln tg (rp_sk b ln pl1_197) (rp_sk b ln y_2) er1_230 ep1_231), (rf_RW ct 0 bt 800 b)]) (n := 2) [1, 0] rfl rfl (by decide))
                have hD : va_D A ([(ty_RD rd bt ln tg (rp_sk b ln pl1_197) (rp_sk b ln y_2) er1_230 ep1_231), (rf_RW ct 0 bt 800 b)] ++ ws_196) := ty_permD hD (ty_ordp (E := [(rf_RW ct 0 bt 800 b), (ty_RD rd bt ln tg (rp_sk b ln pl1_197) (rp_sk b ln y_2) er1_230 ep1_231)]) (E2 := [(ty_RD rd bt ln tg (rp_sk b ln pl1_197) (rp_sk b ln y_2) er1_230 ep1_231), (rf_RW ct 0 bt 800 b)]) (n := 2) [1, 0] rfl rfl (by decide))
                exact W.vret hx hb hr (fun t ht hW => ⟨⟨(ws_196, (rp_sk b ln pl1_197), (rp_sk b ln y_2), er1_230, ep1_231, cnt_5, nc_6, np_7, nf_8), rfl, ⟨hT, rp_e2 hex_2.2.1 (by omega) rfl hso_203 hc_225 hby (by omega) hc_226 hp_233⟩, by rw [ht]; exact hP, by rw [hAe]; exact hD⟩, hS.F ht⟩) hS.2.2 dX6_readText_132
set_option maxRecDepth 100000 in
set_option maxHeartbeats 4000000 in
theorem r_clear (l : Launch) (D : va_G) (ct : Nat → ClassId) (S : ty_S) (ws : va_W) (sp : Nat) (ps : rp_PS sp) (cu : Nat) (na : Nat) (pr : Nat) (ch : Nat) (sz : Nat) (hT : ty_V ct S (rp_S ps cu na pr ch) ws) (h_sp : S sp = some (.inl 9)) (h_cu : S cu = some (.inl 2)) (h_na : S na = some (.inr (1, 4))) (h_pr : S pr = some (.inl 5)) (hx9 : ps.x 9 0 sp) : Met l yX9_clear (ws_ yX9_clear cX9_clear 1 none) ({ frames := 1, cells := 0, slots := 0, locals := 20 } : Room) (va_Pc [.ref sp] (cmP D ct sz ([] ++ ws))) (va_Qv (fun (u : va_W × (Nat → Int64)) => match u with | (u9, nf) => ty_V ct S (rp_F (rp_Pe ps) cu na pr ch 0 0 0 nf) u9) (cmB D ([] ++ ws) sz (fun (u : va_W × (Nat → Int64)) => match u with | (u9, nf) => ([] ++ u9))) (va_A ([] ++ ws) sz)) 0 0 (va_A ([] ++ ws) sz) := by
  refine Met.ofW (cc := cX9_clear) (maxL := 1) (ret := none) (by decide) rfl ?_
  intro p e s m args below meth c s₁ B hml hv
  obtain ⟨rfl, hsz, hP, hK, hD0, hX⟩ := hv
  have hx := B.exec
  have hb := B.bytes
  have hr := B.returns
  have hts := ws_all (atoms_spec (ws := ws_ yX9_clear cX9_clear 1 none) B.pre)
  have hown : s.vm.findClass RX9 = some m.cls := findClass_of_methodNamed B.named
  have hlocks := B.notSynchronized
  subst hsz
  have hD := hD0.self (sz := s.heap.size)
  generalize hAe : va_A ([] ++ ws) s.heap.size = A at hD hX ⊢
  have hA : ∀ q : Nat, s.heap.size ≤ q → A q := fun q h => by rw [← hAe]; exact Or.inr h
  have hS : va_S A s.heap s.heap [] := va_S.rf
  have hl := lv_entry ([.ref sp]) (n := 1) (Nat.le_of_ble_eq_true rfl)
  rw [lg_entry_eq]
  generalize (lg_sl ([.ref sp]) ++ List.replicate (1 - (lg_sl ([.ref sp])).length) Slot.unset).toArray = ls at hl ⊢
  have hl : lv_has ls 1 [(0, .ref sp)] := hl
  obtain ⟨nf9, hnf9⟩ := rp_flx hT.1 h_na
  refine lv_aload_n hx hb dX9_clear_0 rfl (lv_at hl 0 rfl) ?_
  refine lv_iconst (v := 0) hx hb dX9_clear_1 (by decide) ?_
  refine ty_putT (v := .int 0) (ty := .int) (E := []) (ws := ws) (D := D) (ci := 9) (C := RX9) (T := TX9) (N := 8) hx hb hts in_X9 tyX9 tyX9_ok nmX9 hown hK hP hD hS hT h_sp rfl 0 (by decide) (hts _ kl_RX9_53) (fun _ h9 => h9) rfl (by decide +kernel) rfl rfl rfl ⟨_, rfl⟩ dX9_clear_2 (ph2 := (rp_G (rp_Pe ps) cu na pr ch nf9 False False False)) (fun j fs hj hl h => rp_Gt hx9 j fs hj hl h hnf9) (fun ws_1 H locs hT hfd_2 hP hD hS => ?_)
  refine lv_aload_n hx hb dX9_clear_5 rfl (lv_at hl 0 rfl) ?_
  refine ty_get (E := []) (ws := ws_1) (D := D) (ci := 9) (C := RX9) (T := TX9) (N := 8) hx hb hts in_X9 hown hK hP hT h_sp rfl 1 (by decide) (hts _ kl_RX9_12) (fun _ h9 => h9) rfl dX9_clear_6 (fun _ hv_3 hf_4 => ?_)
  obtain ⟨a_5, rfl, ha_6⟩ := hv_3
  refine ty_kv (wr := []) (wc := ([] ++ ws_1)) (va_runVN (As := []) (rest := []) ⟨hx, hb, hml, hown, hts⟩ (t_X7_clear l D ct S ws_1 (rp_G (rp_Pe ps) cu na pr ch nf9 False False False) rp_xG a_5 _ hT ha_6 rp_GC rp_G1 rp_G7) (cm_VN 0 hts kc_X7_clear ki_RX7 kl_RX9_57 kv_X7_clear kx_X7_clear kd_X7_clear ⟨Nat.le_of_ble_eq_true rfl, Nat.le_of_ble_eq_true rfl⟩) (ty_preV (wr := []) (E := []) (ws := ws_1) (ci := 7) hP hK hD hS hA hX hT rfl ha_6) rfl rfl hl.1 rfl (lv_room (Nat.le_of_ble_eq_true rfl)) dX9_clear_9 ⟨Nat.le_of_ble_eq_true rfl, Nat.le_of_ble_eq_true rfl⟩) hP hD hS hA (fun u H locs hw_8 hP hD hS => ?_)
  obtain ⟨ws_9, rfl⟩ : ∃ z, z = u := ⟨_, rfl⟩
  have hT := hw_8
  have hP : va_P D vwCl ([] ++ ws_9) H := hP
  have hD : va_D A ([] ++ ws_9) := hD
  refine lv_aload_n hx hb dX9_clear_12 rfl (lv_at hl 0 rfl) ?_
  refine ty_getD (v := .ref cu) (E := []) (ws := ws_9) (D := D) (ci := 9) (C := RX9) (T := TX9) (N := 8) hx hb hts in_X9 hown hK hP hD hT h_sp rfl 2 (by decide) (hts _ kl_RX9_21) (fun _ h9 => h9) (ty_fcd hT.2.1.1) dX9_clear_13 ?_
  refine lv_iconst (v := 0) hx hb dX9_clear_16 (by decide) ?_
  refine ty_putNT (v := .int 0) (ty := .int) (E := []) (ws := ws_9) (D := D) (ci := 2) (C := RX2) (T := TX2) (N := 4) hx hb hts in_X2 tyX2 tyX2_ok nmX2 hown hK hP hD hS hT h_cu rfl 0 (by decide) (hts _ kl_RX9_60) (fun _ h9 => h9) rfl (by decide +kernel) rfl rfl rfl ⟨_, rfl⟩ dX9_clear_17 (ph2 := (rp_G (rp_Pe ps) cu na pr ch nf9 True False False)) (fun j fs hj hl h => rp_Gx j fs hj hl h) (fun ws_10 H locs hT hfd_11 hP hD hS => ?_)
  refine lv_aload_n hx hb dX9_clear_20 rfl (lv_at hl 0 rfl) ?_
  refine ty_getD (v := .ref pr) (E := []) (ws := ws_10) (D := D) (ci := 9) (C := RX9) (T := TX9) (N := 8) hx hb hts in_X9 hown hK hP hD hT h_sp rfl 3 (by decide) (hts _ kl_RX9_28) (fun _ h9 => h9) (ty_fcd hT.2.1.2.2.1) dX9_clear_21 ?_
  refine lv_iconst (v := 0) hx hb dX9_clear_24 (by decide) ?_
  refine ty_putNT (v := .int 0) (ty := .int) (E := []) (ws := ws_10) (D := D) (ci := 5) (C := RX5) (T := TX5) (N := 5) hx hb hts in_X5 tyX5 tyX5_ok nmX5 hown hK hP hD hS hT h_pr rfl 0 (by decide) (hts _ kl_RX9_63) (fun _ h9 => h9) rfl (by decide +kernel) rfl rfl rfl ⟨_, rfl, by decide⟩ dX9_clear_25 (ph2 := (rp_G (rp_Pe ps) cu na pr ch nf9 True True False)) (fun j fs hj hl h => rp_Gy j fs hj hl h) (fun ws_12 H locs hT hfd_13 hP hD hS => ?_)
  refine lv_aload_n hx hb dX9_clear_28 rfl (lv_at hl 0 rfl) ?_
  refine lv_iconst (v := 0) hx hb dX9_clear_29 (by decide) ?_
  refine ty_putT (v := .int 0) (ty := .int) (E := []) (ws := ws_12) (D := D) (ci := 9) (C := RX9) (T := TX9) (N := 8) hx hb hts in_X9 tyX9 tyX9_ok nmX9 hown hK hP hD hS hT h_sp rfl 4 (by decide) (hts _ kl_RX9_64) (fun _ h9 => h9) rfl (by decide +kernel) rfl rfl rfl ⟨_, rfl⟩ dX9_clear_30 (ph2 := (rp_G (rp_Pe ps) cu na pr ch nf9 True True True)) (fun j fs hj hl h => rp_Gz j fs hj hl h) (fun ws_14 H locs hT hfd_15 hP hD hS => ?_)
  refine lv_aload_n hx hb dX9_clear_33 rfl (lv_at hl 0 rfl) ?_
  refine ty_get (E := []) (ws := ws_14) (D := D) (ci := 9) (C := RX9) (T := TX9) (N := 8) hx hb hts in_X9 hown hK hP hT h_sp rfl 6 (by decide) (hts _ kl_RX9_46) (fun _ h9 => h9) rfl dX9_clear_34 (fun _ hv_16 hf_17 => ?_)
  obtain ⟨a_18, rfl, ha_19⟩ := hv_16
  refine ty_kv (wr := []) (wc := ([] ++ ws_14)) (va_runVN (As := []) (rest := []) ⟨hx, hb, hml, hown, hts⟩ (t_X8_clear l D ct S ws_14 (rp_G (rp_Pe ps) cu na pr ch nf9 True True True) rp_xG a_18 _ hT ha_19 rp_GC rp_G1) (cm_VN 0 hts kc_X8_clear ki_RX8 kl_RX9_67 kv_X8_clear kx_X8_clear kd_X8_clear ⟨Nat.le_of_ble_eq_true rfl, Nat.le_of_ble_eq_true rfl⟩) (ty_preV (wr := []) (E := []) (ws := ws_14) (ci := 8) hP hK hD hS hA hX hT rfl ha_19) rfl rfl hl.1 rfl (lv_room (Nat.le_of_ble_eq_true rfl)) dX9_clear_37 ⟨Nat.le_of_ble_eq_true rfl, Nat.le_of_ble_eq_true rfl⟩) hP hD hS hA (fun u H locs hw_21 hP hD hS => ?_)
  obtain ⟨ws_22, rfl⟩ : ∃ z, z = u := ⟨_, rfl⟩
  have hT := hw_21
  have hP : va_P D vwCl ([] ++ ws_22) H := hP
  have hD : va_D A ([] ++ ws_22) := hD
  refine lv_aload_n hx hb dX9_clear_40 rfl (lv_at hl 0 rfl) ?_
  refine ty_get (E := []) (ws := ws_22) (D := D) (ci := 9) (C := RX9) (T := TX9) (N := 8) hx hb hts in_X9 hown hK hP hT h_sp rfl 7 (by decide) (hts _ kl_RX9_50) (fun _ h9 => h9) rfl dX9_clear_41 (fun _ hv_23 hf_24 => ?_)
  obtain ⟨a_25, rfl, ha_26⟩ := hv_23
  refine ty_kv (wr := []) (wc := ([] ++ ws_22)) (va_runVN (As := []) (rest := []) ⟨hx, hb, hml, hown, hts⟩ (t_X8_clear l D ct S ws_22 (rp_G (rp_Pe ps) cu na pr ch nf9 True True True) rp_xG a_25 _ hT ha_26 rp_GC rp_G1) (cm_VN 0 hts kc_X8_clear ki_RX8 kl_RX9_67 kv_X8_clear kx_X8_clear kd_X8_clear ⟨Nat.le_of_ble_eq_true rfl, Nat.le_of_ble_eq_true rfl⟩) (ty_preV (wr := []) (E := []) (ws := ws_22) (ci := 8) hP hK hD hS hA hX hT rfl ha_26) rfl rfl hl.1 rfl (lv_room (Nat.le_of_ble_eq_true rfl)) dX9_clear_44 ⟨Nat.le_of_ble_eq_true rfl, Nat.le_of_ble_eq_true rfl⟩) hP hD hS hA (fun u H locs hw_28 hP hD hS => ?_)
  obtain ⟨ws_29, rfl⟩ : ∃ z, z = u := ⟨_, rfl⟩
  have hT := hw_28
  have hP : va_P D vwCl ([] ++ ws_29) H := hP
  have hD : va_D A ([] ++ ws_29) := hD
  have hT : ty_V ct S (rp_F (rp_Pe ps) cu na pr ch 0 0 0 nf9) ws_29 := ⟨hT.1, rp_GF hT.2⟩
  exact W.vret hx hb hr (fun t ht hW => ⟨⟨(ws_29, nf9), rfl, hT, by rw [ht]; exact hP, by rw [hAe]; exact hD⟩, hS.F ht⟩) hS.2.2 dX9_clear_47
set_option maxRecDepth 100000 in
set_option maxHeartbeats 4000000 in
theorem r_copyFrom (l : Launch) (D : va_G) (ct : Nat → ClassId) (S : ty_S) (ws : va_W) (ph : va_W → Prop) (xx : Nat → Nat → Nat → Prop) (h0 : Nat) (p1 : Nat) (tm : Int32) (nc : Int32) (sz : Nat) (hT : ty_V ct S ph ws) (h_h0 : S h0 = some (.inl 9)) (h_p1 : S p1 = some (.inl 9)) (hph : ty_C ph xx) (hy1 : ty_y1 xx) (hy2 : ty_y0 xx 2) (hy5 : ty_y0 xx 5) (hy7 : ty_yc xx 7) (hy11 : ty_y0 xx 11) (hyh : xx 9 0 h0 ∧ xx 9 4 h0) (hO : ∀ ws : va_W, ph ws → ty_fc p1 9 0 (.int tm) ws ∧ ty_fc p1 9 4 (.int nc) ws) : Met l yX9_copyFrom (ws_ yX9_copyFrom cX9_copyFrom 5 none) ({ frames := 4, cells := 0, slots := 0, locals := 143 } : Room) (va_Pc [.ref h0, .ref p1] (cmP D ct sz ([] ++ ws))) (va_Qv (fun (u9 : va_W) => ty_V ct S (fun ws => (ph ws ∧ ty_fc h0 9 0 (.int tm) ws) ∧ ty_fc h0 9 4 (.int nc) ws) u9) (cmB D ([] ++ ws) sz (fun (u9 : va_W) => ([] ++ u9))) (va_A ([] ++ ws) sz)) 0 0 (va_A ([] ++ ws) sz) := by
  refine Met.ofW (cc := cX9_copyFrom) (maxL := 5) (ret := none) (by decide) rfl ?_
  intro p e s m args below meth c s₁ B hml hv
  obtain ⟨rfl, hsz, hP, hK, hD0, hX⟩ := hv
  have hx := B.exec
  have hb := B.bytes
  have hr := B.returns
  have hts := ws_all (atoms_spec (ws := ws_ yX9_copyFrom cX9_copyFrom 5 none) B.pre)
  have hown : s.vm.findClass RX9 = some m.cls := findClass_of_methodNamed B.named
  have hlocks := B.notSynchronized
  subst hsz
  have hD := hD0.self (sz := s.heap.size)
  generalize hAe : va_A ([] ++ ws) s.heap.size = A at hD hX ⊢
  have hA : ∀ q : Nat, s.heap.size ≤ q → A q := fun q h => by rw [← hAe]; exact Or.inr h
  have hS : va_S A s.heap s.heap [] := va_S.rf
  have hl := lv_entry ([.ref h0, .ref p1]) (n := 5) (Nat.le_of_ble_eq_true rfl)
  rw [lg_entry_eq]
  generalize (lg_sl ([.ref h0, .ref p1]) ++ List.replicate (5 - (lg_sl ([.ref h0, .ref p1])).length) Slot.unset).toArray = ls at hl ⊢
  have hl : lv_has ls 5 [(0, .ref h0), (1, .ref p1)] := hl
  refine lv_aload_n hx hb dX9_copyFrom_0 rfl (lv_at hl 0 rfl) ?_
  refine lv_aload_n hx hb dX9_copyFrom_1 rfl (lv_at hl 1 rfl) ?_
  refine ty_getD (v := .int tm) (E := []) (ws := ws) (D := D) (ci := 9) (C := RX9) (T := TX9) (N := 8) hx hb hts in_X9 hown hK hP hD hT h_p1 rfl 0 (by decide) (hts _ kl_RX9_53) (fun _ h9 => h9) (ty_fcd (hO _ hT.2).1) dX9_copyFrom_2 ?_
  refine ty_putT (v := .int tm) (ty := .int) (E := []) (ws := ws) (D := D) (ci := 9) (C := RX9) (T := TX9) (N := 8) hx hb hts in_X9 tyX9 tyX9_ok nmX9 hown hK hP hD hS hT h_h0 rfl 0 (by decide) (hts _ kl_RX9_53) (fun _ h9 => h9) rfl (by decide +kernel) rfl rfl rfl ⟨_, rfl⟩ dX9_copyFrom_5 (ph2 := (fun ws => ph ws ∧ ty_fc h0 9 0 (.int tm) ws)) (fun j fs hj hl h => rp_cv hph hyh.1 (by decide) j fs hj hl h) (fun ws_1 H locs hT hfd_2 hP hD hS => ?_)
  refine lv_aload_n hx hb dX9_copyFrom_8 rfl (lv_at hl 0 rfl) ?_
  refine ty_get (E := []) (ws := ws_1) (D := D) (ci := 9) (C := RX9) (T := TX9) (N := 8) hx hb hts in_X9 hown hK hP hT h_h0 rfl 1 (by decide) (hts _ kl_RX9_12) (fun _ h9 => h9) rfl dX9_copyFrom_9 (fun _ hv_3 hf_4 => ?_)
  obtain ⟨a_5, rfl, ha_6⟩ := hv_3
  refine lv_aload_n hx hb dX9_copyFrom_12 rfl (lv_at hl 1 rfl) ?_
  refine ty_get (E := []) (ws := ws_1) (D := D) (ci := 9) (C := RX9) (T := TX9) (N := 8) hx hb hts in_X9 hown hK hP hT h_p1 rfl 1 (by decide) (hts _ kl_RX9_12) (fun _ h9 => h9) rfl dX9_copyFrom_13 (fun _ hv_7 hf_8 => ?_)
  obtain ⟨a_9, rfl, ha_10⟩ := hv_7
  refine ty_kv (wr := []) (wc := ([] ++ ws_1)) (va_runVN (As := [.ref a_9]) (rest := []) ⟨hx, hb, hml, hown, hts⟩ (t_X7_copyFrom l D ct S ws_1 (fun ws => ph ws ∧ ty_fc h0 9 0 (.int tm) ws) (fun c k b => xx c k b ∧ ¬ (c = 9 ∧ k = 0 ∧ b = h0)) a_5 a_9 _ hT ha_6 ha_10 (ty_Cand hph ty_fcB) (rp_m1 hy1) (rp_m7 hy7)) (cm_VN 1 hts kc_X7_copyFrom ki_RX7 kl_RX9_112 kv_X7_copyFrom kx_X7_copyFrom kd_X7_copyFrom ⟨Nat.le_of_ble_eq_true rfl, Nat.le_of_ble_eq_true rfl⟩) (ty_preV (wr := []) (E := []) (ws := ws_1) (ci := 7) hP hK hD hS hA hX hT rfl ha_6) rfl rfl hl.1 rfl (lv_room (Nat.le_of_ble_eq_true rfl)) dX9_copyFrom_16 ⟨Nat.le_of_ble_eq_true rfl, Nat.le_of_ble_eq_true rfl⟩) hP hD hS hA (fun u H locs hw_12 hP hD hS => ?_)
  obtain ⟨ws_13, rfl⟩ : ∃ z, z = u := ⟨_, rfl⟩
  have hT := hw_12
  have hP : va_P D vwCl ([] ++ ws_13) H := hP
  have hD : va_D A ([] ++ ws_13) := hD
  refine lv_aload_n hx hb dX9_copyFrom_19 rfl (lv_at hl 0 rfl) ?_
  refine ty_get (E := []) (ws := ws_13) (D := D) (ci := 9) (C := RX9) (T := TX9) (N := 8) hx hb hts in_X9 hown hK hP hT h_h0 rfl 2 (by decide) (hts _ kl_RX9_21) (fun _ h9 => h9) rfl dX9_copyFrom_20 (fun _ hv_14 hf_15 => ?_)
  obtain ⟨a_16, rfl, ha_17⟩ := hv_14
  refine lv_aload_n hx hb dX9_copyFrom_23 rfl (lv_at hl 1 rfl) ?_
  refine ty_get (E := []) (ws := ws_13) (D := D) (ci := 9) (C := RX9) (T := TX9) (N := 8) hx hb hts in_X9 hown hK hP hT h_p1 rfl 2 (by decide) (hts _ kl_RX9_21) (fun _ h9 => h9) rfl dX9_copyFrom_24 (fun _ hv_18 hf_19 => ?_)
  obtain ⟨a_20, rfl, ha_21⟩ := hv_18
  refine ty_kv (wr := []) (wc := ([] ++ ws_13)) (va_runVN (As := [.ref a_20]) (rest := []) ⟨hx, hb, hml, hown, hts⟩ (t_X2_copyFrom l D ct S ws_13 (fun ws => ph ws ∧ ty_fc h0 9 0 (.int tm) ws) (fun c k b => xx c k b ∧ ¬ (c = 9 ∧ k = 0 ∧ b = h0)) a_16 a_20 _ hT ha_17 ha_21 (ty_Cand hph ty_fcB) (rp_m1 hy1) (rp_m0 (by decide) hy2) (rp_m0 (by decide) hy11)) (cm_VN 1 hts kc_X2_copyFrom ki_RX2 kl_RX9_116 kv_X2_copyFrom kx_X2_copyFrom kd_X2_copyFrom ⟨Nat.le_of_ble_eq_true rfl, Nat.le_of_ble_eq_true rfl⟩) (ty_preV (wr := []) (E := []) (ws := ws_13) (ci := 2) hP hK hD hS hA hX hT rfl ha_17) rfl rfl hl.1 rfl (lv_room (Nat.le_of_ble_eq_true rfl)) dX9_copyFrom_27 ⟨Nat.le_of_ble_eq_true rfl, Nat.le_of_ble_eq_true rfl⟩) hP hD hS hA (fun u H locs hw_23 hP hD hS => ?_)
  obtain ⟨ws_24, rfl⟩ : ∃ z, z = u := ⟨_, rfl⟩
  have hT := hw_23
  have hP : va_P D vwCl ([] ++ ws_24) H := hP
  have hD : va_D A ([] ++ ws_24) := hD
  refine lv_aload_n hx hb dX9_copyFrom_30 rfl (lv_at hl 0 rfl) ?_
  refine ty_get (E := []) (ws := ws_24) (D := D) (ci := 9) (C := RX9) (T := TX9) (N := 8) hx hb hts in_X9 hown hK hP hT h_h0 rfl 3 (by decide) (hts _ kl_RX9_28) (fun _ h9 => h9) rfl dX9_copyFrom_31 (fun _ hv_25 hf_26 => ?_)
  obtain ⟨a_27, rfl, ha_28⟩ := hv_25
  refine lv_aload_n hx hb dX9_copyFrom_34 rfl (lv_at hl 1 rfl) ?_
  refine ty_get (E := []) (ws := ws_24) (D := D) (ci := 9) (C := RX9) (T := TX9) (N := 8) hx hb hts in_X9 hown hK hP hT h_p1 rfl 3 (by decide) (hts _ kl_RX9_28) (fun _ h9 => h9) rfl dX9_copyFrom_35 (fun _ hv_29 hf_30 => ?_)
  obtain ⟨a_31, rfl, ha_32⟩ := hv_29
  refine ty_kv (wr := []) (wc := ([] ++ ws_24)) (va_runVN (As := [.ref a_31]) (rest := []) ⟨hx, hb, hml, hown, hts⟩ (t_X5_copyFrom l D ct S ws_24 (fun ws => ph ws ∧ ty_fc h0 9 0 (.int tm) ws) (fun c k b => xx c k b ∧ ¬ (c = 9 ∧ k = 0 ∧ b = h0)) a_27 a_31 _ hT ha_28 ha_32 (ty_Cand hph ty_fcB) (rp_m1 hy1) (rp_m0 (by decide) hy5)) (cm_VN 1 hts kc_X5_copyFrom ki_RX5 kl_RX9_119 kv_X5_copyFrom kx_X5_copyFrom kd_X5_copyFrom ⟨Nat.le_of_ble_eq_true rfl, Nat.le_of_ble_eq_true rfl⟩) (ty_preV (wr := []) (E := []) (ws := ws_24) (ci := 5) hP hK hD hS hA hX hT rfl ha_28) rfl rfl hl.1 rfl (lv_room (Nat.le_of_ble_eq_true rfl)) dX9_copyFrom_38 ⟨Nat.le_of_ble_eq_true rfl, Nat.le_of_ble_eq_true rfl⟩) hP hD hS hA (fun u H locs hw_34 hP hD hS => ?_)
  obtain ⟨ws_35, rfl⟩ : ∃ z, z = u := ⟨_, rfl⟩
  have hT := hw_34
  have hP : va_P D vwCl ([] ++ ws_35) H := hP
  have hD : va_D A ([] ++ ws_35) := hD
  refine lv_aload_n hx hb dX9_copyFrom_41 rfl (lv_at hl 0 rfl) ?_
  refine lv_aload_n hx hb dX9_copyFrom_42 rfl (lv_at hl 1 rfl) ?_
  refine ty_getD (v := .int nc) (E := []) (ws := ws_35) (D := D) (ci := 9) (C := RX9) (T := TX9) (N := 8) hx hb hts in_X9 hown hK hP hD hT h_p1 rfl 4 (by decide) (hts _ kl_RX9_64) (fun _ h9 => h9) (ty_fcd (hO _ hT.2.1).2) dX9_copyFrom_43 ?_
  refine ty_putT (v := .int nc) (ty := .int) (E := []) (ws := ws_35) (D := D) (ci := 9) (C := RX9) (T := TX9) (N := 8) hx hb hts in_X9 tyX9 tyX9_ok nmX9 hown hK hP hD hS hT h_h0 rfl 4 (by decide) (hts _ kl_RX9_64) (fun _ h9 => h9) rfl (by decide +kernel) rfl rfl rfl ⟨_, rfl⟩ dX9_copyFrom_46 (ph2 := (fun ws => (ph ws ∧ ty_fc h0 9 0 (.int tm) ws) ∧ ty_fc h0 9 4 (.int nc) ws)) (fun j fs hj hl h => rp_cv (ty_Cand hph ty_fcB) ⟨hyh.2, (fun q => absurd q.2.1 (by decide))⟩ (by decide) j fs hj hl h) (fun ws_36 H locs hT hfd_37 hP hD hS => ?_)
  refine lv_iconst (v := 0) hx hb dX9_copyFrom_49 (by decide) ?_
  refine lv_istore_n (lv' := [(2, .int 0), (0, .ref h0), (1, .ref p1)]) hx hb dX9_copyFrom_50 rfl hl (by decide) rfl (fun ls hl => ?_)
  refine ty_loop (I := fun μ H locs ls => ∃ (ws : va_W) (y_38 : Int32), μ = (2147483648 - y_38.toInt).toNat ∧ ty_V ct S (fun ws => (ph ws ∧ ty_fc h0 9 0 (.int tm) ws) ∧ ty_fc h0 9 4 (.int nc) ws) ws ∧ va_P D vwCl ([] ++ ws) H ∧ va_D A ([] ++ ws) ∧ va_S A s.heap H locs ∧ lv_has ls 5 [(0, .ref h0), (1, .ref p1), (2, .int y_38)]) ⟨_, ws_36, (0 : Int32), rfl, hT, hP, hD, hS, (lv_sub hl [1, 2, 0] rfl)⟩ (fun μ H locs ls hI ih_51 => ?_)
  obtain ⟨ws, y_38, rfl, hT, hP, hD, hS, hl⟩ := hI
  refine lv_iload_n hx hb dX9_copyFrom_51 rfl (lv_at hl 2 rfl) ?_
  refine lv_aload_n hx hb dX9_copyFrom_52 rfl (lv_at hl 0 rfl) ?_
  refine ty_getD (v := .int nc) (E := []) (ws := ws) (D := D) (ci := 9) (C := RX9) (T := TX9) (N := 8) hx hb hts in_X9 hown hK hP hD hT h_h0 rfl 4 (by decide) (hts _ kl_RX9_64) (fun _ h9 => h9) (ty_fcd hT.2.2) dX9_copyFrom_53 ?_
  refine lv_icmp_ge (tgt := 93) hx hb dX9_copyFrom_56 (by decide) (fun hc_39 => ?_) (fun hc_39 => ?_)
  · refine lv_aload_n hx hb dX9_copyFrom_93 rfl (lv_at hl 0 rfl) ?_
    refine ty_get (E := []) (ws := ws) (D := D) (ci := 9) (C := RX9) (T := TX9) (N := 8) hx hb hts in_X9 hown hK hP hT h_h0 rfl 6 (by decide) (hts _ kl_RX9_46) (fun _ h9 => h9) rfl dX9_copyFrom_94 (fun _ hv_40 hf_41 => ?_)
    obtain ⟨a_42, rfl, ha_43⟩ := hv_40
    refine lv_aload_n hx hb dX9_copyFrom_97 rfl (lv_at hl 1 rfl) ?_
    refine ty_get (E := []) (ws := ws) (D := D) (ci := 9) (C := RX9) (T := TX9) (N := 8) hx hb hts in_X9 hown hK hP hT h_p1 rfl 6 (by decide) (hts _ kl_RX9_46) (fun _ h9 => h9) rfl dX9_copyFrom_98 (fun _ hv_44 hf_45 => ?_)
    obtain ⟨a_46, rfl, ha_47⟩ := hv_44
    refine ty_kv (wr := []) (wc := ([] ++ ws)) (va_runVN (As := [.ref a_46]) (rest := []) ⟨hx, hb, hml, hown, hts⟩ (t_X8_copyFrom l D ct S ws (fun ws => (ph ws ∧ ty_fc h0 9 0 (.int tm) ws) ∧ ty_fc h0 9 4 (.int nc) ws) (fun c k b => (xx c k b ∧ ¬ (c = 9 ∧ k = 0 ∧ b = h0)) ∧ ¬ (c = 9 ∧ k = 4 ∧ b = h0)) a_42 a_46 _ hT ha_43 ha_47 (ty_Cand (ty_Cand hph ty_fcB) ty_fcB) (rp_m1 (rp_m1 hy1))) (cm_VN 1 hts kc_X8_copyFrom ki_RX8 kl_RX9_125 kv_X8_copyFrom kx_X8_copyFrom kd_X8_copyFrom ⟨Nat.le_of_ble_eq_true rfl, Nat.le_of_ble_eq_true rfl⟩) (ty_preV (wr := []) (E := []) (ws := ws) (ci := 8) hP hK hD hS hA hX hT rfl ha_43) rfl rfl hl.1 rfl (lv_room (Nat.le_of_ble_eq_true rfl)) dX9_copyFrom_101 ⟨Nat.le_of_ble_eq_true rfl, Nat.le_of_ble_eq_true rfl⟩) hP hD hS hA (fun u H locs hw_49 hP hD hS => ?_)
    obtain ⟨ws_50, rfl⟩ : ∃ z, z = u := ⟨_, rfl⟩
    have hT := hw_49
    have hP : va_P D vwCl ([] ++ ws_50) H := hP
    have hD : va_D A ([] ++ ws_50) := hD
    refine lv_aload_n hx hb dX9_copyFrom_104 rfl (lv_at hl 0 rfl) ?_
    refine ty_get (E := []) (ws := ws_50) (D := D) (ci := 9) (C := RX9) (T := TX9) (N := 8) hx hb hts in_X9 hown hK hP hT h_h0 rfl 7 (by decide) (hts _ kl_RX9_50) (fun _ h9 => h9) rfl dX9_copyFrom_105 (fun _ hv_51 hf_52 => ?_)
    obtain ⟨a_53, rfl, ha_54⟩ := hv_51
    refine lv_aload_n hx hb dX9_copyFrom_108 rfl (lv_at hl 1 rfl) ?_
    refine ty_get (E := []) (ws := ws_50) (D := D) (ci := 9) (C := RX9) (T := TX9) (N := 8) hx hb hts in_X9 hown hK hP hT h_p1 rfl 7 (by decide) (hts _ kl_RX9_50) (fun _ h9 => h9) rfl dX9_copyFrom_109 (fun _ hv_55 hf_56 => ?_)
    obtain ⟨a_57, rfl, ha_58⟩ := hv_55
    refine ty_kv (wr := []) (wc := ([] ++ ws_50)) (va_runVN (As := [.ref a_57]) (rest := []) ⟨hx, hb, hml, hown, hts⟩ (t_X8_copyFrom l D ct S ws_50 (fun ws => (ph ws ∧ ty_fc h0 9 0 (.int tm) ws) ∧ ty_fc h0 9 4 (.int nc) ws) (fun c k b => (xx c k b ∧ ¬ (c = 9 ∧ k = 0 ∧ b = h0)) ∧ ¬ (c = 9 ∧ k = 4 ∧ b = h0)) a_53 a_57 _ hT ha_54 ha_58 (ty_Cand (ty_Cand hph ty_fcB) ty_fcB) (rp_m1 (rp_m1 hy1))) (cm_VN 1 hts kc_X8_copyFrom ki_RX8 kl_RX9_125 kv_X8_copyFrom kx_X8_copyFrom kd_X8_copyFrom ⟨Nat.le_of_ble_eq_true rfl, Nat.le_of_ble_eq_true rfl⟩) (ty_preV (wr := []) (E := []) (ws := ws_50) (ci := 8) hP hK hD hS hA hX hT rfl ha_54) rfl rfl hl.1 rfl (lv_room (Nat.le_of_ble_eq_true rfl)) dX9_copyFrom_112 ⟨Nat.le_of_ble_eq_true rfl, Nat.le_of_ble_eq_true rfl⟩) hP hD hS hA (fun u H locs hw_60 hP hD hS => ?_)
    obtain ⟨ws_61, rfl⟩ : ∃ z, z = u := ⟨_, rfl⟩
    have hT := hw_60
    have hP : va_P D vwCl ([] ++ ws_61) H := hP
    have hD : va_D A ([] ++ ws_61) := hD
    exact W.vret hx hb hr (fun t ht hW => ⟨⟨ws_61, rfl, hT, by rw [ht]; exact hP, by rw [hAe]; exact hD⟩, hS.F ht⟩) hS.2.2 dX9_copyFrom_115
  · refine lv_aload_n hx hb dX9_copyFrom_59 rfl (lv_at hl 1 rfl) ?_
    refine lv_iload_n hx hb dX9_copyFrom_60 rfl (lv_at hl 2 rfl) ?_
    refine ty_kq (wr := []) (wc := ([] ++ ws)) (va_runV (As := [.int y_38]) (rest := []) ⟨hx, hb, hml, hown, hts⟩ (t_X9_channelAt l D ct S ws (fun ws => (ph ws ∧ ty_fc h0 9 0 (.int tm) ws) ∧ ty_fc h0 9 4 (.int nc) ws) (fun c k b => (xx c k b ∧ ¬ (c = 9 ∧ k = 0 ∧ b = h0)) ∧ ¬ (c = 9 ∧ k = 4 ∧ b = h0)) p1 y_38 _ hT h_p1 (ty_Cand (ty_Cand hph ty_fcB) ty_fcB) (rp_m1 (rp_m1 hy1))) (cm_V 1 hts kc_X9_channelAt ki_RX9 kl_RX9_68 kv_X9_channelAt kx_X9_channelAt kd_X9_channelAt ⟨Nat.le_of_ble_eq_true rfl, Nat.le_of_ble_eq_true rfl⟩) (ty_preV (wr := []) (E := []) (ws := ws) (ci := 9) hP hK hD hS hA hX hT rfl h_p1) rfl rfl hl.1 rfl (lv_room (Nat.le_of_ble_eq_true rfl)) dX9_copyFrom_61 ⟨Nat.le_of_ble_eq_true rfl, Nat.le_of_ble_eq_true rfl⟩) hP hD hS hA (fun r_62 u H locs hw_63 hP hD hS => ?_)
    obtain ⟨ws_64, rfl⟩ : ∃ z, z = u := ⟨_, rfl⟩
    obtain ⟨hT, hq_65⟩ := hw_63
    have hP : va_P D vwCl ([] ++ ws_64) H := hP
    have hD : va_D A ([] ++ ws_64) := hD
    rcases hq_65 with rfl | ⟨a_66, rfl, ha_67⟩
    · refine W.eq (g2 := F0 m 64 ls (.null :: [])) rfl ?_
      refine lv_astore_nN (lv' := [(3, .null), (0, .ref h0), (1, .ref p1), (2, .int y_38)]) hx hb dX9_copyFrom_64 rfl hl (by decide) rfl (fun ls hl => ?_)
      refine lv_aload_n hx hb dX9_copyFrom_65 rfl (lv_at hl 1 rfl) ?_
      refine lv_iload_n hx hb dX9_copyFrom_66 rfl (lv_at hl 3 rfl) ?_
      refine ty_kq (wr := []) (wc := ([] ++ ws_64)) (va_runV (As := [.int y_38]) (rest := []) ⟨hx, hb, hml, hown, hts⟩ (t_X9_channelAt l D ct S ws_64 (fun ws => (ph ws ∧ ty_fc h0 9 0 (.int tm) ws) ∧ ty_fc h0 9 4 (.int nc) ws) (fun c k b => (xx c k b ∧ ¬ (c = 9 ∧ k = 0 ∧ b = h0)) ∧ ¬ (c = 9 ∧ k = 4 ∧ b = h0)) h0 y_38 _ hT h_h0 (ty_Cand (ty_Cand hph ty_fcB) ty_fcB) (rp_m1 (rp_m1 hy1))) (cm_V 1 hts kc_X9_channelAt ki_RX9 kl_RX9_68 kv_X9_channelAt kx_X9_channelAt kd_X9_channelAt ⟨Nat.le_of_ble_eq_true rfl, Nat.le_of_ble_eq_true rfl⟩) (ty_preV (wr := []) (E := []) (ws := ws_64) (ci := 9) hP hK hD hS hA hX hT rfl h_h0) rfl rfl hl.1 rfl (lv_room (Nat.le_of_ble_eq_true rfl)) dX9_copyFrom_67 ⟨Nat.le_of_ble_eq_true rfl, Nat.le_of_ble_eq_true rfl⟩) hP hD hS hA (fun r_68 u H locs hw_69 hP hD hS => ?_)
      obtain ⟨ws_70, rfl⟩ : ∃ z, z = u := ⟨_, rfl⟩
      obtain ⟨hT, hq_71⟩ := hw_69
      have hP : va_P D vwCl ([] ++ ws_70) H := hP
      have hD : va_D A ([] ++ ws_70) := hD
      rcases hq_71 with rfl | ⟨a_72, rfl, ha_73⟩
      · refine W.eq (g2 := F0 m 70 ls (.null :: [])) rfl ?_
        refine lv_astoreN (lv' := [(4, .null), (3, .null), (0, .ref h0), (1, .ref p1), (2, .int y_38)]) hx hb dX9_copyFrom_70 hl (by decide) rfl (fun ls hl => ?_)
        refine lv_aload_nN hx hb dX9_copyFrom_72 rfl (lv_at hl 1 rfl) ?_
        refine lv_ifnullN (tgt := 87) hx hb dX9_copyFrom_73 (by decide) ?_
        refine lv_iinc (v := (y_38 + Int32.ofInt 1)) (lv' := [(2, .int (y_38 + Int32.ofInt 1)), (4, .null), (3, .null), (0, .ref h0), (1, .ref p1)]) hx hb dX9_copyFrom_87 hl (k := 4) rfl rfl (by decide) rfl (fun ls hl => ?_)
        refine lv_goto (tgt := 51) hx hb dX9_copyFrom_90 (by decide) ?_
        exact ih_51 _ _ _ _ (ty_inc (cm_lt hc_39)) ⟨ws_70, (y_38 + Int32.ofInt 1), rfl, hT, hP, hD, hS, (lv_sub hl [3, 4, 0] rfl)⟩
      · refine W.eq (g2 := F0 m 70 ls (.ref a_72 :: [])) rfl ?_
        refine lv_astore (lv' := [(4, .ref a_72), (3, .null), (0, .ref h0), (1, .ref p1), (2, .int y_38)]) hx hb dX9_copyFrom_70 hl (by decide) rfl (fun ls hl => ?_)
        refine lv_aload_nN hx hb dX9_copyFrom_72 rfl (lv_at hl 1 rfl) ?_
        refine lv_ifnullN (tgt := 87) hx hb dX9_copyFrom_73 (by decide) ?_
        refine lv_iinc (v := (y_38 + Int32.ofInt 1)) (lv' := [(2, .int (y_38 + Int32.ofInt 1)), (4, .ref a_72), (3, .null), (0, .ref h0), (1, .ref p1)]) hx hb dX9_copyFrom_87 hl (k := 4) rfl rfl (by decide) rfl (fun ls hl => ?_)
        refine lv_goto (tgt := 51) hx hb dX9_copyFrom_90 (by decide) ?_
        exact ih_51 _ _ _ _ (ty_inc (cm_lt hc_39)) ⟨ws_70, (y_38 + Int32.ofInt 1), rfl, hT, hP, hD, hS, (lv_sub hl [3, 4, 0] rfl)⟩
    · refine W.eq (g2 := F0 m 64 ls (.ref a_66 :: [])) rfl ?_
      refine lv_astore_n (lv' := [(3, .ref a_66), (0, .ref h0), (1, .ref p1), (2, .int y_38)]) hx hb dX9_copyFrom_64 rfl hl (by decide) rfl (fun ls hl => ?_)
      refine lv_aload_n hx hb dX9_copyFrom_65 rfl (lv_at hl 1 rfl) ?_
      refine lv_iload_n hx hb dX9_copyFrom_66 rfl (lv_at hl 3 rfl) ?_
      refine ty_kq (wr := []) (wc := ([] ++ ws_64)) (va_runV (As := [.int y_38]) (rest := []) ⟨hx, hb, hml, hown, hts⟩ (t_X9_channelAt l D ct S ws_64 (fun ws => (ph ws ∧ ty_fc h0 9 0 (.int tm) ws) ∧ ty_fc h0 9 4 (.int nc) ws) (fun c k b => (xx c k b ∧ ¬ (c = 9 ∧ k = 0 ∧ b = h0)) ∧ ¬ (c = 9 ∧ k = 4 ∧ b = h0)) h0 y_38 _ hT h_h0 (ty_Cand (ty_Cand hph ty_fcB) ty_fcB) (rp_m1 (rp_m1 hy1))) (cm_V 1 hts kc_X9_channelAt ki_RX9 kl_RX9_68 kv_X9_channelAt kx_X9_channelAt kd_X9_channelAt ⟨Nat.le_of_ble_eq_true rfl, Nat.le_of_ble_eq_true rfl⟩) (ty_preV (wr := []) (E := []) (ws := ws_64) (ci := 9) hP hK hD hS hA hX hT rfl h_h0) rfl rfl hl.1 rfl (lv_room (Nat.le_of_ble_eq_true rfl)) dX9_copyFrom_67 ⟨Nat.le_of_ble_eq_true rfl, Nat.le_of_ble_eq_true rfl⟩) hP hD hS hA (fun r_74 u H locs hw_75 hP hD hS => ?_)
      obtain ⟨ws_76, rfl⟩ : ∃ z, z = u := ⟨_, rfl⟩
      obtain ⟨hT, hq_77⟩ := hw_75
      have hP : va_P D vwCl ([] ++ ws_76) H := hP
      have hD : va_D A ([] ++ ws_76) := hD
      rcases hq_77 with rfl | ⟨a_78, rfl, ha_79⟩
      · refine W.eq (g2 := F0 m 70 ls (.null :: [])) rfl ?_
        refine lv_astoreN (lv' := [(4, .null), (3, .ref a_66), (0, .ref h0), (1, .ref p1), (2, .int y_38)]) hx hb dX9_copyFrom_70 hl (by decide) rfl (fun ls hl => ?_)
        refine lv_aload_n hx hb dX9_copyFrom_72 rfl (lv_at hl 1 rfl) ?_
        refine lv_ifnull hx hb dX9_copyFrom_73 ?_
        refine lv_aloadN hx hb dX9_copyFrom_76 (lv_at hl 0 rfl) ?_
        refine lv_ifnullN (tgt := 87) hx hb dX9_copyFrom_78 (by decide) ?_
        refine lv_iinc (v := (y_38 + Int32.ofInt 1)) (lv' := [(2, .int (y_38 + Int32.ofInt 1)), (4, .null), (3, .ref a_66), (0, .ref h0), (1, .ref p1)]) hx hb dX9_copyFrom_87 hl (k := 4) rfl rfl (by decide) rfl (fun ls hl => ?_)
        refine lv_goto (tgt := 51) hx hb dX9_copyFrom_90 (by decide) ?_
        exact ih_51 _ _ _ _ (ty_inc (cm_lt hc_39)) ⟨ws_76, (y_38 + Int32.ofInt 1), rfl, hT, hP, hD, hS, (lv_sub hl [3, 4, 0] rfl)⟩
      · refine W.eq (g2 := F0 m 70 ls (.ref a_78 :: [])) rfl ?_
        refine lv_astore (lv' := [(4, .ref a_78), (3, .ref a_66), (0, .ref h0), (1, .ref p1), (2, .int y_38)]) hx hb dX9_copyFrom_70 hl (by decide) rfl (fun ls hl => ?_)
        refine lv_aload_n hx hb dX9_copyFrom_72 rfl (lv_at hl 1 rfl) ?_
        refine lv_ifnull hx hb dX9_copyFrom_73 ?_
        refine lv_aload hx hb dX9_copyFrom_76 (lv_at hl 0 rfl) ?_
        refine lv_ifnull hx hb dX9_copyFrom_78 ?_
        refine lv_aload hx hb dX9_copyFrom_81 (lv_at hl 0 rfl) ?_
        refine lv_aload_n hx hb dX9_copyFrom_83 rfl (lv_at hl 1 rfl) ?_
        refine ty_kv (wr := []) (wc := ([] ++ ws_76)) (va_runVN (As := [.ref a_66]) (rest := []) ⟨hx, hb, hml, hown, hts⟩ (t_X1_copyFrom l D ct S ws_76 (fun ws => (ph ws ∧ ty_fc h0 9 0 (.int tm) ws) ∧ ty_fc h0 9 4 (.int nc) ws) (fun c k b => (xx c k b ∧ ¬ (c = 9 ∧ k = 0 ∧ b = h0)) ∧ ¬ (c = 9 ∧ k = 4 ∧ b = h0)) a_78 a_66 _ hT ha_79 ha_67 (ty_Cand (ty_Cand hph ty_fcB) ty_fcB) (rp_m1 (rp_m1 hy1))) (cm_VN 1 hts kc_X1_copyFrom ki_RX1 kl_RX9_122 kv_X1_copyFrom kx_X1_copyFrom kd_X1_copyFrom ⟨Nat.le_of_ble_eq_true rfl, Nat.le_of_ble_eq_true rfl⟩) (ty_preV (wr := []) (E := []) (ws := ws_76) (ci := 1) hP hK hD hS hA hX hT rfl ha_79) rfl rfl hl.1 rfl (lv_room (Nat.le_of_ble_eq_true rfl)) dX9_copyFrom_84 ⟨Nat.le_of_ble_eq_true rfl, Nat.le_of_ble_eq_true rfl⟩) hP hD hS hA (fun u H locs hw_81 hP hD hS => ?_)
        obtain ⟨ws_82, rfl⟩ : ∃ z, z = u := ⟨_, rfl⟩
        have hT := hw_81
        have hP : va_P D vwCl ([] ++ ws_82) H := hP
        have hD : va_D A ([] ++ ws_82) := hD
        refine lv_iinc (v := (y_38 + Int32.ofInt 1)) (lv' := [(2, .int (y_38 + Int32.ofInt 1)), (4, .ref a_78), (3, .ref a_66), (0, .ref h0), (1, .ref p1)]) hx hb dX9_copyFrom_87 hl (k := 4) rfl rfl (by decide) rfl (fun ls hl => ?_)
        refine lv_goto (tgt := 51) hx hb dX9_copyFrom_90 (by decide) ?_
        exact ih_51 _ _ _ _ (ty_inc (cm_lt hc_39)) ⟨ws_82, (y_38 + Int32.ofInt 1), rfl, hT, hP, hD, hS, (lv_sub hl [3, 4, 0] rfl)⟩
set_option maxRecDepth 100000 in
set_option maxHeartbeats 4000000 in
theorem r_needRange (l : Launch) (hfl : l.stackTraces = false) (D : va_G) (ct : Nat → ClassId) (S : ty_S) (ws : va_W) (ph : va_W → Prop) (xx : Nat → Nat → Nat → Prop) (p1 : Int32) (p2 : Int32) (p3 : Int32) (sz : Nat) (hT : ty_V ct S ph ws) (hph : ty_C ph xx) (hy1 : ty_y1 xx) : vx_Met l yX10_needRange (ws_ yX10_needRange cX10_needRange 3 none) ({ frames := 6, cells := 1, slots := 6, locals := 90 } : Room) (va_Pc [.int p1, .int p2, .int p3] (cmP D ct sz ([] ++ ws))) (va_Qv (fun (u9 : va_W) => ty_V ct S ph u9 ∧ p2.toInt ≤ p1.toInt ∧ p1.toInt ≤ p3.toInt) (cmB D ([] ++ ws) sz (fun (u9 : va_W) => ([] ++ u9))) (va_A ([] ++ ws) sz)) (vx_X (fun (u9 : va_W) => ty_V ct S ph u9 ∧ ¬ (p2.toInt ≤ p1.toInt ∧ p1.toInt ≤ p3.toInt)) (cmBY D ([] ++ ws) sz ["java/lang/IllegalArgumentException"] (fun (u9 : va_W) => ([] ++ u9))) (va_A ([] ++ ws) sz)) 1 6 (va_A ([] ++ ws) sz) := by
  refine vx_ofW (cc := cX10_needRange) (maxL := 3) (ret := none) (by decide) rfl ?_
  intro p e s m args below meth c s₁ B hml hex hv
  obtain ⟨rfl, hsz, hP, hK, hD0, hX⟩ := hv
  have hx := B.exec
  have hb := B.bytes
  have hr := B.returns
  have hts := ws_all (atoms_spec (ws := ws_ yX10_needRange cX10_needRange 3 none) B.pre)
  have hown : s.vm.findClass RX10 = some m.cls := findClass_of_methodNamed B.named
  have hlocks := B.notSynchronized
  subst hsz
  have hD := hD0.self (sz := s.heap.size)
  generalize hAe : va_A ([] ++ ws) s.heap.size = A at hD hX ⊢
  have hA : ∀ q : Nat, s.heap.size ≤ q → A q := fun q h => by rw [← hAe]; exact Or.inr h
  have hS : va_S A s.heap s.heap [] := va_S.rf
  have hl := lv_entry ([.int p1, .int p2, .int p3]) (n := 3) (Nat.le_of_ble_eq_true rfl)
  rw [lg_entry_eq]
  generalize (lg_sl ([.int p1, .int p2, .int p3]) ++ List.replicate (3 - (lg_sl ([.int p1, .int p2, .int p3])).length) Slot.unset).toArray = ls at hl ⊢
  have hl : lv_has ls 3 [(0, .int p1), (1, .int p2), (2, .int p3)] := hl
  refine lv_iload_n hx hb dX10_needRange_0 rfl (lv_at hl 0 rfl) ?_
  refine lv_iload_n hx hb dX10_needRange_1 rfl (lv_at hl 1 rfl) ?_
  refine lv_icmp_lt (tgt := 10) hx hb dX10_needRange_2 (by decide) (fun hc_1 => ?_) (fun hc_1 => ?_)
  · exact vx_throw0 (names := cm_names) hx hb hfl hown (by decide +kernel) (by decide +kernel) (hts _ kl_RX10_354) (hts _ ki_java_lang_IllegalArgumentException) (cm_at0 kt_RX10_356 hts) ktg_RX10_356 hX.1 hX.2.1 hS (hl.1.trans hml.symm) dX10_needRange_10 dX10_needRange_13 dX10_needRange_14 dX10_needRange_17 (fun x hx => (hex x hx).elim) (Nat.le_of_ble_eq_true rfl) (Nat.le_of_ble_eq_true rfl) (Nat.le_of_ble_eq_true rfl) (Nat.le_of_ble_eq_true rfl) hlocks (fun t hv hz hk => ⟨ws, ⟨hT, (rp_ngA hc_1)⟩, ⟨by decide, hP.kept (fun k q hq => hk q.1 ((hP k q hq).lt)), by rw [hAe]; exact hD⟩, cm_F hS hz hk⟩) hS.2.2 (Nat.le_of_ble_eq_true rfl) (Nat.le_of_ble_eq_true rfl)
  · refine lv_iload_n hx hb dX10_needRange_5 rfl (lv_at hl 0 rfl) ?_
    refine lv_iload_n hx hb dX10_needRange_6 rfl (lv_at hl 2 rfl) ?_
    refine lv_icmp_le (tgt := 18) hx hb dX10_needRange_7 (by decide) (fun hc_2 => ?_) (fun hc_2 => ?_)
    · refine W.widen (k := 1) (n := 6) (Nat.le_of_ble_eq_true rfl) (Nat.le_of_ble_eq_true rfl) ?_
      refine vx_ret ?_
      exact W.vret hx hb hr (fun t ht hW => ⟨⟨ws, rfl, ⟨hT, (rp_ngC hc_1 hc_2)⟩, by rw [ht]; exact hP, by rw [hAe]; exact hD⟩, hS.F ht⟩) hS.2.2 dX10_needRange_18
    · exact vx_throw0 (names := cm_names) hx hb hfl hown (by decide +kernel) (by decide +kernel) (hts _ kl_RX10_354) (hts _ ki_java_lang_IllegalArgumentException) (cm_at0 kt_RX10_356 hts) ktg_RX10_356 hX.1 hX.2.1 hS (hl.1.trans hml.symm) dX10_needRange_10 dX10_needRange_13 dX10_needRange_14 dX10_needRange_17 (fun x hx => (hex x hx).elim) (Nat.le_of_ble_eq_true rfl) (Nat.le_of_ble_eq_true rfl) (Nat.le_of_ble_eq_true rfl) (Nat.le_of_ble_eq_true rfl) hlocks (fun t hv hz hk => ⟨ws, ⟨hT, (rp_ngB hc_2)⟩, ⟨by decide, hP.kept (fun k q hq => hk q.1 ((hP k q hq).lt)), by rw [hAe]; exact hD⟩, cm_F hS hz hk⟩) hS.2.2 (Nat.le_of_ble_eq_true rfl) (Nat.le_of_ble_eq_true rfl)
set_option maxRecDepth 100000 in
set_option maxHeartbeats 4000000 in
theorem r_savedAt (l : Launch) (D : va_G) (ct : Nat → ClassId) (S : ty_S) (ws : va_W) (ph : va_W → Prop) (xx : Nat → Nat → Nat → Prop) (x : Nat) (w : Nat) (sp : Nat) (sv : Nat) (bu : Nat) (bl : Int32) (le : Int32) (p1 : Int32) (u : Option Nat) (v0 : Option Nat) (v1 : Option Nat) (sz : Nat) (hT : ty_V ct S ph ws) (h_w : S w = some (.inl 9)) (h_sv : S sv = some (.inr (4, 2))) (hph : ty_C ph xx) (hy1 : ty_y1 xx) (hi : (p1 = 0 ∧ u = v0) ∨ (p1 = 1 ∧ u = v1)) (hO : ∀ ws : va_W, ph ws → rp_rw sv v0 v1 ws) : Met l yX10_savedAt (ws_ yX10_savedAt cX10_savedAt 2 (some (.object "CellCycler$World"))) ({ frames := 0, cells := 0, slots := 0, locals := 0 } : Room) (va_Pc [.ref x, .int p1] (cmP D ct sz ([(ty_XO x w sp sv bu bl le)] ++ ws))) (va_Qq (fun (r : Option Nat) (u9 : va_W) => ty_V ct S ph u9 ∧ (r = none ∨ ∃ a : Nat, r = some a ∧ S a = some (.inl 9)) ∧ r = u) (cmB D ([(ty_XO x w sp sv bu bl le)] ++ ws) sz (fun (u9 : va_W) => ([(ty_XO x w sp sv bu bl le)] ++ u9))) (va_A ([(ty_XO x w sp sv bu bl le)] ++ ws) sz)) 0 0 (va_A ([(ty_XO x w sp sv bu bl le)] ++ ws) sz) := by
  refine Met.ofW (cc := cX10_savedAt) (maxL := 2) (ret := (some (.object "CellCycler$World"))) (by decide) rfl ?_
  intro p e s m args below meth c s₁ B hml hv
  obtain ⟨rfl, hsz, hP, hK, hD0, hX⟩ := hv
  have hx := B.exec
  have hb := B.bytes
  have hr := B.returns
  have hts := ws_all (atoms_spec (ws := ws_ yX10_savedAt cX10_savedAt 2 (some (.object "CellCycler$World"))) B.pre)
  have hown : s.vm.findClass RX10 = some m.cls := findClass_of_methodNamed B.named
  have hlocks := B.notSynchronized
  subst hsz
  have hD := hD0.self (sz := s.heap.size)
  generalize hAe : va_A ([(ty_XO x w sp sv bu bl le)] ++ ws) s.heap.size = A at hD hX ⊢
  have hA : ∀ q : Nat, s.heap.size ≤ q → A q := fun q h => by rw [← hAe]; exact Or.inr h
  have hS : va_S A s.heap s.heap [] := va_S.rf
  have hl := lv_entry ([.ref x, .int p1]) (n := 2) (Nat.le_of_ble_eq_true rfl)
  rw [lg_entry_eq]
  generalize (lg_sl ([.ref x, .int p1]) ++ List.replicate (2 - (lg_sl ([.ref x, .int p1])).length) Slot.unset).toArray = ls at hl ⊢
  have hl : lv_has ls 2 [(0, .ref x), (1, .int p1)] := hl
  refine lv_iload_n hx hb dX10_savedAt_0 rfl (lv_at hl 1 rfl) ?_
  refine lv_if_lt (tgt := 13) hx hb dX10_savedAt_1 (by decide) (fun hc => absurd hc (rp_i01 hi).1) (fun _ => ?_)
  refine lv_iload_n hx hb dX10_savedAt_4 rfl (lv_at hl 1 rfl) ?_
  refine lv_aload_n hx hb dX10_savedAt_5 rfl (lv_at hl 0 rfl) ?_
  refine va_get (v := .ref sv) (D := D) (ci := 10) (C := RX10) (T := TX10) (N := 6) hx hb hts in_X10 hown hK hP 0 rfl rfl 2 (by decide) (hts _ kl_RX10_19) (fun _ h9 => h9) rfl dX10_savedAt_6 ?_
  refine ty_alen4 (E := [(ty_XO x w sp sv bu bl le)]) (ws := ws) hx hb hK hP hT h_sv dX10_savedAt_9 ?_
  refine cm_cst (y := 2) (by decide) ?_
  refine lv_icmp_lt (tgt := 17) hx hb dX10_savedAt_10 (by decide) (fun _ => ?_) (fun hc => absurd (rp_i01 hi).2.1 hc)
  refine lv_aload_n hx hb dX10_savedAt_17 rfl (lv_at hl 0 rfl) ?_
  refine va_get (v := .ref sv) (D := D) (ci := 10) (C := RX10) (T := TX10) (N := 6) hx hb hts in_X10 hown hK hP 0 rfl rfl 2 (by decide) (hts _ kl_RX10_19) (fun _ h9 => h9) rfl dX10_savedAt_18 ?_
  refine lv_iload_n hx hb dX10_savedAt_21 rfl (lv_at hl 1 rfl) ?_
  refine ty_aald4V (E := [(ty_XO x w sp sv bu bl le)]) (ws := ws) (u := u) hx hb hK hP hD hT (hO _ hT.2) h_sv (rp_i01 hi).2.2 hi dX10_savedAt_22 (fun hn_3 => ?_) (fun a_1 ha_2 hn_4 => ?_)
  · exact W.aret (v := .null) hx hb hr (Or.inl ⟨_, rfl⟩) (Or.inl rfl) (fun t ht hW => ⟨⟨none, ws, rfl, ⟨hT, (Or.inl rfl), hn_3.symm⟩, by rw [ht]; exact hP, by rw [hAe]; exact hD⟩, hS.F ht⟩) hS.2.2 dX10_savedAt_23
  · exact W.aret (v := .ref a_1) hx hb hr (Or.inl ⟨_, rfl⟩) (Or.inr ⟨_, rfl⟩) (fun t ht hW => ⟨⟨(some a_1), ws, rfl, ⟨hT, (Or.inr ⟨_, rfl, ha_2⟩), hn_4.symm⟩, by rw [ht]; exact hP, by rw [hAe]; exact hD⟩, hS.F ht⟩) hS.2.2 dX10_savedAt_23
set_option maxRecDepth 100000 in
set_option maxHeartbeats 4000000 in
theorem r_keepAt (l : Launch) (D : va_G) (ct : Nat → ClassId) (S : ty_S) (ws : va_W) (x : Nat) (w : Nat) (sp : Nat) (sv : Nat) (bu : Nat) (bl : Int32) (le : Int32) (p1 : Int32) (p2 : Nat) (v0 : Option Nat) (v1 : Option Nat) (u0 : Option Nat) (u1 : Option Nat) (aw : Option Nat) (q0 : Option Nat) (q1 : Option Nat) (tt : Int32) (τ0 : Int32) (τ1 : Int32) (cu : Nat) (na : Nat) (pr : Nat) (ch : Nat) (sz : Nat) (hT : ty_V ct S (rp_S (rp_P3 sp sv v0 v1 aw q0 q1 tt τ0 τ1) cu na pr ch) ws) (h_w : S w = some (.inl 9)) (h_p2 : S p2 = some (.inl 9)) (h_sv : S sv = some (.inr (4, 2))) (h_ch : S ch = some (.inr (3, 6))) (hi : (p1 = 0 ∧ u0 = some p2 ∧ u1 = v1) ∨ (p1 = 1 ∧ u0 = v0 ∧ u1 = some p2)) : Met l yX10_keepAt (ws_ yX10_keepAt cX10_keepAt 3 none) ({ frames := 0, cells := 0, slots := 0, locals := 0 } : Room) (va_Pc [.ref x, .int p1, .ref p2] (cmP D ct sz ([(ty_XO x w sp sv bu bl le)] ++ ws))) (va_Qv (fun (u9 : va_W) => ty_V ct S (rp_S (rp_P3 sp sv u0 u1 aw q0 q1 tt τ0 τ1) cu na pr ch) u9) (cmB D ([(ty_XO x w sp sv bu bl le)] ++ ws) sz (fun (u9 : va_W) => ([(ty_XO x w sp sv bu bl le)] ++ u9))) (va_A ([(ty_XO x w sp sv bu bl le)] ++ ws) sz)) 0 0 (va_A ([(ty_XO x w sp sv bu bl le)] ++ ws) sz) := by
  refine Met.ofW (cc := cX10_keepAt) (maxL := 3) (ret := none) (by decide) rfl ?_
  intro p e s m args below meth c s₁ B hml hv
  obtain ⟨rfl, hsz, hP, hK, hD0, hX⟩ := hv
  have hx := B.exec
  have hb := B.bytes
  have hr := B.returns
  have hts := ws_all (atoms_spec (ws := ws_ yX10_keepAt cX10_keepAt 3 none) B.pre)
  have hown : s.vm.findClass RX10 = some m.cls := findClass_of_methodNamed B.named
  have hlocks := B.notSynchronized
  subst hsz
  have hD := hD0.self (sz := s.heap.size)
  generalize hAe : va_A ([(ty_XO x w sp sv bu bl le)] ++ ws) s.heap.size = A at hD hX ⊢
  have hA : ∀ q : Nat, s.heap.size ≤ q → A q := fun q h => by rw [← hAe]; exact Or.inr h
  have hS : va_S A s.heap s.heap [] := va_S.rf
  have hl := lv_entry ([.ref x, .int p1, .ref p2]) (n := 3) (Nat.le_of_ble_eq_true rfl)
  rw [lg_entry_eq]
  generalize (lg_sl ([.ref x, .int p1, .ref p2]) ++ List.replicate (3 - (lg_sl ([.ref x, .int p1, .ref p2])).length) Slot.unset).toArray = ls at hl ⊢
  have hl : lv_has ls 3 [(0, .ref x), (1, .int p1), (2, .ref p2)] := hl
  refine lv_iload_n hx hb dX10_keepAt_0 rfl (lv_at hl 1 rfl) ?_
  refine lv_if_lt (tgt := 20) hx hb dX10_keepAt_1 (by decide) (fun hc => absurd hc (rp_j01 hi).1) (fun _ => ?_)
  refine lv_iload_n hx hb dX10_keepAt_4 rfl (lv_at hl 1 rfl) ?_
  refine lv_aload_n hx hb dX10_keepAt_5 rfl (lv_at hl 0 rfl) ?_
  refine va_get (v := .ref sv) (D := D) (ci := 10) (C := RX10) (T := TX10) (N := 6) hx hb hts in_X10 hown hK hP 0 rfl rfl 2 (by decide) (hts _ kl_RX10_19) (fun _ h9 => h9) rfl dX10_keepAt_6 ?_
  refine ty_alen4 (E := [(ty_XO x w sp sv bu bl le)]) (ws := ws) hx hb hK hP hT h_sv dX10_keepAt_9 ?_
  refine cm_cst (y := 2) (by decide) ?_
  refine lv_icmp_ge (tgt := 20) hx hb dX10_keepAt_10 (by decide) (fun hc => absurd hc (rp_j01 hi).2.1) (fun _ => ?_)
  refine lv_aload_n hx hb dX10_keepAt_13 rfl (lv_at hl 0 rfl) ?_
  refine va_get (v := .ref sv) (D := D) (ci := 10) (C := RX10) (T := TX10) (N := 6) hx hb hts in_X10 hown hK hP 0 rfl rfl 2 (by decide) (hts _ kl_RX10_19) (fun _ h9 => h9) rfl dX10_keepAt_14 ?_
  refine lv_iload_n hx hb dX10_keepAt_17 rfl (lv_at hl 1 rfl) ?_
  refine lv_aload_n hx hb dX10_keepAt_18 rfl (lv_at hl 2 rfl) ?_
  refine ty_aast4T (E := [(ty_XO x w sp sv bu bl le)]) (ws := ws) hx hb hK hP hD hS hT h_sv h_p2 (rp_j01 hi).2.2 dX10_keepAt_19 (ph2 := (rp_S (rp_P3 sp sv u0 u1 aw q0 q1 tt τ0 τ1) cu na pr ch)) (fun j cA f hj h => rp_kp hD (ty_k34 h_sv h_ch) hj h hi) (fun ws_1 H locs hT hP hD hS => ?_)
  exact W.vret hx hb hr (fun t ht hW => ⟨⟨ws_1, rfl, hT, by rw [ht]; exact hP, by rw [hAe]; exact hD⟩, hS.F ht⟩) hS.2.2 dX10_keepAt_20
set_option maxRecDepth 100000 in
set_option maxHeartbeats 4000000 in
theorem r_now (l : Launch) (D : va_G) (ct : Nat → ClassId) (S : ty_S) (ws : va_W) (x : Nat) (w : Nat) (sp : Nat) (sv : Nat) (bu : Nat) (bl : Int32) (le : Int32) (v0 : Option Nat) (v1 : Option Nat) (tt : Int32) (τ0 : Int32) (τ1 : Int32) (cu : Nat) (na : Nat) (pr : Nat) (ch : Nat) (sz : Nat) (hT : ty_V ct S (rp_L w sp sv cu na pr ch v0 v1 tt τ0 τ1) ws) (h_w : S w = some (.inl 9)) : Met l yX10_now (ws_ yX10_now cX10_now 1 (some .int)) ({ frames := 0, cells := 0, slots := 0, locals := 0 } : Room) (va_Pc [.ref x] (cmP D ct sz ([(ty_XO x w sp sv bu bl le)] ++ ws))) (va_Qi (fun (r : Int32) (u9 : va_W) => ty_V ct S (rp_L w sp sv cu na pr ch v0 v1 tt τ0 τ1) u9 ∧ r = tt) (cmB D ([(ty_XO x w sp sv bu bl le)] ++ ws) sz (fun (u9 : va_W) => ([(ty_XO x w sp sv bu bl le)] ++ u9))) (va_A ([(ty_XO x w sp sv bu bl le)] ++ ws) sz)) 0 0 (va_A ([(ty_XO x w sp sv bu bl le)] ++ ws) sz) := by
  refine Met.ofW (cc := cX10_now) (maxL := 1) (ret := (some .int)) (by decide) rfl ?_
  intro p e s m args below meth c s₁ B hml hv
  obtain ⟨rfl, hsz, hP, hK, hD0, hX⟩ := hv
  have hx := B.exec
  have hb := B.bytes
  have hr := B.returns
  have hts := ws_all (atoms_spec (ws := ws_ yX10_now cX10_now 1 (some .int)) B.pre)
  have hown : s.vm.findClass RX10 = some m.cls := findClass_of_methodNamed B.named
  have hlocks := B.notSynchronized
  subst hsz
  have hD := hD0.self (sz := s.heap.size)
  generalize hAe : va_A ([(ty_XO x w sp sv bu bl le)] ++ ws) s.heap.size = A at hD hX ⊢
  have hA : ∀ q : Nat, s.heap.size ≤ q → A q := fun q h => by rw [← hAe]; exact Or.inr h
  have hS : va_S A s.heap s.heap [] := va_S.rf
  have hl := lv_entry ([.ref x]) (n := 1) (Nat.le_of_ble_eq_true rfl)
  rw [lg_entry_eq]
  generalize (lg_sl ([.ref x]) ++ List.replicate (1 - (lg_sl ([.ref x])).length) Slot.unset).toArray = ls at hl ⊢
  have hl : lv_has ls 1 [(0, .ref x)] := hl
  refine lv_aload_n hx hb dX10_now_0 rfl (lv_at hl 0 rfl) ?_
  refine va_get (v := .ref w) (D := D) (ci := 10) (C := RX10) (T := TX10) (N := 6) hx hb hts in_X10 hown hK hP 0 rfl rfl 0 (by decide) (hts _ kl_RX10_10) (fun _ h9 => h9) rfl dX10_now_1 ?_
  refine ty_getDN (v := .int tt) (E := [(ty_XO x w sp sv bu bl le)]) (ws := ws) (D := D) (ci := 9) (C := RX9) (T := TX9) (N := 8) hx hb hts in_X9 hown hK hP hD hT h_w rfl 0 (by decide) (hts _ kl_RX10_164) (fun _ h9 => h9) (ty_fcd (rp_Lw hT.2)) dX10_now_4 ?_
  exact W.iret (v := tt) hx hb hr (fun t ht hW => ⟨⟨tt, ws, rfl, ⟨hT, rfl⟩, by rw [ht]; exact hP, by rw [hAe]; exact hD⟩, hS.F ht⟩) hS.2.2 dX10_now_7
theorem dX10_advance_0 : decode cX10_advance 0 = .ok (.iload_n 1, 1) := by decide +kernel
theorem dX10_advance_1 : decode cX10_advance 1 = .ok (.iconst 1, 1) := by decide +kernel
theorem dX10_advance_2 : decode cX10_advance 2 = .ok (.sipush 5000, 3) := by decide +kernel
theorem dX10_advance_5 : decode cX10_advance 5 = .ok (.invokestatic 81, 3) := by decide +kernel
theorem dX10_advance_8 : decode cX10_advance 8 = .ok (.aload_n 0, 1) := by decide +kernel
theorem dX10_advance_9 : decode cX10_advance 9 = .ok (.getfield 10, 3) := by decide +kernel
theorem dX10_advance_12 : decode cX10_advance 12 = .ok (.getfield 164, 3) := by decide +kernel
theorem dX10_advance_15 : decode cX10_advance 15 = .ok (.iload_n 1, 1) := by decide +kernel
theorem dX10_advance_16 : decode cX10_advance 16 = .ok (.iadd, 1) := by decide +kernel
theorem dX10_advance_17 : decode cX10_advance 17 = .ok (.ldc 167, 2) := by decide +kernel
theorem dX10_advance_19 : decode cX10_advance 19 = .ok (.if_icmp .le 6, 3) := by decide +kernel
theorem dX10_advance_22 : decode cX10_advance 22 = .ok (.bipush (-2), 2) := by decide +kernel
theorem dX10_advance_24 : decode cX10_advance 24 = .ok (.ireturn, 1) := by decide +kernel
theorem dX10_advance_25 : decode cX10_advance 25 = .ok (.iconst 0, 1) := by decide +kernel
theorem dX10_advance_26 : decode cX10_advance 26 = .ok (.istore_n 2, 1) := by decide +kernel
theorem dX10_advance_27 : decode cX10_advance 27 = .ok (.iconst 0, 1) := by decide +kernel
theorem dX10_advance_28 : decode cX10_advance 28 = .ok (.istore_n 3, 1) := by decide +kernel
theorem dX10_advance_29 : decode cX10_advance 29 = .ok (.iload_n 3, 1) := by decide +kernel
theorem dX10_advance_30 : decode cX10_advance 30 = .ok (.iload_n 1, 1) := by decide +kernel
theorem dX10_advance_31 : decode cX10_advance 31 = .ok (.if_icmp .ge 74, 3) := by decide +kernel
theorem dX10_advance_34 : decode cX10_advance 34 = .ok (.aload_n 0, 1) := by decide +kernel
theorem dX10_advance_35 : decode cX10_advance 35 = .ok (.getfield 10, 3) := by decide +kernel
theorem dX10_advance_38 : decode cX10_advance 38 = .ok (.dup, 1) := by decide +kernel
theorem dX10_advance_39 : decode cX10_advance 39 = .ok (.getfield 164, 3) := by decide +kernel
theorem dX10_advance_42 : decode cX10_advance 42 = .ok (.iconst 1, 1) := by decide +kernel
theorem dX10_advance_43 : decode cX10_advance 43 = .ok (.iadd, 1) := by decide +kernel
theorem dX10_advance_44 : decode cX10_advance 44 = .ok (.putfield 164, 3) := by decide +kernel
theorem dX10_advance_47 : decode cX10_advance 47 = .ok (.iconst 0, 1) := by decide +kernel
theorem dX10_advance_48 : decode cX10_advance 48 = .ok (.istore 4, 2) := by decide +kernel
theorem dX10_advance_50 : decode cX10_advance 50 = .ok (.iload 4, 2) := by decide +kernel
theorem dX10_advance_52 : decode cX10_advance 52 = .ok (.aload_n 0, 1) := by decide +kernel
theorem dX10_advance_53 : decode cX10_advance 53 = .ok (.getfield 10, 3) := by decide +kernel
theorem dX10_advance_56 : decode cX10_advance 56 = .ok (.getfield 64, 3) := by decide +kernel
theorem dX10_advance_59 : decode cX10_advance 59 = .ok (.if_icmp .ge 40, 3) := by decide +kernel
theorem dX10_advance_62 : decode cX10_advance 62 = .ok (.aload_n 0, 1) := by decide +kernel
theorem dX10_advance_63 : decode cX10_advance 63 = .ok (.getfield 10, 3) := by decide +kernel
theorem dX10_advance_66 : decode cX10_advance 66 = .ok (.iload 4, 2) := by decide +kernel
theorem dX10_advance_68 : decode cX10_advance 68 = .ok (.invokevirtual 125, 3) := by decide +kernel
theorem dX10_advance_71 : decode cX10_advance 71 = .ok (.astore 5, 2) := by decide +kernel
theorem dX10_advance_73 : decode cX10_advance 73 = .ok (.aload 5, 2) := by decide +kernel
theorem dX10_advance_75 : decode cX10_advance 75 = .ok (.ifnull 18, 3) := by decide +kernel
theorem dX10_advance_78 : decode cX10_advance 78 = .ok (.aload 5, 2) := by decide +kernel
theorem dX10_advance_80 : decode cX10_advance 80 = .ok (.aload_n 0, 1) := by decide +kernel
theorem dX10_advance_81 : decode cX10_advance 81 = .ok (.getfield 10, 3) := by decide +kernel
theorem dX10_advance_84 : decode cX10_advance 84 = .ok (.invokevirtual 168, 3) := by decide +kernel
theorem dX10_advance_87 : decode cX10_advance 87 = .ok (.ifCond .eq 6, 3) := by decide +kernel
theorem dX10_advance_90 : decode cX10_advance 90 = .ok (.iinc 2 1, 3) := by decide +kernel
theorem dX10_advance_93 : decode cX10_advance 93 = .ok (.iinc 4 1, 3) := by decide +kernel
theorem dX10_advance_96 : decode cX10_advance 96 = .ok (.goto (-46), 3) := by decide +kernel
theorem dX10_advance_99 : decode cX10_advance 99 = .ok (.iinc 3 1, 3) := by decide +kernel
theorem dX10_advance_102 : decode cX10_advance 102 = .ok (.goto (-73), 3) := by decide +kernel
theorem dX10_advance_105 : decode cX10_advance 105 = .ok (.iload_n 2, 1) := by decide +kernel
theorem dX10_advance_106 : decode cX10_advance 106 = .ok (.ireturn, 1) := by decide +kernel
set_option maxRecDepth 100000 in
set_option maxHeartbeats 4000000 in
theorem r_advance (l : Launch) (hfl : l.stackTraces = false) (D : va_G) (ct : Nat → ClassId) (S : ty_S) (ws : va_W) (x : Nat) (w : Nat) (sp : Nat) (sv : Nat) (bu : Nat) (bl : Int32) (le : Int32) (v0 : Option Nat) (v1 : Option Nat) (tt : Int32) (τ0 : Int32) (τ1 : Int32) (cu : Nat) (na : Nat) (pr : Nat) (ch : Nat) (p1 : Int32) (sz : Nat) (hT : ty_V ct S (rp_L w sp sv cu na pr ch v0 v1 tt τ0 τ1) ws) (h_w : S w = some (.inl 9)) (hsd : rp_sd w sp v0 v1) : vx_Met l yX10_advance (ws_ yX10_advance cX10_advance 6 (some .int)) ({ frames := 7, cells := 1, slots := 6, locals := 121 } : Room) (va_Pc [.ref x, .int p1] (cmP D ct sz ([(ty_XO x w sp sv bu bl le)] ++ ws))) (va_Qi (fun (r : Int32) (u9 : va_W) => ty_V ct S (rp_L w sp sv cu na pr ch v0 v1 (rp_av tt p1) τ0 τ1) u9) (cmB D ([(ty_XO x w sp sv bu bl le)] ++ ws) sz (fun (u9 : va_W) => ([(ty_XO x w sp sv bu bl le)] ++ u9))) (va_A ([(ty_XO x w sp sv bu bl le)] ++ ws) sz)) (vx_X (fun (u9 : va_W) => ty_V ct S (rp_L w sp sv cu na pr ch v0 v1 tt τ0 τ1) u9 ∧ ¬ (1 ≤ p1.toInt ∧ p1.toInt ≤ 5000)) (cmBY D ([(ty_XO x w sp sv bu bl le)] ++ ws) sz ["java/lang/IllegalArgumentException"] (fun (u9 : va_W) => ([(ty_XO x w sp sv bu bl le)] ++ u9))) (va_A ([(ty_XO x w sp sv bu bl le)] ++ ws) sz)) 1 6 (va_A ([(ty_XO x w sp sv bu bl le)] ++ ws) sz) := by
  refine vx_ofW (cc := cX10_advance) (maxL := 6) (ret := (some .int)) (by decide) rfl ?_
  intro p e s m args below meth c s₁ B hml hex hv
  obtain ⟨rfl, hsz, hP, hK, hD0, hX⟩ := hv
  have hx := B.exec
  have hb := B.bytes
  have hr := B.returns
  have hts := ws_all (atoms_spec (ws := ws_ yX10_advance cX10_advance 6 (some .int)) B.pre)
  have hown : s.vm.findClass RX10 = some m.cls := findClass_of_methodNamed B.named
  have hlocks := B.notSynchronized
  subst hsz
  have hD := hD0.self (sz := s.heap.size)
  generalize hAe : va_A ([(ty_XO x w sp sv bu bl le)] ++ ws) s.heap.size = A at hD hX ⊢
  have hA : ∀ q : Nat, s.heap.size ≤ q → A q := fun q h => by rw [← hAe]; exact Or.inr h
  have hS : va_S A s.heap s.heap [] := va_S.rf
  have hl := lv_entry ([.ref x, .int p1]) (n := 6) (Nat.le_of_ble_eq_true rfl)
  rw [lg_entry_eq]
  generalize (lg_sl ([.ref x, .int p1]) ++ List.replicate (6 - (lg_sl ([.ref x, .int p1])).length) Slot.unset).toArray = ls at hl ⊢
  have hl : lv_has ls 6 [(0, .ref x), (1, .int p1)] := hl
  refine lv_iload_n hx hb dX10_advance_0 rfl (lv_at hl 1 rfl) ?_
  refine lv_iconst (v := 1) hx hb dX10_advance_1 (by decide) ?_
  refine lv_sipush (v := 5000) hx hb dX10_advance_2 (by decide) ?_
  refine ty_xv (wr := [(ty_XO x w sp sv bu bl le)]) (wc := ([] ++ ws)) (vx_runS (As := [.int p1, .int 1, .int 5000]) (rest := []) ⟨hx, hb, hml, hown, hts⟩ (r_needRange l hfl D ct S ws (rp_L w sp sv cu na pr ch v0 v1 tt τ0 τ1) (rp_xL w sp sv ch v0 v1 tt τ0 τ1) p1 (1 : Int32) (5000 : Int32) _ hT rp_SC rp_S1) (cm_S 3 hts kc_X10_needRange ki_RX10 kl_RX10_81 ks_X10_needRange kd_X10_needRange ⟨Nat.le_of_ble_eq_true rfl, Nat.le_of_ble_eq_true rfl⟩) (ty_preS (wr := [(ty_XO x w sp sv bu bl le)]) (wc := ([] ++ ws)) hP hK hD hS hA hX) rfl rfl hl.1 rfl (lv_room (Nat.le_of_ble_eq_true rfl)) dX10_advance_5 ⟨Nat.le_of_ble_eq_true rfl, Nat.le_of_ble_eq_true rfl⟩) hP hD hS hA (fun E ce q9 u H locs hu hE hP hD hS hce hcv hcl => ?_) (fun u H locs hw_2 hP hD hS => ?_)
  · obtain ⟨ws_3, rfl⟩ : ∃ z, z = u := ⟨_, rfl⟩
    obtain ⟨hT, hxp⟩ := hu
    have hP : va_P D vwCl ([(ty_XO x w sp sv bu bl le)] ++ ws_3) H := hP
    have hD : va_D A ([(ty_XO x w sp sv bu bl le)] ++ ws_3) := hD
    exact vx_out (fun x hx => (hex x hx).elim) hlocks hce hcv hcl (fun t ht hW => ⟨ws_3, ⟨hT, (rp_n5k hxp)⟩, ⟨hE, by rw [ht]; exact hP, by rw [hAe]; exact hD⟩, hS.F ht⟩) hS.2.2 (Nat.le_of_ble_eq_true rfl) (Nat.le_of_ble_eq_true rfl)
  · obtain ⟨ws_4, rfl⟩ : ∃ z, z = u := ⟨_, rfl⟩
    obtain ⟨hT, hp_5⟩ := hw_2
    have hp_5 : (1 : Int32).toInt ≤ p1.toInt ∧ p1.toInt ≤ (5000 : Int32).toInt := hp_5
    have hP : va_P D vwCl ([(ty_XO x w sp sv bu bl le)] ++ ws_4) H := hP
    have hD : va_D A ([(ty_XO x w sp sv bu bl le)] ++ ws_4) := hD
    refine W.widen (k := 1) (n := 6) (Nat.le_of_ble_eq_true rfl) (Nat.le_of_ble_eq_true rfl) ?_
    have hrg := hp_5
    refine lv_aload_n hx hb dX10_advance_8 rfl (lv_at hl 0 rfl) ?_
    refine va_get (v := .ref w) (D := D) (ci := 10) (C := RX10) (T := TX10) (N := 6) hx hb hts in_X10 hown hK hP 0 rfl rfl 0 (by decide) (hts _ kl_RX10_10) (fun _ h9 => h9) rfl dX10_advance_9 ?_
    refine ty_getDN (v := .int tt) (E := [(ty_XO x w sp sv bu bl le)]) (ws := ws_4) (D := D) (ci := 9) (C := RX9) (T := TX9) (N := 8) hx hb hts in_X9 hown hK hP hD hT h_w rfl 0 (by decide) (hts _ kl_RX10_164) (fun _ h9 => h9) (ty_fcd (rp_Lw hT.2)) dX10_advance_12 ?_
    refine lv_iload_n hx hb dX10_advance_15 rfl (lv_at hl 1 rfl) ?_
    refine lv_iadd hx hb dX10_advance_16 ?_
    refine lv_ldc hx hb hown (hts _ kl_RX10_167) dX10_advance_17 ?_
    refine lv_icmp_le (tgt := 25) hx hb dX10_advance_19 (by decide) (fun hc_6 => ?_) (fun hc_6 => ?_)
    · refine lv_iconst (v := 0) hx hb dX10_advance_25 (by decide) ?_
      refine lv_istore_n (lv' := [(2, .int 0), (0, .ref x), (1, .int p1)]) hx hb dX10_advance_26 rfl hl (by decide) rfl (fun ls hl => ?_)
      refine lv_iconst (v := 0) hx hb dX10_advance_27 (by decide) ?_
      refine lv_istore_n (lv' := [(3, .int 0), (2, .int 0), (0, .ref x), (1, .int p1)]) hx hb dX10_advance_28 rfl hl (by decide) rfl (fun ls hl => ?_)
      refine ty_loop (I := fun μ H locs ls => ∃ (ws : va_W) (y_7 : Int32) (y_8 : Int32) (tc_9 : Int32), μ = (2147483648 - y_8.toInt).toNat ∧ ty_V ct S (rp_L w sp sv cu na pr ch v0 v1 tc_9 τ0 τ1) ws ∧ va_P D vwCl ([(ty_XO x w sp sv bu bl le)] ++ ws) H ∧ va_D A ([(ty_XO x w sp sv bu bl le)] ++ ws) ∧ va_S A s.heap H locs ∧ lv_has ls 6 [(0, .ref x), (1, .int p1), (2, .int y_7), (3, .int y_8)] ∧ (0 ≤ y_8.toInt ∧ y_8.toInt ≤ p1.toInt) ∧ tc_9 = tt + y_8) ⟨_, ws_4, (0 : Int32), (0 : Int32), tt, rfl, hT, hP, hD, hS, (lv_sub hl [2, 3, 1, 0] rfl), ⟨by decide, (by have := (show 1 ≤ p1.toInt ∧ p1.toInt ≤ 5000 from by have := hrg; have z1 : (1 : Int32).toInt = 1 := (by decide); have z5 : (5000 : Int32).toInt = 5000 := (by decide); omega); have z : (0 : Int32).toInt = 0 := (by decide); omega)⟩, (Int32.add_zero tt).symm⟩ (fun μ H locs ls hI ih_29 => ?_)
      obtain ⟨ws, y_7, y_8, tc_9, rfl, hT, hP, hD, hS, hl, hex_29⟩ := hI
      refine lv_iload_n hx hb dX10_advance_29 rfl (lv_at hl 3 rfl) ?_
      refine lv_iload_n hx hb dX10_advance_30 rfl (lv_at hl 1 rfl) ?_
      refine lv_icmp_ge (tgt := 105) hx hb dX10_advance_31 (by decide) (fun hc_10 => ?_) (fun hc_10 => ?_)
      · have hT : ty_V ct S (rp_L w sp sv cu na pr ch v0 v1 (rp_av tt p1) τ0 τ1) ws := by rw [rp_avT (show 1 ≤ p1.toInt ∧ p1.toInt ≤ 5000 from by have := hrg; have z1 : (1 : Int32).toInt = 1 := (by decide); have z5 : (5000 : Int32).toInt = 5000 := (by decide); omega) hc_6 hex_29 hc_10]; exact hT
        refine lv_iload_n hx hb dX10_advance_105 rfl (lv_at hl 2 rfl) ?_
        refine vx_ret ?_
        exact W.iret (v := y_7) hx hb hr (fun t ht hW => ⟨⟨y_7, ws, rfl, hT, by rw [ht]; exact hP, by rw [hAe]; exact hD⟩, hS.F ht⟩) hS.2.2 dX10_advance_106
      · refine lv_aload_n hx hb dX10_advance_34 rfl (lv_at hl 0 rfl) ?_
        refine va_get (v := .ref w) (D := D) (ci := 10) (C := RX10) (T := TX10) (N := 6) hx hb hts in_X10 hown hK hP 0 rfl rfl 0 (by decide) (hts _ kl_RX10_10) (fun _ h9 => h9) rfl dX10_advance_35 ?_
        refine lv_dup hx hb dX10_advance_38 rfl ?_
        refine ty_getDN (v := .int tc_9) (E := [(ty_XO x w sp sv bu bl le)]) (ws := ws) (D := D) (ci := 9) (C := RX9) (T := TX9) (N := 8) hx hb hts in_X9 hown hK hP hD hT h_w rfl 0 (by decide) (hts _ kl_RX10_164) (fun _ h9 => h9) (ty_fcd (rp_Lw hT.2)) dX10_advance_39 ?_
        refine lv_iconst (v := 1) hx hb dX10_advance_42 (by decide) ?_
        refine lv_iadd hx hb dX10_advance_43 ?_
        refine ty_putNT (v := .int (tc_9 + 1)) (ty := .int) (E := [(ty_XO x w sp sv bu bl le)]) (ws := ws) (D := D) (ci := 9) (C := RX9) (T := TX9) (N := 8) hx hb hts in_X9 tyX9 tyX9_ok nmX9 hown hK hP hD hS hT h_w rfl 0 (by decide) (hts _ kl_RX10_164) (fun _ h9 => h9) rfl (by decide +kernel) rfl rfl rfl ⟨_, rfl⟩ dX10_advance_44 (ph2 := (rp_L w sp sv cu na pr ch v0 v1 (tc_9 + 1) τ0 τ1)) (fun j fs hj hl h => rp_xLw hsd j fs hj hl h) (fun ws_11 H locs hT hfd_12 hP hD hS => ?_)
        refine lv_iconst (v := 0) hx hb dX10_advance_47 (by decide) ?_
        refine lv_istore (lv' := [(4, .int 0), (0, .ref x), (1, .int p1), (2, .int y_7), (3, .int y_8)]) hx hb dX10_advance_48 hl (by decide) rfl (fun ls hl => ?_)
        refine ty_loop (I := fun μ H locs ls => ∃ (ws : va_W) (y_13 : Int32) (y_14 : Int32), μ = (2147483648 - y_14.toInt).toNat ∧ ty_V ct S (rp_L w sp sv cu na pr ch v0 v1 (tc_9 + 1) τ0 τ1) ws ∧ va_P D vwCl ([(ty_XO x w sp sv bu bl le)] ++ ws) H ∧ va_D A ([(ty_XO x w sp sv bu bl le)] ++ ws) ∧ va_S A s.heap H locs ∧ lv_has ls 6 [(0, .ref x), (1, .int p1), (2, .int y_13), (3, .int y_8), (4, .int y_14)]) ⟨_, ws_11, y_7, (0 : Int32), rfl, hT, hP, hD, hS, (lv_sub hl [1, 2, 3, 4, 0] rfl)⟩ (fun μ H locs ls hI ih_50 => ?_)
        obtain ⟨ws, y_13, y_14, rfl, hT, hP, hD, hS, hl⟩ := hI
        refine lv_iload hx hb dX10_advance_50 (lv_at hl 4 rfl) ?_
        refine lv_aload_n hx hb dX10_advance_52 rfl (lv_at hl 0 rfl) ?_
        refine va_get (v := .ref w) (D := D) (ci := 10) (C := RX10) (T := TX10) (N := 6) hx hb hts in_X10 hown hK hP 0 rfl rfl 0 (by decide) (hts _ kl_RX10_10) (fun _ h9 => h9) rfl dX10_advance_53 ?_
        refine ty_getN (E := [(ty_XO x w sp sv bu bl le)]) (ws := ws) (D := D) (ci := 9) (C := RX9) (T := TX9) (N := 8) hx hb hts in_X9 hown hK hP hT h_w rfl 4 (by decide) (hts _ kl_RX10_64) (fun _ h9 => h9) rfl dX10_advance_56 (fun _ hv_15 hf_16 => ?_)
        obtain ⟨x_17, rfl⟩ := hv_15
        refine lv_icmp_ge (tgt := 99) hx hb dX10_advance_59 (by decide) (fun hc_18 => ?_) (fun hc_18 => ?_)
        · refine lv_iinc (v := (y_8 + Int32.ofInt 1)) (lv' := [(3, .int (y_8 + Int32.ofInt 1)), (0, .ref x), (1, .int p1), (2, .int y_13), (4, .int y_14)]) hx hb dX10_advance_99 hl (k := 3) rfl rfl (by decide) rfl (fun ls hl => ?_)
          refine lv_goto (tgt := 29) hx hb dX10_advance_102 (by decide) ?_
          exact ih_29 _ _ _ _ (ty_inc (cm_lt hc_10)) ⟨ws, y_13, (y_8 + Int32.ofInt 1), (tc_9 + 1), rfl, hT, hP, hD, hS, (lv_sub hl [1, 2, 3, 0] rfl), rp_ad1 hex_29 hc_10⟩
        · refine lv_aload_n hx hb dX10_advance_62 rfl (lv_at hl 0 rfl) ?_
          refine va_get (v := .ref w) (D := D) (ci := 10) (C := RX10) (T := TX10) (N := 6) hx hb hts in_X10 hown hK hP 0 rfl rfl 0 (by decide) (hts _ kl_RX10_10) (fun _ h9 => h9) rfl dX10_advance_63 ?_
          refine lv_iload hx hb dX10_advance_66 (lv_at hl 4 rfl) ?_
          refine ty_kq (wr := [(ty_XO x w sp sv bu bl le)]) (wc := ([] ++ ws)) (va_runVN (As := [.int y_14]) (rest := []) ⟨hx, hb, hml, hown, hts⟩ (t_X9_channelAt l D ct S ws (rp_L w sp sv cu na pr ch v0 v1 (tc_9 + 1) τ0 τ1) (rp_xL w sp sv ch v0 v1 (tc_9 + 1) τ0 τ1) w y_14 _ hT h_w rp_SC rp_S1) (cm_VN 1 hts kc_X9_channelAt ki_RX9 kl_RX10_125 kv_X9_channelAt kx_X9_channelAt kd_X9_channelAt ⟨Nat.le_of_ble_eq_true rfl, Nat.le_of_ble_eq_true rfl⟩) (ty_preV (wr := [(ty_XO x w sp sv bu bl le)]) (E := []) (ws := ws) (ci := 9) hP hK hD hS hA hX hT rfl h_w) rfl rfl hl.1 rfl (lv_room (Nat.le_of_ble_eq_true rfl)) dX10_advance_68 ⟨Nat.le_of_ble_eq_true rfl, Nat.le_of_ble_eq_true rfl⟩) hP hD hS hA (fun r_19 u H locs hw_20 hP hD hS => ?_)
          obtain ⟨ws_21, rfl⟩ : ∃ z, z = u := ⟨_, rfl⟩
          obtain ⟨hT, hq_22⟩ := hw_20
          have hP : va_P D vwCl ([(ty_XO x w sp sv bu bl le)] ++ ws_21) H := hP
          have hD : va_D A ([(ty_XO x w sp sv bu bl le)] ++ ws_21) := hD
          rcases hq_22 with rfl | ⟨a_23, rfl, ha_24⟩
          · refine W.eq (g2 := F0 m 71 ls (.null :: [])) rfl ?_
            refine lv_astoreN (lv' := [(5, .null), (0, .ref x), (1, .int p1), (2, .int y_13), (3, .int y_8), (4, .int y_14)]) hx hb dX10_advance_71 hl (by decide) rfl (fun ls hl => ?_)
            refine lv_aloadN hx hb dX10_advance_73 (lv_at hl 0 rfl) ?_
            refine lv_ifnullN (tgt := 93) hx hb dX10_advance_75 (by decide) ?_
            refine lv_iinc (v := (y_14 + Int32.ofInt 1)) (lv' := [(4, .int (y_14 + Int32.ofInt 1)), (5, .null), (0, .ref x), (1, .int p1), (2, .int y_13), (3, .int y_8)]) hx hb dX10_advance_93 hl (k := 5) rfl rfl (by decide) rfl (fun ls hl => ?_)
            refine lv_goto (tgt := 50) hx hb dX10_advance_96 (by decide) ?_
            exact ih_50 _ _ _ _ (ty_inc (cm_lt hc_18)) ⟨ws_21, y_13, (y_14 + Int32.ofInt 1), rfl, hT, hP, hD, hS, (lv_sub hl [2, 3, 4, 5, 0] rfl)⟩
          · refine W.eq (g2 := F0 m 71 ls (.ref a_23 :: [])) rfl ?_
            refine lv_astore (lv' := [(5, .ref a_23), (0, .ref x), (1, .int p1), (2, .int y_13), (3, .int y_8), (4, .int y_14)]) hx hb dX10_advance_71 hl (by decide) rfl (fun ls hl => ?_)
            refine lv_aload hx hb dX10_advance_73 (lv_at hl 0 rfl) ?_
            refine lv_ifnull hx hb dX10_advance_75 ?_
            refine lv_aload hx hb dX10_advance_78 (lv_at hl 0 rfl) ?_
            refine lv_aload_n hx hb dX10_advance_80 rfl (lv_at hl 1 rfl) ?_
            refine va_get (v := .ref w) (D := D) (ci := 10) (C := RX10) (T := TX10) (N := 6) hx hb hts in_X10 hown hK hP 0 rfl rfl 0 (by decide) (hts _ kl_RX10_10) (fun _ h9 => h9) rfl dX10_advance_81 ?_
            refine ty_ki (wr := [(ty_XO x w sp sv bu bl le)]) (wc := ([] ++ ws_21)) (va_runVN (As := [.ref w]) (rest := []) ⟨hx, hb, hml, hown, hts⟩ (t_X1_passTick l D ct S ws_21 (rp_L w sp sv cu na pr ch v0 v1 (tc_9 + 1) τ0 τ1) (rp_xL w sp sv ch v0 v1 (tc_9 + 1) τ0 τ1) a_23 w _ hT ha_24 h_w rp_SC rp_S1) (cm_VN 1 hts kc_X1_passTick ki_RX1 kl_RX10_168 kv_X1_passTick kx_X1_passTick kd_X1_passTick ⟨Nat.le_of_ble_eq_true rfl, Nat.le_of_ble_eq_true rfl⟩) (ty_preV (wr := [(ty_XO x w sp sv bu bl le)]) (E := []) (ws := ws_21) (ci := 1) hP hK hD hS hA hX hT rfl ha_24) rfl rfl hl.1 rfl (lv_room (Nat.le_of_ble_eq_true rfl)) dX10_advance_84 ⟨Nat.le_of_ble_eq_true rfl, Nat.le_of_ble_eq_true rfl⟩) hP hD hS hA (fun r_25 u H locs hw_26 hP hD hS => ?_)
            obtain ⟨ws_27, rfl⟩ : ∃ z, z = u := ⟨_, rfl⟩
            have hT := hw_26
            have hP : va_P D vwCl ([(ty_XO x w sp sv bu bl le)] ++ ws_27) H := hP
            have hD : va_D A ([(ty_XO x w sp sv bu bl le)] ++ ws_27) := hD
            refine lv_if_eq (tgt := 93) hx hb dX10_advance_87 (by decide) (fun hc_28 => ?_) (fun hc_28 => ?_)
            · refine lv_iinc (v := (y_14 + Int32.ofInt 1)) (lv' := [(4, .int (y_14 + Int32.ofInt 1)), (5, .ref a_23), (0, .ref x), (1, .int p1), (2, .int y_13), (3, .int y_8)]) hx hb dX10_advance_93 hl (k := 5) rfl rfl (by decide) rfl (fun ls hl => ?_)
              refine lv_goto (tgt := 50) hx hb dX10_advance_96 (by decide) ?_
              exact ih_50 _ _ _ _ (ty_inc (cm_lt hc_18)) ⟨ws_27, y_13, (y_14 + Int32.ofInt 1), rfl, hT, hP, hD, hS, (lv_sub hl [2, 3, 4, 5, 0] rfl)⟩
            · refine lv_iinc (v := (y_13 + Int32.ofInt 1)) (lv' := [(2, .int (y_13 + Int32.ofInt 1)), (5, .ref a_23), (0, .ref x), (1, .int p1), (3, .int y_8), (4, .int y_14)]) hx hb dX10_advance_90 hl (k := 3) rfl rfl (by decide) rfl (fun ls hl => ?_)
              refine lv_iinc (v := (y_14 + Int32.ofInt 1)) (lv' := [(4, .int (y_14 + Int32.ofInt 1)), (2, .int (y_13 + Int32.ofInt 1)), (5, .ref a_23), (0, .ref x), (1, .int p1), (3, .int y_8)]) hx hb dX10_advance_93 hl (k := 5) rfl rfl (by decide) rfl (fun ls hl => ?_)
              refine lv_goto (tgt := 50) hx hb dX10_advance_96 (by decide) ?_
              exact ih_50 _ _ _ _ (ty_inc (cm_lt hc_18)) ⟨ws_27, (y_13 + Int32.ofInt 1), (y_14 + Int32.ofInt 1), rfl, hT, hP, hD, hS, (lv_sub hl [3, 4, 1, 5, 0] rfl)⟩
    · refine lv_bipush (v := (-2)) hx hb dX10_advance_22 (by decide) ?_
      have hT : ty_V ct S (rp_L w sp sv cu na pr ch v0 v1 (rp_av tt p1) τ0 τ1) ws_4 := by rw [rp_avF hc_6]; exact hT
      refine vx_ret ?_
      exact W.iret (v := (-2)) hx hb hr (fun t ht hW => ⟨⟨(-2), ws_4, rfl, hT, by rw [ht]; exact hP, by rw [hAe]; exact hD⟩, hS.F ht⟩) hS.2.2 dX10_advance_24
theorem dX10_restoreSnapshot_0 : decode cX10_restoreSnapshot 0 = .ok (.iload_n 1, 1) := by decide +kernel
theorem dX10_restoreSnapshot_1 : decode cX10_restoreSnapshot 1 = .ok (.iconst 0, 1) := by decide +kernel
theorem dX10_restoreSnapshot_2 : decode cX10_restoreSnapshot 2 = .ok (.iconst 1, 1) := by decide +kernel
theorem dX10_restoreSnapshot_3 : decode cX10_restoreSnapshot 3 = .ok (.invokestatic 81, 3) := by decide +kernel
theorem dX10_restoreSnapshot_6 : decode cX10_restoreSnapshot 6 = .ok (.aload_n 0, 1) := by decide +kernel
theorem dX10_restoreSnapshot_7 : decode cX10_restoreSnapshot 7 = .ok (.iload_n 1, 1) := by decide +kernel
theorem dX10_restoreSnapshot_8 : decode cX10_restoreSnapshot 8 = .ok (.invokevirtual 347, 3) := by decide +kernel
theorem dX10_restoreSnapshot_11 : decode cX10_restoreSnapshot 11 = .ok (.astore_n 2, 1) := by decide +kernel
theorem dX10_restoreSnapshot_12 : decode cX10_restoreSnapshot 12 = .ok (.aload_n 2, 1) := by decide +kernel
theorem dX10_restoreSnapshot_13 : decode cX10_restoreSnapshot 13 = .ok (.ifnonnull 5, 3) := by decide +kernel
theorem dX10_restoreSnapshot_16 : decode cX10_restoreSnapshot 16 = .ok (.iconst (-1), 1) := by decide +kernel
theorem dX10_restoreSnapshot_17 : decode cX10_restoreSnapshot 17 = .ok (.ireturn, 1) := by decide +kernel
theorem dX10_restoreSnapshot_18 : decode cX10_restoreSnapshot 18 = .ok (.aload_n 0, 1) := by decide +kernel
theorem dX10_restoreSnapshot_19 : decode cX10_restoreSnapshot 19 = .ok (.getfield 10, 3) := by decide +kernel
theorem dX10_restoreSnapshot_22 : decode cX10_restoreSnapshot 22 = .ok (.aload_n 2, 1) := by decide +kernel
theorem dX10_restoreSnapshot_23 : decode cX10_restoreSnapshot 23 = .ok (.invokevirtual 60, 3) := by decide +kernel
theorem dX10_restoreSnapshot_26 : decode cX10_restoreSnapshot 26 = .ok (.aload_n 0, 1) := by decide +kernel
theorem dX10_restoreSnapshot_27 : decode cX10_restoreSnapshot 27 = .ok (.getfield 10, 3) := by decide +kernel
theorem dX10_restoreSnapshot_30 : decode cX10_restoreSnapshot 30 = .ok (.getfield 164, 3) := by decide +kernel
theorem dX10_restoreSnapshot_33 : decode cX10_restoreSnapshot 33 = .ok (.ireturn, 1) := by decide +kernel
set_option maxRecDepth 100000 in
set_option maxHeartbeats 4000000 in
theorem r_restore (l : Launch) (hfl : l.stackTraces = false) (D : va_G) (ct : Nat → ClassId) (S : ty_S) (ws : va_W) (x : Nat) (w : Nat) (sp : Nat) (sv : Nat) (bu : Nat) (bl : Int32) (le : Int32) (v0 : Option Nat) (v1 : Option Nat) (tt : Int32) (τ0 : Int32) (τ1 : Int32) (cu : Nat) (na : Nat) (pr : Nat) (ch : Nat) (p1 : Int32) (sz : Nat) (hT : ty_V ct S (rp_L w sp sv cu na pr ch v0 v1 tt τ0 τ1) ws) (h_w : S w = some (.inl 9)) (h_sp : S sp = some (.inl 9)) (h_sv : S sv = some (.inr (4, 2))) (hsd : rp_sd w sp v0 v1) : vx_Met l yX10_restoreSnapshot (ws_ yX10_restoreSnapshot cX10_restoreSnapshot 3 (some .int)) ({ frames := 7, cells := 1, slots := 6, locals := 167 } : Room) (va_Pc [.ref x, .int p1] (cmP D ct sz ([(ty_XO x w sp sv bu bl le)] ++ ws))) (va_Qi (fun (r : Int32) (u : va_W × Int32) => match u with | (u9, t1) => ty_V ct S (rp_L w sp sv cu na pr ch v0 v1 t1 τ0 τ1) u9 ∧ rp_rs p1 v0 v1 tt τ0 τ1 t1 r) (cmB D ([(ty_XO x w sp sv bu bl le)] ++ ws) sz (fun (u : va_W × Int32) => match u with | (u9, t1) => ([(ty_XO x w sp sv bu bl le)] ++ u9))) (va_A ([(ty_XO x w sp sv bu bl le)] ++ ws) sz)) (vx_X (fun (u9 : va_W) => ty_V ct S (rp_L w sp sv cu na pr ch v0 v1 tt τ0 τ1) u9 ∧ ¬ (p1 = 0 ∨ p1 = 1)) (cmBY D ([(ty_XO x w sp sv bu bl le)] ++ ws) sz ["java/lang/IllegalArgumentException"] (fun (u9 : va_W) => ([(ty_XO x w sp sv bu bl le)] ++ u9))) (va_A ([(ty_XO x w sp sv bu bl le)] ++ ws) sz)) 1 6 (va_A ([(ty_XO x w sp sv bu bl le)] ++ ws) sz) := by
  refine vx_ofW (cc := cX10_restoreSnapshot) (maxL := 3) (ret := (some .int)) (by decide) rfl ?_
  intro p e s m args below meth c s₁ B hml hex hv
  obtain ⟨rfl, hsz, hP, hK, hD0, hX⟩ := hv
  have hx := B.exec
  have hb := B.bytes
  have hr := B.returns
  have hts := ws_all (atoms_spec (ws := ws_ yX10_restoreSnapshot cX10_restoreSnapshot 3 (some .int)) B.pre)
  have hown : s.vm.findClass RX10 = some m.cls := findClass_of_methodNamed B.named
  have hlocks := B.notSynchronized
  subst hsz
  have hD := hD0.self (sz := s.heap.size)
  generalize hAe : va_A ([(ty_XO x w sp sv bu bl le)] ++ ws) s.heap.size = A at hD hX ⊢
  have hA : ∀ q : Nat, s.heap.size ≤ q → A q := fun q h => by rw [← hAe]; exact Or.inr h
  have hS : va_S A s.heap s.heap [] := va_S.rf
  have hl := lv_entry ([.ref x, .int p1]) (n := 3) (Nat.le_of_ble_eq_true rfl)
  rw [lg_entry_eq]
  generalize (lg_sl ([.ref x, .int p1]) ++ List.replicate (3 - (lg_sl ([.ref x, .int p1])).length) Slot.unset).toArray = ls at hl ⊢
  have hl : lv_has ls 3 [(0, .ref x), (1, .int p1)] := hl
  refine lv_iload_n hx hb dX10_restoreSnapshot_0 rfl (lv_at hl 1 rfl) ?_
  refine lv_iconst (v := 0) hx hb dX10_restoreSnapshot_1 (by decide) ?_
  refine lv_iconst (v := 1) hx hb dX10_restoreSnapshot_2 (by decide) ?_
  refine ty_xv (wr := [(ty_XO x w sp sv bu bl le)]) (wc := ([] ++ ws)) (vx_runS (As := [.int p1, .int 0, .int 1]) (rest := []) ⟨hx, hb, hml, hown, hts⟩ (r_needRange l hfl D ct S ws (rp_L w sp sv cu na pr ch v0 v1 tt τ0 τ1) (rp_xL w sp sv ch v0 v1 tt τ0 τ1) p1 (0 : Int32) (1 : Int32) _ hT rp_SC rp_S1) (cm_S 3 hts kc_X10_needRange ki_RX10 kl_RX10_81 ks_X10_needRange kd_X10_needRange ⟨Nat.le_of_ble_eq_true rfl, Nat.le_of_ble_eq_true rfl⟩) (ty_preS (wr := [(ty_XO x w sp sv bu bl le)]) (wc := ([] ++ ws)) hP hK hD hS hA hX) rfl rfl hl.1 rfl (lv_room (Nat.le_of_ble_eq_true rfl)) dX10_restoreSnapshot_3 ⟨Nat.le_of_ble_eq_true rfl, Nat.le_of_ble_eq_true rfl⟩) hP hD hS hA (fun E ce q9 u H locs hu hE hP hD hS hce hcv hcl => ?_) (fun u H locs hw_2 hP hD hS => ?_)
  · obtain ⟨ws_3, rfl⟩ : ∃ z, z = u := ⟨_, rfl⟩
    obtain ⟨hT, hxp⟩ := hu
    have hP : va_P D vwCl ([(ty_XO x w sp sv bu bl le)] ++ ws_3) H := hP
    have hD : va_D A ([(ty_XO x w sp sv bu bl le)] ++ ws_3) := hD
    exact vx_out (fun x hx => (hex x hx).elim) hlocks hce hcv hcl (fun t ht hW => ⟨ws_3, ⟨hT, (rp_n01 hxp)⟩, ⟨hE, by rw [ht]; exact hP, by rw [hAe]; exact hD⟩, hS.F ht⟩) hS.2.2 (Nat.le_of_ble_eq_true rfl) (Nat.le_of_ble_eq_true rfl)
  · obtain ⟨ws_4, rfl⟩ : ∃ z, z = u := ⟨_, rfl⟩
    obtain ⟨hT, hp_5⟩ := hw_2
    have hp_5 : (0 : Int32).toInt ≤ p1.toInt ∧ p1.toInt ≤ (1 : Int32).toInt := hp_5
    have hP : va_P D vwCl ([(ty_XO x w sp sv bu bl le)] ++ ws_4) H := hP
    have hD : va_D A ([(ty_XO x w sp sv bu bl le)] ++ ws_4) := hD
    refine W.widen (k := 1) (n := 6) (Nat.le_of_ble_eq_true rfl) (Nat.le_of_ble_eq_true rfl) ?_
    have hrg := hp_5
    have h01_6 : p1 = 0 ∨ p1 = 1 := rp_01 hrg
    rcases h01_6 with rfl | rfl
    · refine lv_aload_n hx hb dX10_restoreSnapshot_6 rfl (lv_at hl 0 rfl) ?_
      refine lv_iload_n hx hb dX10_restoreSnapshot_7 rfl (lv_at hl 1 rfl) ?_
      refine ty_kq (wr := []) (wc := ([(ty_XO x w sp sv bu bl le)] ++ ws_4)) (va_runV (As := [.int 0]) (rest := []) ⟨hx, hb, hml, hown, hts⟩ (r_savedAt l D ct S ws_4 (rp_L w sp sv cu na pr ch v0 v1 tt τ0 τ1) (rp_xL w sp sv ch v0 v1 tt τ0 τ1) x w sp sv bu bl le (0 : Int32) v0 v0 v1 _ hT h_w h_sv rp_SC rp_S1 (Or.inl ⟨rfl, rfl⟩) (fun _ h9 => h9.2.2.2.2.2.1)) (cm_V 1 hts kc_X10_savedAt ki_RX10 kl_RX10_347 kv_X10_savedAt kx_X10_savedAt kd_X10_savedAt ⟨Nat.le_of_ble_eq_true rfl, Nat.le_of_ble_eq_true rfl⟩) (ty_preE (wr := []) (wc := ([(ty_XO x w sp sv bu bl le)] ++ ws_4)) (ci := 10) (q0 := 0) hP hK hD hS hA hX rfl rfl) rfl rfl hl.1 rfl (lv_room (Nat.le_of_ble_eq_true rfl)) dX10_restoreSnapshot_8 ⟨Nat.le_of_ble_eq_true rfl, Nat.le_of_ble_eq_true rfl⟩) hP hD hS hA (fun r_7 u H locs hw_8 hP hD hS => ?_)
      obtain ⟨ws_9, rfl⟩ : ∃ z, z = u := ⟨_, rfl⟩
      obtain ⟨hT, hq_10, hp_11⟩ := hw_8
      have hp_11 : r_7 = v0 := hp_11
      have hP : va_P D vwCl ([(ty_XO x w sp sv bu bl le)] ++ ws_9) H := hP
      have hD : va_D A ([(ty_XO x w sp sv bu bl le)] ++ ws_9) := hD
      rcases hq_10 with rfl | ⟨a_12, rfl, ha_13⟩
      · refine W.eq (g2 := F0 m 11 ls (.null :: [])) rfl ?_
        refine lv_astore_nN (lv' := [(2, .null), (0, .ref x), (1, .int 0)]) hx hb dX10_restoreSnapshot_11 rfl hl (by decide) rfl (fun ls hl => ?_)
        refine lv_aload_nN hx hb dX10_restoreSnapshot_12 rfl (lv_at hl 0 rfl) ?_
        refine lv_ifnonnullN hx hb dX10_restoreSnapshot_13 ?_
        refine lv_iconst (v := (-1)) hx hb dX10_restoreSnapshot_16 (by decide) ?_
        refine vx_ret ?_
        exact W.iret (v := (-1)) hx hb hr (fun t ht hW => ⟨⟨(-1), (ws_9, tt), rfl, ⟨hT, (Or.inl ⟨rfl, Or.inl ⟨hp_11.symm, rfl, rfl⟩⟩)⟩, by rw [ht]; exact hP, by rw [hAe]; exact hD⟩, hS.F ht⟩) hS.2.2 dX10_restoreSnapshot_17
      · refine W.eq (g2 := F0 m 11 ls (.ref a_12 :: [])) rfl ?_
        refine lv_astore_n (lv' := [(2, .ref a_12), (0, .ref x), (1, .int 0)]) hx hb dX10_restoreSnapshot_11 rfl hl (by decide) rfl (fun ls hl => ?_)
        refine lv_aload_n hx hb dX10_restoreSnapshot_12 rfl (lv_at hl 0 rfl) ?_
        refine lv_ifnonnull (tgt := 18) hx hb dX10_restoreSnapshot_13 (by decide) ?_
        obtain ⟨n_14, hn_15⟩ := rp_fcx hT.1 ha_13
        have hT : ty_V ct S (rp_W2 (rp_P3 sp sv v0 v1 none v0 v1 tt τ0 τ1) a_12 τ0 n_14 cu na pr ch) ws_9 := ⟨hT.1, ⟨⟨rp_Sm hT.2 (fun z => ⟨z.1, (fun v9 q9 => by cases q9), z.2.2⟩), (hT.2.2.2.2.2.2.2.2.1 _ hp_11.symm)⟩, hn_15⟩⟩
        refine lv_aload_n hx hb dX10_restoreSnapshot_18 rfl (lv_at hl 1 rfl) ?_
        refine va_get (v := .ref w) (D := D) (ci := 10) (C := RX10) (T := TX10) (N := 6) hx hb hts in_X10 hown hK hP 0 rfl rfl 0 (by decide) (hts _ kl_RX10_10) (fun _ h9 => h9) rfl dX10_restoreSnapshot_19 ?_
        refine lv_aload_n hx hb dX10_restoreSnapshot_22 rfl (lv_at hl 0 rfl) ?_
        refine ty_kv (wr := [(ty_XO x w sp sv bu bl le)]) (wc := ([] ++ ws_9)) (va_runVN (As := [.ref a_12]) (rest := []) ⟨hx, hb, hml, hown, hts⟩ (r_copyFrom l D ct S ws_9 (rp_W2 (rp_P3 sp sv v0 v1 none v0 v1 tt τ0 τ1) a_12 τ0 n_14 cu na pr ch) (rp_xW2 (rp_P3 sp sv v0 v1 none v0 v1 tt τ0 τ1) a_12 ch) w a_12 τ0 n_14 _ hT h_w ha_13 rp_W2C rp_W21 (rp_W20 2 (Or.inl rfl)) (rp_W20 5 (Or.inr (Or.inl rfl))) rp_W27 (rp_W20 11 (Or.inr (Or.inr rfl))) (rp_W2h (rp_Pw hsd) rp_P34 (fun q => (hsd.2.1 _ hp_11.symm).1 q.symm)) (fun _ h9 => ⟨h9.1.2, h9.2⟩)) (cm_VN 1 hts kc_X9_copyFrom ki_RX9 kl_RX10_60 kv_X9_copyFrom kx_X9_copyFrom kd_X9_copyFrom ⟨Nat.le_of_ble_eq_true rfl, Nat.le_of_ble_eq_true rfl⟩) (ty_preV (wr := [(ty_XO x w sp sv bu bl le)]) (E := []) (ws := ws_9) (ci := 9) hP hK hD hS hA hX hT rfl h_w) rfl rfl hl.1 rfl (lv_room (Nat.le_of_ble_eq_true rfl)) dX10_restoreSnapshot_23 ⟨Nat.le_of_ble_eq_true rfl, Nat.le_of_ble_eq_true rfl⟩) hP hD hS hA (fun u H locs hw_17 hP hD hS => ?_)
        obtain ⟨ws_18, rfl⟩ : ∃ z, z = u := ⟨_, rfl⟩
        have hT := hw_17
        have hP : va_P D vwCl ([(ty_XO x w sp sv bu bl le)] ++ ws_18) H := hP
        have hD : va_D A ([(ty_XO x w sp sv bu bl le)] ++ ws_18) := hD
        have hT : ty_V ct S (rp_L w sp sv cu na pr ch v0 v1 τ0 τ0 τ1) ws_18 := ⟨hT.1, rp_Sm hT.2.1.1.1.1 (fun z => ⟨z.1, (fun v9 q9 => by rw [← Option.some.inj q9]; exact hT.2.1.2), z.2.2⟩)⟩
        refine lv_aload_n hx hb dX10_restoreSnapshot_26 rfl (lv_at hl 1 rfl) ?_
        refine va_get (v := .ref w) (D := D) (ci := 10) (C := RX10) (T := TX10) (N := 6) hx hb hts in_X10 hown hK hP 0 rfl rfl 0 (by decide) (hts _ kl_RX10_10) (fun _ h9 => h9) rfl dX10_restoreSnapshot_27 ?_
        refine ty_getDN (v := .int τ0) (E := [(ty_XO x w sp sv bu bl le)]) (ws := ws_18) (D := D) (ci := 9) (C := RX9) (T := TX9) (N := 8) hx hb hts in_X9 hown hK hP hD hT h_w rfl 0 (by decide) (hts _ kl_RX10_164) (fun _ h9 => h9) (ty_fcd (rp_Lw hT.2)) dX10_restoreSnapshot_30 ?_
        refine vx_ret ?_
        exact W.iret (v := τ0) hx hb hr (fun t ht hW => ⟨⟨τ0, (ws_18, τ0), rfl, ⟨hT, (Or.inl ⟨rfl, Or.inr ⟨(fun q9 => absurd (hp_11.trans q9) (by simp)), rfl, rfl⟩⟩)⟩, by rw [ht]; exact hP, by rw [hAe]; exact hD⟩, hS.F ht⟩) hS.2.2 dX10_restoreSnapshot_33
    · refine lv_aload_n hx hb dX10_restoreSnapshot_6 rfl (lv_at hl 0 rfl) ?_
      refine lv_iload_n hx hb dX10_restoreSnapshot_7 rfl (lv_at hl 1 rfl) ?_
      refine ty_kq (wr := []) (wc := ([(ty_XO x w sp sv bu bl le)] ++ ws_4)) (va_runV (As := [.int 1]) (rest := []) ⟨hx, hb, hml, hown, hts⟩ (r_savedAt l D ct S ws_4 (rp_L w sp sv cu na pr ch v0 v1 tt τ0 τ1) (rp_xL w sp sv ch v0 v1 tt τ0 τ1) x w sp sv bu bl le (1 : Int32) v1 v0 v1 _ hT h_w h_sv rp_SC rp_S1 (Or.inr ⟨rfl, rfl⟩) (fun _ h9 => h9.2.2.2.2.2.1)) (cm_V 1 hts kc_X10_savedAt ki_RX10 kl_RX10_347 kv_X10_savedAt kx_X10_savedAt kd_X10_savedAt ⟨Nat.le_of_ble_eq_true rfl, Nat.le_of_ble_eq_true rfl⟩) (ty_preE (wr := []) (wc := ([(ty_XO x w sp sv bu bl le)] ++ ws_4)) (ci := 10) (q0 := 0) hP hK hD hS hA hX rfl rfl) rfl rfl hl.1 rfl (lv_room (Nat.le_of_ble_eq_true rfl)) dX10_restoreSnapshot_8 ⟨Nat.le_of_ble_eq_true rfl, Nat.le_of_ble_eq_true rfl⟩) hP hD hS hA (fun r_19 u H locs hw_20 hP hD hS => ?_)
      obtain ⟨ws_21, rfl⟩ : ∃ z, z = u := ⟨_, rfl⟩
      obtain ⟨hT, hq_22, hp_23⟩ := hw_20
      have hp_23 : r_19 = v1 := hp_23
      have hP : va_P D vwCl ([(ty_XO x w sp sv bu bl le)] ++ ws_21) H := hP
      have hD : va_D A ([(ty_XO x w sp sv bu bl le)] ++ ws_21) := hD
      rcases hq_22 with rfl | ⟨a_24, rfl, ha_25⟩
      · refine W.eq (g2 := F0 m 11 ls (.null :: [])) rfl ?_
        refine lv_astore_nN (lv' := [(2, .null), (0, .ref x), (1, .int 1)]) hx hb dX10_restoreSnapshot_11 rfl hl (by decide) rfl (fun ls hl => ?_)
        refine lv_aload_nN hx hb dX10_restoreSnapshot_12 rfl (lv_at hl 0 rfl) ?_
        refine lv_ifnonnullN hx hb dX10_restoreSnapshot_13 ?_
        refine lv_iconst (v := (-1)) hx hb dX10_restoreSnapshot_16 (by decide) ?_
        refine vx_ret ?_
        exact W.iret (v := (-1)) hx hb hr (fun t ht hW => ⟨⟨(-1), (ws_21, tt), rfl, ⟨hT, (Or.inr ⟨rfl, Or.inl ⟨hp_23.symm, rfl, rfl⟩⟩)⟩, by rw [ht]; exact hP, by rw [hAe]; exact hD⟩, hS.F ht⟩) hS.2.2 dX10_restoreSnapshot_17
      · refine W.eq (g2 := F0 m 11 ls (.ref a_24 :: [])) rfl ?_
        refine lv_astore_n (lv' := [(2, .ref a_24), (0, .ref x), (1, .int 1)]) hx hb dX10_restoreSnapshot_11 rfl hl (by decide) rfl (fun ls hl => ?_)
        refine lv_aload_n hx hb dX10_restoreSnapshot_12 rfl (lv_at hl 0 rfl) ?_
        refine lv_ifnonnull (tgt := 18) hx hb dX10_restoreSnapshot_13 (by decide) ?_
        obtain ⟨n_26, hn_27⟩ := rp_fcx hT.1 ha_25
        have hT : ty_V ct S (rp_W2 (rp_P3 sp sv v0 v1 none v0 v1 tt τ0 τ1) a_24 τ1 n_26 cu na pr ch) ws_21 := ⟨hT.1, ⟨⟨rp_Sm hT.2 (fun z => ⟨z.1, (fun v9 q9 => by cases q9), z.2.2⟩), (hT.2.2.2.2.2.2.2.2.2 _ hp_23.symm)⟩, hn_27⟩⟩
        refine lv_aload_n hx hb dX10_restoreSnapshot_18 rfl (lv_at hl 1 rfl) ?_
        refine va_get (v := .ref w) (D := D) (ci := 10) (C := RX10) (T := TX10) (N := 6) hx hb hts in_X10 hown hK hP 0 rfl rfl 0 (by decide) (hts _ kl_RX10_10) (fun _ h9 => h9) rfl dX10_restoreSnapshot_19 ?_
        refine lv_aload_n hx hb dX10_restoreSnapshot_22 rfl (lv_at hl 0 rfl) ?_
        refine ty_kv (wr := [(ty_XO x w sp sv bu bl le)]) (wc := ([] ++ ws_21)) (va_runVN (As := [.ref a_24]) (rest := []) ⟨hx, hb, hml, hown, hts⟩ (r_copyFrom l D ct S ws_21 (rp_W2 (rp_P3 sp sv v0 v1 none v0 v1 tt τ0 τ1) a_24 τ1 n_26 cu na pr ch) (rp_xW2 (rp_P3 sp sv v0 v1 none v0 v1 tt τ0 τ1) a_24 ch) w a_24 τ1 n_26 _ hT h_w ha_25 rp_W2C rp_W21 (rp_W20 2 (Or.inl rfl)) (rp_W20 5 (Or.inr (Or.inl rfl))) rp_W27 (rp_W20 11 (Or.inr (Or.inr rfl))) (rp_W2h (rp_Pw hsd) rp_P34 (fun q => (hsd.2.2.1 _ hp_23.symm).1 q.symm)) (fun _ h9 => ⟨h9.1.2, h9.2⟩)) (cm_VN 1 hts kc_X9_copyFrom ki_RX9 kl_RX10_60 kv_X9_copyFrom kx_X9_copyFrom kd_X9_copyFrom ⟨Nat.le_of_ble_eq_true rfl, Nat.le_of_ble_eq_true rfl⟩) (ty_preV (wr := [(ty_XO x w sp sv bu bl le)]) (E := []) (ws := ws_21) (ci := 9) hP hK hD hS hA hX hT rfl h_w) rfl rfl hl.1 rfl (lv_room (Nat.le_of_ble_eq_true rfl)) dX10_restoreSnapshot_23 ⟨Nat.le_of_ble_eq_true rfl, Nat.le_of_ble_eq_true rfl⟩) hP hD hS hA (fun u H locs hw_29 hP hD hS => ?_)
        obtain ⟨ws_30, rfl⟩ : ∃ z, z = u := ⟨_, rfl⟩
        have hT := hw_29
        have hP : va_P D vwCl ([(ty_XO x w sp sv bu bl le)] ++ ws_30) H := hP
        have hD : va_D A ([(ty_XO x w sp sv bu bl le)] ++ ws_30) := hD
        have hT : ty_V ct S (rp_L w sp sv cu na pr ch v0 v1 τ1 τ0 τ1) ws_30 := ⟨hT.1, rp_Sm hT.2.1.1.1.1 (fun z => ⟨z.1, (fun v9 q9 => by rw [← Option.some.inj q9]; exact hT.2.1.2), z.2.2⟩)⟩
        refine lv_aload_n hx hb dX10_restoreSnapshot_26 rfl (lv_at hl 1 rfl) ?_
        refine va_get (v := .ref w) (D := D) (ci := 10) (C := RX10) (T := TX10) (N := 6) hx hb hts in_X10 hown hK hP 0 rfl rfl 0 (by decide) (hts _ kl_RX10_10) (fun _ h9 => h9) rfl dX10_restoreSnapshot_27 ?_
        refine ty_getDN (v := .int τ1) (E := [(ty_XO x w sp sv bu bl le)]) (ws := ws_30) (D := D) (ci := 9) (C := RX9) (T := TX9) (N := 8) hx hb hts in_X9 hown hK hP hD hT h_w rfl 0 (by decide) (hts _ kl_RX10_164) (fun _ h9 => h9) (ty_fcd (rp_Lw hT.2)) dX10_restoreSnapshot_30 ?_
        refine vx_ret ?_
        exact W.iret (v := τ1) hx hb hr (fun t ht hW => ⟨⟨τ1, (ws_30, τ1), rfl, ⟨hT, (Or.inr ⟨rfl, Or.inr ⟨(fun q9 => absurd (hp_23.trans q9) (by simp)), rfl, rfl⟩⟩)⟩, by rw [ht]; exact hP, by rw [hAe]; exact hD⟩, hS.F ht⟩) hS.2.2 dX10_restoreSnapshot_33
theorem dX10_saveSnapshot_0 : decode cX10_saveSnapshot 0 = .ok (.iload_n 1, 1) := by decide +kernel
theorem dX10_saveSnapshot_1 : decode cX10_saveSnapshot 1 = .ok (.iconst 0, 1) := by decide +kernel
theorem dX10_saveSnapshot_2 : decode cX10_saveSnapshot 2 = .ok (.iconst 1, 1) := by decide +kernel
theorem dX10_saveSnapshot_3 : decode cX10_saveSnapshot 3 = .ok (.invokestatic 81, 3) := by decide +kernel
theorem dX10_saveSnapshot_6 : decode cX10_saveSnapshot 6 = .ok (.aload_n 0, 1) := by decide +kernel
theorem dX10_saveSnapshot_7 : decode cX10_saveSnapshot 7 = .ok (.iload_n 1, 1) := by decide +kernel
theorem dX10_saveSnapshot_8 : decode cX10_saveSnapshot 8 = .ok (.invokevirtual 347, 3) := by decide +kernel
theorem dX10_saveSnapshot_11 : decode cX10_saveSnapshot 11 = .ok (.astore_n 2, 1) := by decide +kernel
theorem dX10_saveSnapshot_12 : decode cX10_saveSnapshot 12 = .ok (.aload_n 2, 1) := by decide +kernel
theorem dX10_saveSnapshot_13 : decode cX10_saveSnapshot 13 = .ok (.ifnonnull 17, 3) := by decide +kernel
theorem dX10_saveSnapshot_16 : decode cX10_saveSnapshot 16 = .ok (.new 7, 3) := by decide +kernel
theorem dX10_saveSnapshot_19 : decode cX10_saveSnapshot 19 = .ok (.dup, 1) := by decide +kernel
theorem dX10_saveSnapshot_20 : decode cX10_saveSnapshot 20 = .ok (.invokespecial 9, 3) := by decide +kernel
theorem dX10_saveSnapshot_23 : decode cX10_saveSnapshot 23 = .ok (.astore_n 2, 1) := by decide +kernel
theorem dX10_saveSnapshot_24 : decode cX10_saveSnapshot 24 = .ok (.aload_n 0, 1) := by decide +kernel
theorem dX10_saveSnapshot_25 : decode cX10_saveSnapshot 25 = .ok (.iload_n 1, 1) := by decide +kernel
theorem dX10_saveSnapshot_26 : decode cX10_saveSnapshot 26 = .ok (.aload_n 2, 1) := by decide +kernel
theorem dX10_saveSnapshot_27 : decode cX10_saveSnapshot 27 = .ok (.invokevirtual 351, 3) := by decide +kernel
theorem dX10_saveSnapshot_30 : decode cX10_saveSnapshot 30 = .ok (.aload_n 2, 1) := by decide +kernel
theorem dX10_saveSnapshot_31 : decode cX10_saveSnapshot 31 = .ok (.aload_n 0, 1) := by decide +kernel
theorem dX10_saveSnapshot_32 : decode cX10_saveSnapshot 32 = .ok (.getfield 10, 3) := by decide +kernel
theorem dX10_saveSnapshot_35 : decode cX10_saveSnapshot 35 = .ok (.invokevirtual 60, 3) := by decide +kernel
theorem dX10_saveSnapshot_38 : decode cX10_saveSnapshot 38 = .ok (.aload_n 0, 1) := by decide +kernel
theorem dX10_saveSnapshot_39 : decode cX10_saveSnapshot 39 = .ok (.getfield 10, 3) := by decide +kernel
theorem dX10_saveSnapshot_42 : decode cX10_saveSnapshot 42 = .ok (.getfield 164, 3) := by decide +kernel
theorem dX10_saveSnapshot_45 : decode cX10_saveSnapshot 45 = .ok (.ireturn, 1) := by decide +kernel
set_option maxRecDepth 100000 in
set_option maxHeartbeats 4000000 in
theorem r_save (l : Launch) (hfl : l.stackTraces = false) (D : va_G) (ct : Nat → ClassId) (S : ty_S) (ws : va_W) (x : Nat) (w : Nat) (sp : Nat) (sv : Nat) (bu : Nat) (bl : Int32) (le : Int32) (v0 : Option Nat) (v1 : Option Nat) (tt : Int32) (τ0 : Int32) (τ1 : Int32) (cu : Nat) (na : Nat) (pr : Nat) (ch : Nat) (p1 : Int32) (sz : Nat) (hT : ty_V ct S (rp_L w sp sv cu na pr ch v0 v1 tt τ0 τ1) ws) (h_w : S w = some (.inl 9)) (h_sp : S sp = some (.inl 9)) (h_sv : S sv = some (.inr (4, 2))) (h_ch : S ch = some (.inr (3, 6))) (hsd : rp_sd w sp v0 v1) : vx_Met l yX10_saveSnapshot (ws_ yX10_saveSnapshot cX10_saveSnapshot 3 (some .int)) ({ frames := 7, cells := 65, slots := 1109, locals := 167 } : Room) (va_Pc [.ref x, .int p1] (cmP D ct sz ([(ty_XO x w sp sv bu bl le)] ++ ws))) (va_Qi (fun (r : Int32) (u : va_W × ty_S × (Option Nat) × (Option Nat) × Int32 × Int32) => match u with | (u9, S9, v01, v11, ta1, tb1) => ty_V ct S9 (rp_L w sp sv cu na pr ch v01 v11 tt ta1 tb1) u9 ∧ ty_le S S9 ∧ rp_sp p1 tt v0 v1 τ0 τ1 v01 v11 ta1 tb1 ∧ rp_sd w sp v01 v11 ∧ r = tt) (cmB D ([(ty_XO x w sp sv bu bl le)] ++ ws) sz (fun (u : va_W × ty_S × (Option Nat) × (Option Nat) × Int32 × Int32) => match u with | (u9, S9, v01, v11, ta1, tb1) => ([(ty_XO x w sp sv bu bl le)] ++ u9))) (va_A ([(ty_XO x w sp sv bu bl le)] ++ ws) sz)) (vx_X (fun (u9 : va_W) => ty_V ct S (rp_L w sp sv cu na pr ch v0 v1 tt τ0 τ1) u9 ∧ ¬ (p1 = 0 ∨ p1 = 1)) (cmBY D ([(ty_XO x w sp sv bu bl le)] ++ ws) sz ["java/lang/IllegalArgumentException"] (fun (u9 : va_W) => ([(ty_XO x w sp sv bu bl le)] ++ u9))) (va_A ([(ty_XO x w sp sv bu bl le)] ++ ws) sz)) 65 1109 (va_A ([(ty_XO x w sp sv bu bl le)] ++ ws) sz) := by
  refine vx_ofW (cc := cX10_saveSnapshot) (maxL := 3) (ret := (some .int)) (by decide) rfl ?_
  intro p e s m args below meth c s₁ B hml hex hv
  obtain ⟨rfl, hsz, hP, hK, hD0, hX⟩ := hv
  have hx := B.exec
  have hb := B.bytes
  have hr := B.returns
  have hts := ws_all (atoms_spec (ws := ws_ yX10_saveSnapshot cX10_saveSnapshot 3 (some .int)) B.pre)
  have hown : s.vm.findClass RX10 = some m.cls := findClass_of_methodNamed B.named
  have hlocks := B.notSynchronized
  subst hsz
  have hD := hD0.self (sz := s.heap.size)
  generalize hAe : va_A ([(ty_XO x w sp sv bu bl le)] ++ ws) s.heap.size = A at hD hX ⊢
  have hA : ∀ q : Nat, s.heap.size ≤ q → A q := fun q h => by rw [← hAe]; exact Or.inr h
  have hS : va_S A s.heap s.heap [] := va_S.rf
  have hl := lv_entry ([.ref x, .int p1]) (n := 3) (Nat.le_of_ble_eq_true rfl)
  rw [lg_entry_eq]
  generalize (lg_sl ([.ref x, .int p1]) ++ List.replicate (3 - (lg_sl ([.ref x, .int p1])).length) Slot.unset).toArray = ls at hl ⊢
  have hl : lv_has ls 3 [(0, .ref x), (1, .int p1)] := hl
  refine lv_iload_n hx hb dX10_saveSnapshot_0 rfl (lv_at hl 1 rfl) ?_
  refine lv_iconst (v := 0) hx hb dX10_saveSnapshot_1 (by decide) ?_
  refine lv_iconst (v := 1) hx hb dX10_saveSnapshot_2 (by decide) ?_
  refine ty_xv (wr := [(ty_XO x w sp sv bu bl le)]) (wc := ([] ++ ws)) (vx_runS (As := [.int p1, .int 0, .int 1]) (rest := []) ⟨hx, hb, hml, hown, hts⟩ (r_needRange l hfl D ct S ws (rp_L w sp sv cu na pr ch v0 v1 tt τ0 τ1) (rp_xL w sp sv ch v0 v1 tt τ0 τ1) p1 (0 : Int32) (1 : Int32) _ hT rp_SC rp_S1) (cm_S 3 hts kc_X10_needRange ki_RX10 kl_RX10_81 ks_X10_needRange kd_X10_needRange ⟨Nat.le_of_ble_eq_true rfl, Nat.le_of_ble_eq_true rfl⟩) (ty_preS (wr := [(ty_XO x w sp sv bu bl le)]) (wc := ([] ++ ws)) hP hK hD hS hA hX) rfl rfl hl.1 rfl (lv_room (Nat.le_of_ble_eq_true rfl)) dX10_saveSnapshot_3 ⟨Nat.le_of_ble_eq_true rfl, Nat.le_of_ble_eq_true rfl⟩) hP hD hS hA (fun E ce q9 u H locs hu hE hP hD hS hce hcv hcl => ?_) (fun u H locs hw_2 hP hD hS => ?_)
  · obtain ⟨ws_3, rfl⟩ : ∃ z, z = u := ⟨_, rfl⟩
    obtain ⟨hT, hxp⟩ := hu
    have hP : va_P D vwCl ([(ty_XO x w sp sv bu bl le)] ++ ws_3) H := hP
    have hD : va_D A ([(ty_XO x w sp sv bu bl le)] ++ ws_3) := hD
    exact vx_out (fun x hx => (hex x hx).elim) hlocks hce hcv hcl (fun t ht hW => ⟨ws_3, ⟨hT, (rp_n01 hxp)⟩, ⟨hE, by rw [ht]; exact hP, by rw [hAe]; exact hD⟩, hS.F ht⟩) hS.2.2 (Nat.le_of_ble_eq_true rfl) (Nat.le_of_ble_eq_true rfl)
  · obtain ⟨ws_4, rfl⟩ : ∃ z, z = u := ⟨_, rfl⟩
    obtain ⟨hT, hp_5⟩ := hw_2
    have hp_5 : (0 : Int32).toInt ≤ p1.toInt ∧ p1.toInt ≤ (1 : Int32).toInt := hp_5
    have hP : va_P D vwCl ([(ty_XO x w sp sv bu bl le)] ++ ws_4) H := hP
    have hD : va_D A ([(ty_XO x w sp sv bu bl le)] ++ ws_4) := hD
    refine W.widen (k := 1) (n := 6) (Nat.le_of_ble_eq_true rfl) (Nat.le_of_ble_eq_true rfl) ?_
    have hrg := hp_5
    have h01_6 : p1 = 0 ∨ p1 = 1 := rp_01 hrg
    rcases h01_6 with rfl | rfl
    · refine lv_aload_n hx hb dX10_saveSnapshot_6 rfl (lv_at hl 0 rfl) ?_
      refine lv_iload_n hx hb dX10_saveSnapshot_7 rfl (lv_at hl 1 rfl) ?_
      refine ty_kq (wr := []) (wc := ([(ty_XO x w sp sv bu bl le)] ++ ws_4)) (va_runV (As := [.int 0]) (rest := []) ⟨hx, hb, hml, hown, hts⟩ (r_savedAt l D ct S ws_4 (rp_L w sp sv cu na pr ch v0 v1 tt τ0 τ1) (rp_xL w sp sv ch v0 v1 tt τ0 τ1) x w sp sv bu bl le (0 : Int32) v0 v0 v1 _ hT h_w h_sv rp_SC rp_S1 (Or.inl ⟨rfl, rfl⟩) (fun _ h9 => h9.2.2.2.2.2.1)) (cm_V 1 hts kc_X10_savedAt ki_RX10 kl_RX10_347 kv_X10_savedAt kx_X10_savedAt kd_X10_savedAt ⟨Nat.le_of_ble_eq_true rfl, Nat.le_of_ble_eq_true rfl⟩) (ty_preE (wr := []) (wc := ([(ty_XO x w sp sv bu bl le)] ++ ws_4)) (ci := 10) (q0 := 0) hP hK hD hS hA hX rfl rfl) rfl rfl hl.1 rfl (lv_room (Nat.le_of_ble_eq_true rfl)) dX10_saveSnapshot_8 ⟨Nat.le_of_ble_eq_true rfl, Nat.le_of_ble_eq_true rfl⟩) hP hD hS hA (fun r_7 u H locs hw_8 hP hD hS => ?_)
      obtain ⟨ws_9, rfl⟩ : ∃ z, z = u := ⟨_, rfl⟩
      obtain ⟨hT, hq_10, hp_11⟩ := hw_8
      have hp_11 : r_7 = v0 := hp_11
      have hP : va_P D vwCl ([(ty_XO x w sp sv bu bl le)] ++ ws_9) H := hP
      have hD : va_D A ([(ty_XO x w sp sv bu bl le)] ++ ws_9) := hD
      rcases hq_10 with rfl | ⟨a_12, rfl, ha_13⟩
      · refine W.eq (g2 := F0 m 11 ls (.null :: [])) rfl ?_
        refine lv_astore_nN (lv' := [(2, .null), (0, .ref x), (1, .int 0)]) hx hb dX10_saveSnapshot_11 rfl hl (by decide) rfl (fun ls hl => ?_)
        refine lv_aload_nN hx hb dX10_saveSnapshot_12 rfl (lv_at hl 0 rfl) ?_
        refine lv_ifnonnullN hx hb dX10_saveSnapshot_13 ?_
        refine va_new (ci := 9) (fs := [.int 0, .null, .null, .null, .int 0, .null, .null, .null]) (C := RX9) (T := TX9) (N := 8) hx hb hts in_X9 tyX9 tyX9_ok hown (hts _ kl_RX10_7) (hts _ kn_RX9) (hts _ ki_RX9) hK hP hD hS hA rfl fs0_X9 (Nat.le_of_ble_eq_true rfl) (Nat.le_of_ble_eq_true rfl) dX10_saveSnapshot_16 (fun q_14 H hP hD hS => ?_)
        have hP : va_P D vwCl ([(ty_XO x w sp sv bu bl le), (q_14, .inr (9, [.int 0, .null, .null, .null, .int 0, .null, .null, .null]))] ++ ws_9) H := ty_permP hP ty_mvp
        have hD : va_D A ([(ty_XO x w sp sv bu bl le), (q_14, .inr (9, [.int 0, .null, .null, .null, .int 0, .null, .null, .null]))] ++ ws_9) := ty_permD hD ty_mvp
        refine W.widen (k := 2) (n := 14) (Nat.le_of_ble_eq_true rfl) (Nat.le_of_ble_eq_true rfl) ?_
        have hq1 : ¬ w = q_14 := ty_neq (E := [(ty_XO x w sp sv bu bl le), (q_14, .inr (9, [.int 0, .null, .null, .null, .int 0, .null, .null, .null]))]) 1 hD rfl hT.1 h_w
        have hq2 : ¬ sp = q_14 := ty_neq (E := [(ty_XO x w sp sv bu bl le), (q_14, .inr (9, [.int 0, .null, .null, .null, .int 0, .null, .null, .null]))]) 1 hD rfl hT.1 h_sp
        have hq3 : ∀ v9 : Nat, v1 = some v9 → ¬ v9 = q_14 := fun v9 h9 => ty_neq (E := [(ty_XO x w sp sv bu bl le), (q_14, .inr (9, [.int 0, .null, .null, .null, .int 0, .null, .null, .null]))]) 1 hD rfl hT.1 (rp_rwS hD hT.1 h_sv hT.2.2.2.2.2.2.1 (Or.inr h9))
        refine lv_dup hx hb dX10_saveSnapshot_19 rfl ?_
        refine ty_kv (wr := [(ty_XO x w sp sv bu bl le)]) (wc := ([(q_14, .inr (9, [.int 0, .null, .null, .null, .int 0, .null, .null, .null]))] ++ ws_9)) (va_runIN (As := []) (rest := [.ref q_14]) ⟨hx, hb, hml, hown, hts⟩ (t_X9_init l D ct S ws_9 (rp_L w sp sv cu na pr ch v0 v1 tt τ0 τ1) (rp_xL w sp sv ch v0 v1 tt τ0 τ1) q_14 _ hT rp_SC rp_S1 rp_S7) (cm_IN 0 hts kc_X9_init ki_RX9 kl_RX10_9 kv_X9_init rfl kd_X9_init ⟨Nat.le_of_ble_eq_true rfl, Nat.le_of_ble_eq_true rfl⟩) (ty_preS (wr := [(ty_XO x w sp sv bu bl le)]) (wc := ([(q_14, .inr (9, [.int 0, .null, .null, .null, .int 0, .null, .null, .null]))] ++ ws_9)) hP hK hD hS hA hX) rfl rfl hl.1 rfl (lv_room (Nat.le_of_ble_eq_true rfl)) dX10_saveSnapshot_20 ⟨Nat.le_of_ble_eq_true rfl, Nat.le_of_ble_eq_true rfl⟩) hP hD hS hA (fun u H locs hw_16 hP hD hS => ?_)
        obtain ⟨ws_17, S_18, cu_19, na_20, pr_21, ch_22⟩ := u
        obtain ⟨hT, hle_23, hp_24⟩ := hw_16
        have hp_24 : S_18 q_14 = some (.inl 9) ∧ (S_18 cu_19 = some (.inl 2) ∧ S_18 na_20 = some (.inr (1, 4)) ∧ S_18 pr_21 = some (.inl 5) ∧ S_18 ch_22 = some (.inr (3, 6))) ∧ rp_S0 q_14 cu_19 na_20 pr_21 ch_22 ws_17 := hp_24
        have hg_25 := hle_23 _ _ h_w
        have hg_26 := hle_23 _ _ h_sp
        have hg_27 := hle_23 _ _ h_sv
        have hg_28 := hle_23 _ _ h_ch
        have hP : va_P D vwCl ([(ty_XO x w sp sv bu bl le)] ++ ws_17) H := hP
        have hD : va_D A ([(ty_XO x w sp sv bu bl le)] ++ ws_17) := hD
        refine W.widen (k := 65) (n := 1109) (Nat.le_of_ble_eq_true rfl) (Nat.le_of_ble_eq_true rfl) ?_
        refine lv_astore_n (lv' := [(2, .ref q_14), (0, .ref x), (1, .int 0)]) hx hb dX10_saveSnapshot_23 rfl hl (by decide) rfl (fun ls hl => ?_)
        refine lv_aload_n hx hb dX10_saveSnapshot_24 rfl (lv_at hl 1 rfl) ?_
        refine lv_iload_n hx hb dX10_saveSnapshot_25 rfl (lv_at hl 2 rfl) ?_
        refine lv_aload_n hx hb dX10_saveSnapshot_26 rfl (lv_at hl 0 rfl) ?_
        refine ty_kv (wr := []) (wc := ([(ty_XO x w sp sv bu bl le)] ++ ws_17)) (va_runV (As := [.int 0, .ref q_14]) (rest := []) ⟨hx, hb, hml, hown, hts⟩ (r_keepAt l D ct S_18 ws_17 x w sp sv bu bl le (0 : Int32) q_14 v0 v1 (some q_14) v1 (some w) v0 v1 tt τ0 τ1 cu na pr ch _ hT hg_25 hp_24.1 hg_27 hg_28 (Or.inl ⟨rfl, rfl, rfl⟩)) (cm_V 2 hts kc_X10_keepAt ki_RX10 kl_RX10_351 kv_X10_keepAt kx_X10_keepAt kd_X10_keepAt ⟨Nat.le_of_ble_eq_true rfl, Nat.le_of_ble_eq_true rfl⟩) (ty_preE (wr := []) (wc := ([(ty_XO x w sp sv bu bl le)] ++ ws_17)) (ci := 10) (q0 := 0) hP hK hD hS hA hX rfl rfl) rfl rfl hl.1 rfl (lv_room (Nat.le_of_ble_eq_true rfl)) dX10_saveSnapshot_27 ⟨Nat.le_of_ble_eq_true rfl, Nat.le_of_ble_eq_true rfl⟩) hP hD hS hA (fun u H locs hw_30 hP hD hS => ?_)
        obtain ⟨ws_31, rfl⟩ : ∃ z, z = u := ⟨_, rfl⟩
        have hT := hw_30
        have hP : va_P D vwCl ([(ty_XO x w sp sv bu bl le)] ++ ws_31) H := hP
        have hD : va_D A ([(ty_XO x w sp sv bu bl le)] ++ ws_31) := hD
        obtain ⟨n_32, hn_33⟩ := rp_fcx hT.1 hg_25
        have hsd2 : rp_sd w sp (some q_14) v1 := rp_sd0 hsd hq1 hq2 hq3
        have hT : ty_V ct S_18 (rp_W2 (rp_P3 sp sv (some q_14) v1 (some w) none v1 tt τ0 τ1) w tt n_32 cu na pr ch) ws_31 := ⟨hT.1, ⟨⟨rp_Sm hT.2 (fun z => ⟨z.1, z.2.1, (fun v9 q9 => by cases q9), z.2.2.2⟩), hT.2.2.2.2.2.2.2.1 w rfl⟩, hn_33⟩⟩
        refine lv_aload_n hx hb dX10_saveSnapshot_30 rfl (lv_at hl 0 rfl) ?_
        refine lv_aload_n hx hb dX10_saveSnapshot_31 rfl (lv_at hl 1 rfl) ?_
        refine va_get (v := .ref w) (D := D) (ci := 10) (C := RX10) (T := TX10) (N := 6) hx hb hts in_X10 hown hK hP 0 rfl rfl 0 (by decide) (hts _ kl_RX10_10) (fun _ h9 => h9) rfl dX10_saveSnapshot_32 ?_
        refine ty_kv (wr := [(ty_XO x w sp sv bu bl le)]) (wc := ([] ++ ws_31)) (va_runVN (As := [.ref w]) (rest := []) ⟨hx, hb, hml, hown, hts⟩ (r_copyFrom l D ct S_18 ws_31 (rp_W2 (rp_P3 sp sv (some q_14) v1 (some w) none v1 tt τ0 τ1) w tt n_32 cu na pr ch) (rp_xW2 (rp_P3 sp sv (some q_14) v1 (some w) none v1 tt τ0 τ1) w ch) q_14 w tt n_32 _ hT hp_24.1 hg_25 rp_W2C rp_W21 (rp_W20 2 (Or.inl rfl)) (rp_W20 5 (Or.inr (Or.inl rfl))) rp_W27 (rp_W20 11 (Or.inr (Or.inr rfl))) (rp_W2h (rp_Pv0 hsd2 rfl) rp_P34 (hsd2.2.1 _ rfl).1) (fun _ h9 => ⟨h9.1.2, h9.2⟩)) (cm_VN 1 hts kc_X9_copyFrom ki_RX9 kl_RX10_60 kv_X9_copyFrom kx_X9_copyFrom kd_X9_copyFrom ⟨Nat.le_of_ble_eq_true rfl, Nat.le_of_ble_eq_true rfl⟩) (ty_preV (wr := [(ty_XO x w sp sv bu bl le)]) (E := []) (ws := ws_31) (ci := 9) hP hK hD hS hA hX hT rfl hp_24.1) rfl rfl hl.1 rfl (lv_room (Nat.le_of_ble_eq_true rfl)) dX10_saveSnapshot_35 ⟨Nat.le_of_ble_eq_true rfl, Nat.le_of_ble_eq_true rfl⟩) hP hD hS hA (fun u H locs hw_35 hP hD hS => ?_)
        obtain ⟨ws_36, rfl⟩ : ∃ z, z = u := ⟨_, rfl⟩
        have hT := hw_35
        have hP : va_P D vwCl ([(ty_XO x w sp sv bu bl le)] ++ ws_36) H := hP
        have hD : va_D A ([(ty_XO x w sp sv bu bl le)] ++ ws_36) := hD
        have hT : ty_V ct S_18 (rp_L w sp sv cu na pr ch (some q_14) v1 tt tt τ1) ws_36 := ⟨hT.1, rp_Sm hT.2.1.1.1.1 (fun z => ⟨z.1, z.2.1, (fun v9 q9 => by rw [← Option.some.inj q9]; exact hT.2.1.2), z.2.2.2⟩)⟩
        refine lv_aload_n hx hb dX10_saveSnapshot_38 rfl (lv_at hl 1 rfl) ?_
        refine va_get (v := .ref w) (D := D) (ci := 10) (C := RX10) (T := TX10) (N := 6) hx hb hts in_X10 hown hK hP 0 rfl rfl 0 (by decide) (hts _ kl_RX10_10) (fun _ h9 => h9) rfl dX10_saveSnapshot_39 ?_
        refine ty_getDN (v := .int tt) (E := [(ty_XO x w sp sv bu bl le)]) (ws := ws_36) (D := D) (ci := 9) (C := RX9) (T := TX9) (N := 8) hx hb hts in_X9 hown hK hP hD hT hg_25 rfl 0 (by decide) (hts _ kl_RX10_164) (fun _ h9 => h9) (ty_fcd (rp_Lw hT.2)) dX10_saveSnapshot_42 ?_
        refine vx_ret ?_
        exact W.iret (v := tt) hx hb hr (fun t ht hW => ⟨⟨tt, (ws_36, S_18, (some q_14), v1, tt, τ1), rfl, ⟨hT, (fun a9 k9 h9 => hle_23 _ _ ((fun _ _ h9 => h9) a9 k9 h9)), ⟨Or.inl ⟨rfl, ⟨_, rfl⟩, rfl, rfl, rfl⟩, hsd2, rfl⟩⟩, by rw [ht]; exact hP, by rw [hAe]; exact hD⟩, hS.F ht⟩) hS.2.2 dX10_saveSnapshot_45
      · refine W.eq (g2 := F0 m 11 ls (.ref a_12 :: [])) rfl ?_
        refine lv_astore_n (lv' := [(2, .ref a_12), (0, .ref x), (1, .int 0)]) hx hb dX10_saveSnapshot_11 rfl hl (by decide) rfl (fun ls hl => ?_)
        refine lv_aload_n hx hb dX10_saveSnapshot_12 rfl (lv_at hl 0 rfl) ?_
        refine lv_ifnonnull (tgt := 30) hx hb dX10_saveSnapshot_13 (by decide) ?_
        obtain ⟨n_37, hn_38⟩ := rp_fcx hT.1 h_w
        have hsd2 : rp_sd w sp v0 v1 := hsd
        have hT : ty_V ct S (rp_W2 (rp_P3 sp sv v0 v1 (some w) none v1 tt τ0 τ1) w tt n_37 cu na pr ch) ws_9 := ⟨hT.1, ⟨⟨rp_Sm hT.2 (fun z => ⟨z.1, z.2.1, (fun v9 q9 => by cases q9), z.2.2.2⟩), hT.2.2.2.2.2.2.2.1 w rfl⟩, hn_38⟩⟩
        refine lv_aload_n hx hb dX10_saveSnapshot_30 rfl (lv_at hl 0 rfl) ?_
        refine lv_aload_n hx hb dX10_saveSnapshot_31 rfl (lv_at hl 1 rfl) ?_
        refine va_get (v := .ref w) (D := D) (ci := 10) (C := RX10) (T := TX10) (N := 6) hx hb hts in_X10 hown hK hP 0 rfl rfl 0 (by decide) (hts _ kl_RX10_10) (fun _ h9 => h9) rfl dX10_saveSnapshot_32 ?_
        refine ty_kv (wr := [(ty_XO x w sp sv bu bl le)]) (wc := ([] ++ ws_9)) (va_runVN (As := [.ref w]) (rest := []) ⟨hx, hb, hml, hown, hts⟩ (r_copyFrom l D ct S ws_9 (rp_W2 (rp_P3 sp sv v0 v1 (some w) none v1 tt τ0 τ1) w tt n_37 cu na pr ch) (rp_xW2 (rp_P3 sp sv v0 v1 (some w) none v1 tt τ0 τ1) w ch) a_12 w tt n_37 _ hT ha_13 h_w rp_W2C rp_W21 (rp_W20 2 (Or.inl rfl)) (rp_W20 5 (Or.inr (Or.inl rfl))) rp_W27 (rp_W20 11 (Or.inr (Or.inr rfl))) (rp_W2h (rp_Pv0 hsd2 hp_11.symm) rp_P34 (hsd2.2.1 _ hp_11.symm).1) (fun _ h9 => ⟨h9.1.2, h9.2⟩)) (cm_VN 1 hts kc_X9_copyFrom ki_RX9 kl_RX10_60 kv_X9_copyFrom kx_X9_copyFrom kd_X9_copyFrom ⟨Nat.le_of_ble_eq_true rfl, Nat.le_of_ble_eq_true rfl⟩) (ty_preV (wr := [(ty_XO x w sp sv bu bl le)]) (E := []) (ws := ws_9) (ci := 9) hP hK hD hS hA hX hT rfl ha_13) rfl rfl hl.1 rfl (lv_room (Nat.le_of_ble_eq_true rfl)) dX10_saveSnapshot_35 ⟨Nat.le_of_ble_eq_true rfl, Nat.le_of_ble_eq_true rfl⟩) hP hD hS hA (fun u H locs hw_40 hP hD hS => ?_)
        obtain ⟨ws_41, rfl⟩ : ∃ z, z = u := ⟨_, rfl⟩
        have hT := hw_40
        have hP : va_P D vwCl ([(ty_XO x w sp sv bu bl le)] ++ ws_41) H := hP
        have hD : va_D A ([(ty_XO x w sp sv bu bl le)] ++ ws_41) := hD
        have hT : ty_V ct S (rp_L w sp sv cu na pr ch v0 v1 tt tt τ1) ws_41 := ⟨hT.1, rp_Sm hT.2.1.1.1.1 (fun z => ⟨z.1, z.2.1, (fun v9 q9 => by rw [← Option.some.inj (hp_11.symm.symm.trans q9)]; exact hT.2.1.2), z.2.2.2⟩)⟩
        refine lv_aload_n hx hb dX10_saveSnapshot_38 rfl (lv_at hl 1 rfl) ?_
        refine va_get (v := .ref w) (D := D) (ci := 10) (C := RX10) (T := TX10) (N := 6) hx hb hts in_X10 hown hK hP 0 rfl rfl 0 (by decide) (hts _ kl_RX10_10) (fun _ h9 => h9) rfl dX10_saveSnapshot_39 ?_
        refine ty_getDN (v := .int tt) (E := [(ty_XO x w sp sv bu bl le)]) (ws := ws_41) (D := D) (ci := 9) (C := RX9) (T := TX9) (N := 8) hx hb hts in_X9 hown hK hP hD hT h_w rfl 0 (by decide) (hts _ kl_RX10_164) (fun _ h9 => h9) (ty_fcd (rp_Lw hT.2)) dX10_saveSnapshot_42 ?_
        refine W.widen (k := 65) (n := 1109) (Nat.le_of_ble_eq_true rfl) (Nat.le_of_ble_eq_true rfl) ?_
        refine vx_ret ?_
        exact W.iret (v := tt) hx hb hr (fun t ht hW => ⟨⟨tt, (ws_41, S, v0, v1, tt, τ1), rfl, ⟨hT, (fun _ _ h9 => h9), ⟨Or.inl ⟨rfl, ⟨_, hp_11.symm⟩, rfl, rfl, rfl⟩, hsd2, rfl⟩⟩, by rw [ht]; exact hP, by rw [hAe]; exact hD⟩, hS.F ht⟩) hS.2.2 dX10_saveSnapshot_45
    · refine lv_aload_n hx hb dX10_saveSnapshot_6 rfl (lv_at hl 0 rfl) ?_
      refine lv_iload_n hx hb dX10_saveSnapshot_7 rfl (lv_at hl 1 rfl) ?_
      refine ty_kq (wr := []) (wc := ([(ty_XO x w sp sv bu bl le)] ++ ws_4)) (va_runV (As := [.int 1]) (rest := []) ⟨hx, hb, hml, hown, hts⟩ (r_savedAt l D ct S ws_4 (rp_L w sp sv cu na pr ch v0 v1 tt τ0 τ1) (rp_xL w sp sv ch v0 v1 tt τ0 τ1) x w sp sv bu bl le (1 : Int32) v1 v0 v1 _ hT h_w h_sv rp_SC rp_S1 (Or.inr ⟨rfl, rfl⟩) (fun _ h9 => h9.2.2.2.2.2.1)) (cm_V 1 hts kc_X10_savedAt ki_RX10 kl_RX10_347 kv_X10_savedAt kx_X10_savedAt kd_X10_savedAt ⟨Nat.le_of_ble_eq_true rfl, Nat.le_of_ble_eq_true rfl⟩) (ty_preE (wr := []) (wc := ([(ty_XO x w sp sv bu bl le)] ++ ws_4)) (ci := 10) (q0 := 0) hP hK hD hS hA hX rfl rfl) rfl rfl hl.1 rfl (lv_room (Nat.le_of_ble_eq_true rfl)) dX10_saveSnapshot_8 ⟨Nat.le_of_ble_eq_true rfl, Nat.le_of_ble_eq_true rfl⟩) hP hD hS hA (fun r_42 u H locs hw_43 hP hD hS => ?_)
      obtain ⟨ws_44, rfl⟩ : ∃ z, z = u := ⟨_, rfl⟩
      obtain ⟨hT, hq_45, hp_46⟩ := hw_43
      have hp_46 : r_42 = v1 := hp_46
      have hP : va_P D vwCl ([(ty_XO x w sp sv bu bl le)] ++ ws_44) H := hP
      have hD : va_D A ([(ty_XO x w sp sv bu bl le)] ++ ws_44) := hD
      rcases hq_45 with rfl | ⟨a_47, rfl, ha_48⟩
      · refine W.eq (g2 := F0 m 11 ls (.null :: [])) rfl ?_
        refine lv_astore_nN (lv' := [(2, .null), (0, .ref x), (1, .int 1)]) hx hb dX10_saveSnapshot_11 rfl hl (by decide) rfl (fun ls hl => ?_)
        refine lv_aload_nN hx hb dX10_saveSnapshot_12 rfl (lv_at hl 0 rfl) ?_
        refine lv_ifnonnullN hx hb dX10_saveSnapshot_13 ?_
        refine va_new (ci := 9) (fs := [.int 0, .null, .null, .null, .int 0, .null, .null, .null]) (C := RX9) (T := TX9) (N := 8) hx hb hts in_X9 tyX9 tyX9_ok hown (hts _ kl_RX10_7) (hts _ kn_RX9) (hts _ ki_RX9) hK hP hD hS hA rfl fs0_X9 (Nat.le_of_ble_eq_true rfl) (Nat.le_of_ble_eq_true rfl) dX10_saveSnapshot_16 (fun q_49 H hP hD hS => ?_)
        have hP : va_P D vwCl ([(ty_XO x w sp sv bu bl le), (q_49, .inr (9, [.int 0, .null, .null, .null, .int 0, .null, .null, .null]))] ++ ws_44) H := ty_permP hP ty_mvp
        have hD : va_D A ([(ty_XO x w sp sv bu bl le), (q_49, .inr (9, [.int 0, .null, .null, .null, .int 0, .null, .null, .null]))] ++ ws_44) := ty_permD hD ty_mvp
        refine W.widen (k := 2) (n := 14) (Nat.le_of_ble_eq_true rfl) (Nat.le_of_ble_eq_true rfl) ?_
        have hq1 : ¬ w = q_49 := ty_neq (E := [(ty_XO x w sp sv bu bl le), (q_49, .inr (9, [.int 0, .null, .null, .null, .int 0, .null, .null, .null]))]) 1 hD rfl hT.1 h_w
        have hq2 : ¬ sp = q_49 := ty_neq (E := [(ty_XO x w sp sv bu bl le), (q_49, .inr (9, [.int 0, .null, .null, .null, .int 0, .null, .null, .null]))]) 1 hD rfl hT.1 h_sp
        have hq3 : ∀ v9 : Nat, v0 = some v9 → ¬ v9 = q_49 := fun v9 h9 => ty_neq (E := [(ty_XO x w sp sv bu bl le), (q_49, .inr (9, [.int 0, .null, .null, .null, .int 0, .null, .null, .null]))]) 1 hD rfl hT.1 (rp_rwS hD hT.1 h_sv hT.2.2.2.2.2.2.1 (Or.inl h9))
        refine lv_dup hx hb dX10_saveSnapshot_19 rfl ?_
        refine ty_kv (wr := [(ty_XO x w sp sv bu bl le)]) (wc := ([(q_49, .inr (9, [.int 0, .null, .null, .null, .int 0, .null, .null, .null]))] ++ ws_44)) (va_runIN (As := []) (rest := [.ref q_49]) ⟨hx, hb, hml, hown, hts⟩ (t_X9_init l D ct S ws_44 (rp_L w sp sv cu na pr ch v0 v1 tt τ0 τ1) (rp_xL w sp sv ch v0 v1 tt τ0 τ1) q_49 _ hT rp_SC rp_S1 rp_S7) (cm_IN 0 hts kc_X9_init ki_RX9 kl_RX10_9 kv_X9_init rfl kd_X9_init ⟨Nat.le_of_ble_eq_true rfl, Nat.le_of_ble_eq_true rfl⟩) (ty_preS (wr := [(ty_XO x w sp sv bu bl le)]) (wc := ([(q_49, .inr (9, [.int 0, .null, .null, .null, .int 0, .null, .null, .null]))] ++ ws_44)) hP hK hD hS hA hX) rfl rfl hl.1 rfl (lv_room (Nat.le_of_ble_eq_true rfl)) dX10_saveSnapshot_20 ⟨Nat.le_of_ble_eq_true rfl, Nat.le_of_ble_eq_true rfl⟩) hP hD hS hA (fun u H locs hw_51 hP hD hS => ?_)
        obtain ⟨ws_52, S_53, cu_54, na_55, pr_56, ch_57⟩ := u
        obtain ⟨hT, hle_58, hp_59⟩ := hw_51
        have hp_59 : S_53 q_49 = some (.inl 9) ∧ (S_53 cu_54 = some (.inl 2) ∧ S_53 na_55 = some (.inr (1, 4)) ∧ S_53 pr_56 = some (.inl 5) ∧ S_53 ch_57 = some (.inr (3, 6))) ∧ rp_S0 q_49 cu_54 na_55 pr_56 ch_57 ws_52 := hp_59
        have hg_60 := hle_58 _ _ h_w
        have hg_61 := hle_58 _ _ h_sp
        have hg_62 := hle_58 _ _ h_sv
        have hg_63 := hle_58 _ _ h_ch
        have hP : va_P D vwCl ([(ty_XO x w sp sv bu bl le)] ++ ws_52) H := hP
        have hD : va_D A ([(ty_XO x w sp sv bu bl le)] ++ ws_52) := hD
        refine W.widen (k := 65) (n := 1109) (Nat.le_of_ble_eq_true rfl) (Nat.le_of_ble_eq_true rfl) ?_
        refine lv_astore_n (lv' := [(2, .ref q_49), (0, .ref x), (1, .int 1)]) hx hb dX10_saveSnapshot_23 rfl hl (by decide) rfl (fun ls hl => ?_)
        refine lv_aload_n hx hb dX10_saveSnapshot_24 rfl (lv_at hl 1 rfl) ?_
        refine lv_iload_n hx hb dX10_saveSnapshot_25 rfl (lv_at hl 2 rfl) ?_
        refine lv_aload_n hx hb dX10_saveSnapshot_26 rfl (lv_at hl 0 rfl) ?_
        refine ty_kv (wr := []) (wc := ([(ty_XO x w sp sv bu bl le)] ++ ws_52)) (va_runV (As := [.int 1, .ref q_49]) (rest := []) ⟨hx, hb, hml, hown, hts⟩ (r_keepAt l D ct S_53 ws_52 x w sp sv bu bl le (1 : Int32) q_49 v0 v1 v0 (some q_49) (some w) v0 v1 tt τ0 τ1 cu na pr ch _ hT hg_60 hp_59.1 hg_62 hg_63 (Or.inr ⟨rfl, rfl, rfl⟩)) (cm_V 2 hts kc_X10_keepAt ki_RX10 kl_RX10_351 kv_X10_keepAt kx_X10_keepAt kd_X10_keepAt ⟨Nat.le_of_ble_eq_true rfl, Nat.le_of_ble_eq_true rfl⟩) (ty_preE (wr := []) (wc := ([(ty_XO x w sp sv bu bl le)] ++ ws_52)) (ci := 10) (q0 := 0) hP hK hD hS hA hX rfl rfl) rfl rfl hl.1 rfl (lv_room (Nat.le_of_ble_eq_true rfl)) dX10_saveSnapshot_27 ⟨Nat.le_of_ble_eq_true rfl, Nat.le_of_ble_eq_true rfl⟩) hP hD hS hA (fun u H locs hw_65 hP hD hS => ?_)
        obtain ⟨ws_66, rfl⟩ : ∃ z, z = u := ⟨_, rfl⟩
        have hT := hw_65
        have hP : va_P D vwCl ([(ty_XO x w sp sv bu bl le)] ++ ws_66) H := hP
        have hD : va_D A ([(ty_XO x w sp sv bu bl le)] ++ ws_66) := hD
        obtain ⟨n_67, hn_68⟩ := rp_fcx hT.1 hg_60
        have hsd2 : rp_sd w sp v0 (some q_49) := rp_sd1 hsd hq1 hq2 hq3
        have hT : ty_V ct S_53 (rp_W2 (rp_P3 sp sv v0 (some q_49) (some w) v0 none tt τ0 τ1) w tt n_67 cu na pr ch) ws_66 := ⟨hT.1, ⟨⟨rp_Sm hT.2 (fun z => ⟨z.1, z.2.1, z.2.2.1, (fun v9 q9 => by cases q9)⟩), hT.2.2.2.2.2.2.2.1 w rfl⟩, hn_68⟩⟩
        refine lv_aload_n hx hb dX10_saveSnapshot_30 rfl (lv_at hl 0 rfl) ?_
        refine lv_aload_n hx hb dX10_saveSnapshot_31 rfl (lv_at hl 1 rfl) ?_
        refine va_get (v := .ref w) (D := D) (ci := 10) (C := RX10) (T := TX10) (N := 6) hx hb hts in_X10 hown hK hP 0 rfl rfl 0 (by decide) (hts _ kl_RX10_10) (fun _ h9 => h9) rfl dX10_saveSnapshot_32 ?_
        refine ty_kv (wr := [(ty_XO x w sp sv bu bl le)]) (wc := ([] ++ ws_66)) (va_runVN (As := [.ref w]) (rest := []) ⟨hx, hb, hml, hown, hts⟩ (r_copyFrom l D ct S_53 ws_66 (rp_W2 (rp_P3 sp sv v0 (some q_49) (some w) v0 none tt τ0 τ1) w tt n_67 cu na pr ch) (rp_xW2 (rp_P3 sp sv v0 (some q_49) (some w) v0 none tt τ0 τ1) w ch) q_49 w tt n_67 _ hT hp_59.1 hg_60 rp_W2C rp_W21 (rp_W20 2 (Or.inl rfl)) (rp_W20 5 (Or.inr (Or.inl rfl))) rp_W27 (rp_W20 11 (Or.inr (Or.inr rfl))) (rp_W2h (rp_Pv1 hsd2 rfl) rp_P34 (hsd2.2.2.1 _ rfl).1) (fun _ h9 => ⟨h9.1.2, h9.2⟩)) (cm_VN 1 hts kc_X9_copyFrom ki_RX9 kl_RX10_60 kv_X9_copyFrom kx_X9_copyFrom kd_X9_copyFrom ⟨Nat.le_of_ble_eq_true rfl, Nat.le_of_ble_eq_true rfl⟩) (ty_preV (wr := [(ty_XO x w sp sv bu bl le)]) (E := []) (ws := ws_66) (ci := 9) hP hK hD hS hA hX hT rfl hp_59.1) rfl rfl hl.1 rfl (lv_room (Nat.le_of_ble_eq_true rfl)) dX10_saveSnapshot_35 ⟨Nat.le_of_ble_eq_true rfl, Nat.le_of_ble_eq_true rfl⟩) hP hD hS hA (fun u H locs hw_70 hP hD hS => ?_)
        obtain ⟨ws_71, rfl⟩ : ∃ z, z = u := ⟨_, rfl⟩
        have hT := hw_70
        have hP : va_P D vwCl ([(ty_XO x w sp sv bu bl le)] ++ ws_71) H := hP
        have hD : va_D A ([(ty_XO x w sp sv bu bl le)] ++ ws_71) := hD
        have hT : ty_V ct S_53 (rp_L w sp sv cu na pr ch v0 (some q_49) tt τ0 tt) ws_71 := ⟨hT.1, rp_Sm hT.2.1.1.1.1 (fun z => ⟨z.1, z.2.1, z.2.2.1, (fun v9 q9 => by rw [← Option.some.inj q9]; exact hT.2.1.2)⟩)⟩
        refine lv_aload_n hx hb dX10_saveSnapshot_38 rfl (lv_at hl 1 rfl) ?_
        refine va_get (v := .ref w) (D := D) (ci := 10) (C := RX10) (T := TX10) (N := 6) hx hb hts in_X10 hown hK hP 0 rfl rfl 0 (by decide) (hts _ kl_RX10_10) (fun _ h9 => h9) rfl dX10_saveSnapshot_39 ?_
        refine ty_getDN (v := .int tt) (E := [(ty_XO x w sp sv bu bl le)]) (ws := ws_71) (D := D) (ci := 9) (C := RX9) (T := TX9) (N := 8) hx hb hts in_X9 hown hK hP hD hT hg_60 rfl 0 (by decide) (hts _ kl_RX10_164) (fun _ h9 => h9) (ty_fcd (rp_Lw hT.2)) dX10_saveSnapshot_42 ?_
        refine vx_ret ?_
        exact W.iret (v := tt) hx hb hr (fun t ht hW => ⟨⟨tt, (ws_71, S_53, v0, (some q_49), τ0, tt), rfl, ⟨hT, (fun a9 k9 h9 => hle_58 _ _ ((fun _ _ h9 => h9) a9 k9 h9)), ⟨Or.inr ⟨rfl, rfl, ⟨_, rfl⟩, rfl, rfl⟩, hsd2, rfl⟩⟩, by rw [ht]; exact hP, by rw [hAe]; exact hD⟩, hS.F ht⟩) hS.2.2 dX10_saveSnapshot_45
      · refine W.eq (g2 := F0 m 11 ls (.ref a_47 :: [])) rfl ?_
        refine lv_astore_n (lv' := [(2, .ref a_47), (0, .ref x), (1, .int 1)]) hx hb dX10_saveSnapshot_11 rfl hl (by decide) rfl (fun ls hl => ?_)
        refine lv_aload_n hx hb dX10_saveSnapshot_12 rfl (lv_at hl 0 rfl) ?_
        refine lv_ifnonnull (tgt := 30) hx hb dX10_saveSnapshot_13 (by decide) ?_
        obtain ⟨n_72, hn_73⟩ := rp_fcx hT.1 h_w
        have hsd2 : rp_sd w sp v0 v1 := hsd
        have hT : ty_V ct S (rp_W2 (rp_P3 sp sv v0 v1 (some w) v0 none tt τ0 τ1) w tt n_72 cu na pr ch) ws_44 := ⟨hT.1, ⟨⟨rp_Sm hT.2 (fun z => ⟨z.1, z.2.1, z.2.2.1, (fun v9 q9 => by cases q9)⟩), hT.2.2.2.2.2.2.2.1 w rfl⟩, hn_73⟩⟩
        refine lv_aload_n hx hb dX10_saveSnapshot_30 rfl (lv_at hl 0 rfl) ?_
        refine lv_aload_n hx hb dX10_saveSnapshot_31 rfl (lv_at hl 1 rfl) ?_
        refine va_get (v := .ref w) (D := D) (ci := 10) (C := RX10) (T := TX10) (N := 6) hx hb hts in_X10 hown hK hP 0 rfl rfl 0 (by decide) (hts _ kl_RX10_10) (fun _ h9 => h9) rfl dX10_saveSnapshot_32 ?_
        refine ty_kv (wr := [(ty_XO x w sp sv bu bl le)]) (wc := ([] ++ ws_44)) (va_runVN (As := [.ref w]) (rest := []) ⟨hx, hb, hml, hown, hts⟩ (r_copyFrom l D ct S ws_44 (rp_W2 (rp_P3 sp sv v0 v1 (some w) v0 none tt τ0 τ1) w tt n_72 cu na pr ch) (rp_xW2 (rp_P3 sp sv v0 v1 (some w) v0 none tt τ0 τ1) w ch) a_47 w tt n_72 _ hT ha_48 h_w rp_W2C rp_W21 (rp_W20 2 (Or.inl rfl)) (rp_W20 5 (Or.inr (Or.inl rfl))) rp_W27 (rp_W20 11 (Or.inr (Or.inr rfl))) (rp_W2h (rp_Pv1 hsd2 hp_46.symm) rp_P34 (hsd2.2.2.1 _ hp_46.symm).1) (fun _ h9 => ⟨h9.1.2, h9.2⟩)) (cm_VN 1 hts kc_X9_copyFrom ki_RX9 kl_RX10_60 kv_X9_copyFrom kx_X9_copyFrom kd_X9_copyFrom ⟨Nat.le_of_ble_eq_true rfl, Nat.le_of_ble_eq_true rfl⟩) (ty_preV (wr := [(ty_XO x w sp sv bu bl le)]) (E := []) (ws := ws_44) (ci := 9) hP hK hD hS hA hX hT rfl ha_48) rfl rfl hl.1 rfl (lv_room (Nat.le_of_ble_eq_true rfl)) dX10_saveSnapshot_35 ⟨Nat.le_of_ble_eq_true rfl, Nat.le_of_ble_eq_true rfl⟩) hP hD hS hA (fun u H locs hw_75 hP hD hS => ?_)
        obtain ⟨ws_76, rfl⟩ : ∃ z, z = u := ⟨_, rfl⟩
        have hT := hw_75
        have hP : va_P D vwCl ([(ty_XO x w sp sv bu bl le)] ++ ws_76) H := hP
        have hD : va_D A ([(ty_XO x w sp sv bu bl le)] ++ ws_76) := hD
        have hT : ty_V ct S (rp_L w sp sv cu na pr ch v0 v1 tt τ0 tt) ws_76 := ⟨hT.1, rp_Sm hT.2.1.1.1.1 (fun z => ⟨z.1, z.2.1, z.2.2.1, (fun v9 q9 => by rw [← Option.some.inj (hp_46.symm.symm.trans q9)]; exact hT.2.1.2)⟩)⟩
        refine lv_aload_n hx hb dX10_saveSnapshot_38 rfl (lv_at hl 1 rfl) ?_
        refine va_get (v := .ref w) (D := D) (ci := 10) (C := RX10) (T := TX10) (N := 6) hx hb hts in_X10 hown hK hP 0 rfl rfl 0 (by decide) (hts _ kl_RX10_10) (fun _ h9 => h9) rfl dX10_saveSnapshot_39 ?_
        refine ty_getDN (v := .int tt) (E := [(ty_XO x w sp sv bu bl le)]) (ws := ws_76) (D := D) (ci := 9) (C := RX9) (T := TX9) (N := 8) hx hb hts in_X9 hown hK hP hD hT h_w rfl 0 (by decide) (hts _ kl_RX10_164) (fun _ h9 => h9) (ty_fcd (rp_Lw hT.2)) dX10_saveSnapshot_42 ?_
        refine W.widen (k := 65) (n := 1109) (Nat.le_of_ble_eq_true rfl) (Nat.le_of_ble_eq_true rfl) ?_
        refine vx_ret ?_
        exact W.iret (v := tt) hx hb hr (fun t ht hW => ⟨⟨tt, (ws_76, S, v0, v1, τ0, tt), rfl, ⟨hT, (fun _ _ h9 => h9), ⟨Or.inr ⟨rfl, rfl, ⟨_, hp_46.symm⟩, rfl, rfl⟩, hsd2, rfl⟩⟩, by rw [ht]; exact hP, by rw [hAe]; exact hD⟩, hS.F ht⟩) hS.2.2 dX10_saveSnapshot_45
theorem dX10_load_0 : decode cX10_load 0 = .ok (.aload_n 0, 1) := by decide +kernel
theorem dX10_load_1 : decode cX10_load 1 = .ok (.getfield 16, 3) := by decide +kernel
theorem dX10_load_4 : decode cX10_load 4 = .ok (.invokevirtual 40, 3) := by decide +kernel
theorem dX10_load_7 : decode cX10_load 7 = .ok (.new 43, 3) := by decide +kernel
theorem dX10_load_10 : decode cX10_load 10 = .ok (.dup, 1) := by decide +kernel
theorem dX10_load_11 : decode cX10_load 11 = .ok (.aload_n 0, 1) := by decide +kernel
theorem dX10_load_12 : decode cX10_load 12 = .ok (.getfield 23, 3) := by decide +kernel
theorem dX10_load_15 : decode cX10_load 15 = .ok (.aload_n 0, 1) := by decide +kernel
theorem dX10_load_16 : decode cX10_load 16 = .ok (.getfield 27, 3) := by decide +kernel
theorem dX10_load_19 : decode cX10_load 19 = .ok (.aload_n 0, 1) := by decide +kernel
theorem dX10_load_20 : decode cX10_load 20 = .ok (.getfield 16, 3) := by decide +kernel
theorem dX10_load_23 : decode cX10_load 23 = .ok (.invokespecial 45, 3) := by decide +kernel
theorem dX10_load_26 : decode cX10_load 26 = .ok (.astore_n 1, 1) := by decide +kernel
theorem dX10_load_27 : decode cX10_load 27 = .ok (.aload_n 0, 1) := by decide +kernel
theorem dX10_load_28 : decode cX10_load 28 = .ok (.iconst 0, 1) := by decide +kernel
theorem dX10_load_29 : decode cX10_load 29 = .ok (.putfield 27, 3) := by decide +kernel
theorem dX10_load_32 : decode cX10_load 32 = .ok (.aload_n 1, 1) := by decide +kernel
theorem dX10_load_33 : decode cX10_load 33 = .ok (.invokevirtual 48, 3) := by decide +kernel
theorem dX10_load_36 : decode cX10_load 36 = .ok (.aload_n 0, 1) := by decide +kernel
theorem dX10_load_37 : decode cX10_load 37 = .ok (.aload_n 1, 1) := by decide +kernel
theorem dX10_load_38 : decode cX10_load 38 = .ok (.getfield 51, 3) := by decide +kernel
theorem dX10_load_41 : decode cX10_load 41 = .ok (.putfield 31, 3) := by decide +kernel
theorem dX10_load_44 : decode cX10_load 44 = .ok (.aload_n 1, 1) := by decide +kernel
theorem dX10_load_45 : decode cX10_load 45 = .ok (.getfield 51, 3) := by decide +kernel
theorem dX10_load_48 : decode cX10_load 48 = .ok (.ifCond .eq 11, 3) := by decide +kernel
theorem dX10_load_51 : decode cX10_load 51 = .ok (.bipush (-100), 2) := by decide +kernel
theorem dX10_load_53 : decode cX10_load 53 = .ok (.aload_n 1, 1) := by decide +kernel
theorem dX10_load_54 : decode cX10_load 54 = .ok (.getfield 54, 3) := by decide +kernel
theorem dX10_load_57 : decode cX10_load 57 = .ok (.isub, 1) := by decide +kernel
theorem dX10_load_58 : decode cX10_load 58 = .ok (.ireturn, 1) := by decide +kernel
theorem dX10_load_59 : decode cX10_load 59 = .ok (.aload_n 0, 1) := by decide +kernel
theorem dX10_load_60 : decode cX10_load 60 = .ok (.getfield 16, 3) := by decide +kernel
theorem dX10_load_63 : decode cX10_load 63 = .ok (.invokevirtual 57, 3) := by decide +kernel
theorem dX10_load_66 : decode cX10_load 66 = .ok (.aload_n 0, 1) := by decide +kernel
theorem dX10_load_67 : decode cX10_load 67 = .ok (.getfield 10, 3) := by decide +kernel
theorem dX10_load_70 : decode cX10_load 70 = .ok (.aload_n 0, 1) := by decide +kernel
theorem dX10_load_71 : decode cX10_load 71 = .ok (.getfield 16, 3) := by decide +kernel
theorem dX10_load_74 : decode cX10_load 74 = .ok (.invokevirtual 60, 3) := by decide +kernel
theorem dX10_load_77 : decode cX10_load 77 = .ok (.aload_n 0, 1) := by decide +kernel
theorem dX10_load_78 : decode cX10_load 78 = .ok (.getfield 10, 3) := by decide +kernel
theorem dX10_load_81 : decode cX10_load 81 = .ok (.getfield 64, 3) := by decide +kernel
theorem dX10_load_84 : decode cX10_load 84 = .ok (.ireturn, 1) := by decide +kernel
set_option maxRecDepth 100000 in
set_option maxHeartbeats 4000000 in
theorem r_load (l : Launch) (D : va_G) (ct : Nat → ClassId) (S : ty_S) (ws : va_W) (x : Nat) (w : Nat) (sp : Nat) (sv : Nat) (bu : Nat) (bl : Int32) (le : Int32) (b : Nat → Int32) (cu : Nat) (na : Nat) (pr : Nat) (ch : Nat) (v0 : Option Nat) (v1 : Option Nat) (tt : Int32) (τ0 : Int32) (τ1 : Int32) (sz : Nat) (hT : ty_V ct S (rp_L w sp sv cu na pr ch v0 v1 tt τ0 τ1) ws) (h_w : S w = some (.inl 9)) (h_sp : S sp = some (.inl 9)) (h_cu : S cu = some (.inl 2)) (h_na : S na = some (.inr (1, 4))) (h_pr : S pr = some (.inl 5)) (h_ch : S ch = some (.inr (3, 6))) (hbl : 0 ≤ bl.toInt ∧ bl.toInt ≤ 800) (hby : rp_by b bl) (hsd : rp_sd w sp v0 v1) : Met l yX10_load (ws_ yX10_load cX10_load 2 (some .int)) ({ frames := 8, cells := 1, slots := 7, locals := 173 } : Room) (va_Pc [.ref x] (cmP D ct sz ([(ty_XO x w sp sv bu bl le), (rf_RW ct 0 bu 800 b)] ++ ws))) (va_Qi (fun (r : Int32) (u : va_W × Int32 × Int32) => match u with | (u9, le1, t1) => ty_V ct S (rp_L w sp sv cu na pr ch v0 v1 t1 τ0 τ1) u9 ∧ r = (rp_A b bl) ∧ le1 = rp_K b bl ∧ t1 = rp_lt b bl tt) (cmB D ([(ty_XO x w sp sv bu bl le), (rf_RW ct 0 bu 800 b)] ++ ws) sz (fun (u : va_W × Int32 × Int32) => match u with | (u9, le1, t1) => ([(ty_XO x w sp sv bu (0) le1), (rf_RW ct 0 bu 800 b)] ++ u9))) (va_A ([(ty_XO x w sp sv bu bl le), (rf_RW ct 0 bu 800 b)] ++ ws) sz)) 1 7 (va_A ([(ty_XO x w sp sv bu bl le), (rf_RW ct 0 bu 800 b)] ++ ws) sz) := by
  refine Met.ofW (cc := cX10_load) (maxL := 2) (ret := (some .int)) (by decide) rfl ?_
  intro p e s m args below meth c s₁ B hml hv
  obtain ⟨rfl, hsz, hP, hK, hD0, hX⟩ := hv
  have hx := B.exec
  have hb := B.bytes
  have hr := B.returns
  have hts := ws_all (atoms_spec (ws := ws_ yX10_load cX10_load 2 (some .int)) B.pre)
  have hown : s.vm.findClass RX10 = some m.cls := findClass_of_methodNamed B.named
  have hlocks := B.notSynchronized
  subst hsz
  have hD := hD0.self (sz := s.heap.size)
  generalize hAe : va_A ([(ty_XO x w sp sv bu bl le), (rf_RW ct 0 bu 800 b)] ++ ws) s.heap.size = A at hD hX ⊢
  have hA : ∀ q : Nat, s.heap.size ≤ q → A q := fun q h => by rw [← hAe]; exact Or.inr h
  have hS : va_S A s.heap s.heap [] := va_S.rf
  have hl := lv_entry ([.ref x]) (n := 2) (Nat.le_of_ble_eq_true rfl)
  rw [lg_entry_eq]
  generalize (lg_sl ([.ref x]) ++ List.replicate (2 - (lg_sl ([.ref x])).length) Slot.unset).toArray = ls at hl ⊢
  have hl : lv_has ls 2 [(0, .ref x)] := hl
  refine lv_aload_n hx hb dX10_load_0 rfl (lv_at hl 0 rfl) ?_
  refine va_get (v := .ref sp) (D := D) (ci := 10) (C := RX10) (T := TX10) (N := 6) hx hb hts in_X10 hown hK hP 0 rfl rfl 1 (by decide) (hts _ kl_RX10_16) (fun _ h9 => h9) rfl dX10_load_1 ?_
  refine ty_kv (wr := [(ty_XO x w sp sv bu bl le), (rf_RW ct 0 bu 800 b)]) (wc := ([] ++ ws)) (va_runVN (As := []) (rest := []) ⟨hx, hb, hml, hown, hts⟩ (r_clear l D ct S ws sp (rp_P3 sp sv v0 v1 (some w) v0 v1 tt τ0 τ1) cu na pr ch _ hT h_sp h_cu h_na h_pr (rp_Px hsd)) (cm_VN 0 hts kc_X9_clear ki_RX9 kl_RX10_40 kv_X9_clear kx_X9_clear kd_X9_clear ⟨Nat.le_of_ble_eq_true rfl, Nat.le_of_ble_eq_true rfl⟩) (ty_preV (wr := [(ty_XO x w sp sv bu bl le), (rf_RW ct 0 bu 800 b)]) (E := []) (ws := ws) (ci := 9) hP hK hD hS hA hX hT rfl h_sp) rfl rfl hl.1 rfl (lv_room (Nat.le_of_ble_eq_true rfl)) dX10_load_4 ⟨Nat.le_of_ble_eq_true rfl, Nat.le_of_ble_eq_true rfl⟩) hP hD hS hA (fun u H locs hw_2 hP hD hS => ?_)
  obtain ⟨ws_3, nf_4⟩ := u
  have hT := hw_2
  have hP : va_P D vwCl ([(ty_XO x w sp sv bu bl le), (rf_RW ct 0 bu 800 b)] ++ ws_3) H := hP
  have hD : va_D A ([(ty_XO x w sp sv bu bl le), (rf_RW ct 0 bu 800 b)] ++ ws_3) := hD
  refine va_new (ci := 6) (fs := [.null, .int 0, .null, .int 0, .int 0, .int 0, .int 0]) (C := RX6) (T := TX6) (N := 7) hx hb hts in_X6 tyX6 tyX6_ok hown (hts _ kl_RX10_43) (hts _ kn_RX6) (hts _ ki_RX6) hK hP hD hS hA rfl fs0_X6 (Nat.le_of_ble_eq_true rfl) (Nat.le_of_ble_eq_true rfl) dX10_load_7 (fun q_5 H hP hD hS => ?_)
  have hP : va_P D vwCl ([(ty_XO x w sp sv bu bl le), (rf_RW ct 0 bu 800 b), (q_5, .inr (6, [.null, .int 0, .null, .int 0, .int 0, .int 0, .int 0]))] ++ ws_3) H := ty_permP hP ty_mvp
  have hD : va_D A ([(ty_XO x w sp sv bu bl le), (rf_RW ct 0 bu 800 b), (q_5, .inr (6, [.null, .int 0, .null, .int 0, .int 0, .int 0, .int 0]))] ++ ws_3) := ty_permD hD ty_mvp
  refine W.widen (k := 1) (n := 7) (Nat.le_of_ble_eq_true rfl) (Nat.le_of_ble_eq_true rfl) ?_
  refine lv_dup hx hb dX10_load_10 rfl ?_
  refine lv_aload_n hx hb dX10_load_11 rfl (lv_at hl 0 rfl) ?_
  refine va_get (v := .ref bu) (D := D) (ci := 10) (C := RX10) (T := TX10) (N := 6) hx hb hts in_X10 hown hK hP 0 rfl rfl 3 (by decide) (hts _ kl_RX10_23) (fun _ h9 => h9) rfl dX10_load_12 ?_
  refine lv_aload_n hx hb dX10_load_15 rfl (lv_at hl 0 rfl) ?_
  refine va_get (v := .int bl) (D := D) (ci := 10) (C := RX10) (T := TX10) (N := 6) hx hb hts in_X10 hown hK hP 0 rfl rfl 4 (by decide) (hts _ kl_RX10_27) (fun _ h9 => h9) rfl dX10_load_16 ?_
  refine lv_aload_n hx hb dX10_load_19 rfl (lv_at hl 0 rfl) ?_
  refine va_get (v := .ref sp) (D := D) (ci := 10) (C := RX10) (T := TX10) (N := 6) hx hb hts in_X10 hown hK hP 0 rfl rfl 1 (by decide) (hts _ kl_RX10_16) (fun _ h9 => h9) rfl dX10_load_20 ?_
  have hP : va_P D vwCl (([(ty_XO x w sp sv bu bl le), (rf_RW ct 0 bu 800 b)] ++ ws_3) ++ ([(q_5, .inr (6, [.null, .int 0, .null, .int 0, .int 0, .int 0, .int 0]))] ++ ([] : va_W))) H := ty_permP (w1 := (([(ty_XO x w sp sv bu bl le), (rf_RW ct 0 bu 800 b)] ++ [(q_5, .inr (6, [.null, .int 0, .null, .int 0, .int 0, .int 0, .int 0]))]) ++ ws_3)) hP ty_mv2
  have hD : va_D A (([(ty_XO x w sp sv bu bl le), (rf_RW ct 0 bu 800 b)] ++ ws_3) ++ ([(q_5, .inr (6, [.null, .int 0, .null, .int 0, .int 0, .int 0, .int 0]))] ++ ([] : va_W))) := ty_permD (w1 := (([(ty_XO x w sp sv bu bl le), (rf_RW ct 0 bu 800 b)] ++ [(q_5, .inr (6, [.null, .int 0, .null, .int 0, .int 0, .int 0, .int 0]))]) ++ ws_3)) hD ty_mv2
  refine ty_kv (wr := ([(ty_XO x w sp sv bu bl le), (rf_RW ct 0 bu 800 b)] ++ ws_3)) (wc := ([(q_5, .inr (6, [.null, .int 0, .null, .int 0, .int 0, .int 0, .int 0]))] ++ ([] : va_W))) (va_runIN (As := [.ref bu, .int bl, .ref sp]) (rest := [.ref q_5]) ⟨hx, hb, hml, hown, hts⟩ (t_X6_init l D ct (fun _ => none) [] (fun _ => True) (fun _ _ _ => True) q_5 bu sp bl _ ty_V0 ty_C0 ty_y10) (cm_IN 3 hts kc_X6_init ki_RX6 kl_RX10_45 kv_X6_init rfl kd_X6_init ⟨Nat.le_of_ble_eq_true rfl, Nat.le_of_ble_eq_true rfl⟩) (ty_preS (wr := ([(ty_XO x w sp sv bu bl le), (rf_RW ct 0 bu 800 b)] ++ ws_3)) (wc := ([(q_5, .inr (6, [.null, .int 0, .null, .int 0, .int 0, .int 0, .int 0]))] ++ ([] : va_W))) hP hK hD hS hA hX) rfl rfl hl.1 rfl (lv_room (Nat.le_of_ble_eq_true rfl)) dX10_load_23 ⟨Nat.le_of_ble_eq_true rfl, Nat.le_of_ble_eq_true rfl⟩) hP hD hS hA (fun u H locs hw_7 hP hD hS => ?_)
  obtain ⟨ws_8, rfl⟩ : ∃ z, z = u := ⟨_, rfl⟩
  have hT9_9 := hw_7
  have hP : va_P D vwCl ([(ty_XO x w sp sv bu bl le), (rf_RW ct 0 bu 800 b), (ty_RD q_5 bu bl sp (0) (0) (0) (0))] ++ ws_3) H := ty_bkP hP
  have hD : va_D A ([(ty_XO x w sp sv bu bl le), (rf_RW ct 0 bu 800 b), (ty_RD q_5 bu bl sp (0) (0) (0) (0))] ++ ws_3) := ty_bkD hD
  refine lv_astore_n (lv' := [(1, .ref q_5), (0, .ref x)]) hx hb dX10_load_26 rfl hl (by decide) rfl (fun ls hl => ?_)
  refine lv_aload_n hx hb dX10_load_27 rfl (lv_at hl 1 rfl) ?_
  refine lv_iconst (v := 0) hx hb dX10_load_28 (by decide) ?_
  refine va_put (v := .int 0) (ty := .int) (D := D) (ci := 10) (C := RX10) (T := TX10) (N := 6) hx hb hts in_X10 tyX10 tyX10_ok nmX10 hown hK hP hD hS 0 rfl rfl 4 (by decide) (hts _ kl_RX10_27) (fun _ h9 => h9) rfl (by decide +kernel) rfl rfl (Nat.le_of_ble_eq_true rfl) dX10_load_29 (fun H locs hP hD hS => ?_)
  have hP : va_P D vwCl ([(ty_XO x w sp sv bu (0) le), (rf_RW ct 0 bu 800 b), (ty_RD q_5 bu bl sp (0) (0) (0) (0))] ++ ws_3) H := hP
  have hD : va_D A ([(ty_XO x w sp sv bu (0) le), (rf_RW ct 0 bu 800 b), (ty_RD q_5 bu bl sp (0) (0) (0) (0))] ++ ws_3) := hD
  refine lv_aload_n hx hb dX10_load_32 rfl (lv_at hl 0 rfl) ?_
  have hP : va_P D vwCl ([(ty_XO x w sp sv bu (0) le), (ty_RD q_5 bu bl sp (0) (0) (0) (0)), (rf_RW ct 0 bu 800 b)] ++ ws_3) H := ty_permP hP (ty_ordp (E := [(ty_XO x w sp sv bu (0) le), (rf_RW ct 0 bu 800 b), (ty_RD q_5 bu bl sp (0) (0) (0) (0))]) (E2 := [(ty_XO x w sp sv bu (0) le), (ty_RD q_5 bu bl sp (0) (0) (0) (0)), (rf_RW ct 0 bu 800 b)]) (n := 3) [0, 2, 1] rfl rfl (by decide))
  have hD : va_D A ([(ty_XO x w sp sv bu (0) le), (ty_RD q_5 bu bl sp (0) (0) (0) (0)), (rf_RW ct 0 bu 800 b)] ++ ws_3) := ty_permD hD (ty_ordp (E := [(ty_XO x w sp sv bu (0) le), (rf_RW ct 0 bu 800 b), (ty_RD q_5 bu bl sp (0) (0) (0) (0))]) (E2 := [(ty_XO x w sp sv bu (0) le), (ty_RD q_5 bu bl sp (0) (0) (0) (0)), (rf_RW ct 0 bu 800 b)]) (n := 3) [0, 2, 1] rfl rfl (by decide))
  refine ty_kv (wr := [(ty_XO x w sp sv bu (0) le)]) (wc := ([(ty_RD q_5 bu bl sp (0) (0) (0) (0)), (rf_RW ct 0 bu 800 b)] ++ ws_3)) (va_runVN (As := []) (rest := []) ⟨hx, hb, hml, hown, hts⟩ (r_readText l D ct S ws_3 q_5 bu sp bl b (rp_Pe (rp_P3 sp sv v0 v1 (some w) v0 v1 tt τ0 τ1)) cu na pr ch nf_4 _ hT h_sp h_cu h_na h_pr h_ch hbl hby) (cm_VN 0 hts kc_X6_readText ki_RX6 kl_RX10_48 kv_X6_readText kx_X6_readText kd_X6_readText ⟨Nat.le_of_ble_eq_true rfl, Nat.le_of_ble_eq_true rfl⟩) (ty_preE (wr := [(ty_XO x w sp sv bu (0) le)]) (wc := ([(ty_RD q_5 bu bl sp (0) (0) (0) (0)), (rf_RW ct 0 bu 800 b)] ++ ws_3)) (ci := 6) (q0 := 1) hP hK hD hS hA hX rfl rfl) rfl rfl hl.1 rfl (lv_room (Nat.le_of_ble_eq_true rfl)) dX10_load_33 ⟨Nat.le_of_ble_eq_true rfl, Nat.le_of_ble_eq_true rfl⟩) hP hD hS hA (fun u H locs hw_11 hP hD hS => ?_)
  obtain ⟨ws_12, pl1_13, ws1_14, er1_15, ep1_16, cnt1_17, nc1_18, np1_19, nf1_20⟩ := u
  obtain ⟨hT, hp_21⟩ := hw_11
  have hp_21 : rp_T b bl er1_15 ep1_16 nc1_18 := hp_21
  have hP : va_P D vwCl ([(ty_XO x w sp sv bu (0) le), (ty_RD q_5 bu bl sp pl1_13 ws1_14 er1_15 ep1_16), (rf_RW ct 0 bu 800 b)] ++ ws_12) H := hP
  have hD : va_D A ([(ty_XO x w sp sv bu (0) le), (ty_RD q_5 bu bl sp pl1_13 ws1_14 er1_15 ep1_16), (rf_RW ct 0 bu 800 b)] ++ ws_12) := hD
  refine lv_aload_n hx hb dX10_load_36 rfl (lv_at hl 1 rfl) ?_
  refine lv_aload_n hx hb dX10_load_37 rfl (lv_at hl 0 rfl) ?_
  refine va_getN (v := .int er1_15) (D := D) (ci := 6) (C := RX6) (T := TX6) (N := 7) hx hb hts in_X6 hown hK hP 1 rfl rfl 5 (by decide) (hts _ kl_RX10_51) (fun _ h9 => h9) rfl dX10_load_38 ?_
  refine va_put (v := .int er1_15) (ty := .int) (D := D) (ci := 10) (C := RX10) (T := TX10) (N := 6) hx hb hts in_X10 tyX10 tyX10_ok nmX10 hown hK hP hD hS 0 rfl rfl 5 (by decide) (hts _ kl_RX10_31) (fun _ h9 => h9) rfl (by decide +kernel) rfl rfl (Nat.le_of_ble_eq_true rfl) dX10_load_41 (fun H locs hP hD hS => ?_)
  have hP : va_P D vwCl ([(ty_XO x w sp sv bu (0) er1_15), (ty_RD q_5 bu bl sp pl1_13 ws1_14 er1_15 ep1_16), (rf_RW ct 0 bu 800 b)] ++ ws_12) H := hP
  have hD : va_D A ([(ty_XO x w sp sv bu (0) er1_15), (ty_RD q_5 bu bl sp pl1_13 ws1_14 er1_15 ep1_16), (rf_RW ct 0 bu 800 b)] ++ ws_12) := hD
  refine lv_aload_n hx hb dX10_load_44 rfl (lv_at hl 0 rfl) ?_
  refine va_getN (v := .int er1_15) (D := D) (ci := 6) (C := RX6) (T := TX6) (N := 7) hx hb hts in_X6 hown hK hP 1 rfl rfl 5 (by decide) (hts _ kl_RX10_51) (fun _ h9 => h9) rfl dX10_load_45 ?_
  refine lv_if_eq (tgt := 59) hx hb dX10_load_48 (by decide) (fun hc_22 => ?_) (fun hc_22 => ?_)
  · refine lv_aload_n hx hb dX10_load_59 rfl (lv_at hl 1 rfl) ?_
    refine va_get (v := .ref sp) (D := D) (ci := 10) (C := RX10) (T := TX10) (N := 6) hx hb hts in_X10 hown hK hP 0 rfl rfl 1 (by decide) (hts _ kl_RX10_16) (fun _ h9 => h9) rfl dX10_load_60 ?_
    refine ty_kv (wr := [(ty_XO x w sp sv bu (0) er1_15), (ty_RD q_5 bu bl sp pl1_13 ws1_14 er1_15 ep1_16), (rf_RW ct 0 bu 800 b)]) (wc := ([] ++ ws_12)) (va_runVN (As := []) (rest := []) ⟨hx, hb, hml, hown, hts⟩ (t_X9_insertCells l D ct S ws_12 (rp_F (rp_Pe (rp_P3 sp sv v0 v1 (some w) v0 v1 tt τ0 τ1)) cu na pr ch cnt1_17 nc1_18 np1_19 nf1_20) rp_xF sp _ hT h_sp rp_FC rp_F1) (cm_VN 0 hts kc_X9_insertCells ki_RX9 kl_RX10_57 kv_X9_insertCells kx_X9_insertCells kd_X9_insertCells ⟨Nat.le_of_ble_eq_true rfl, Nat.le_of_ble_eq_true rfl⟩) (ty_preV (wr := [(ty_XO x w sp sv bu (0) er1_15), (ty_RD q_5 bu bl sp pl1_13 ws1_14 er1_15 ep1_16), (rf_RW ct 0 bu 800 b)]) (E := []) (ws := ws_12) (ci := 9) hP hK hD hS hA hX hT rfl h_sp) rfl rfl hl.1 rfl (lv_room (Nat.le_of_ble_eq_true rfl)) dX10_load_63 ⟨Nat.le_of_ble_eq_true rfl, Nat.le_of_ble_eq_true rfl⟩) hP hD hS hA (fun u H locs hw_24 hP hD hS => ?_)
    obtain ⟨ws_25, rfl⟩ : ∃ z, z = u := ⟨_, rfl⟩
    have hT := hw_24
    have hP : va_P D vwCl ([(ty_XO x w sp sv bu (0) er1_15), (ty_RD q_5 bu bl sp pl1_13 ws1_14 er1_15 ep1_16), (rf_RW ct 0 bu 800 b)] ++ ws_25) H := hP
    have hD : va_D A ([(ty_XO x w sp sv bu (0) er1_15), (ty_RD q_5 bu bl sp pl1_13 ws1_14 er1_15 ep1_16), (rf_RW ct 0 bu 800 b)] ++ ws_25) := hD
    have hT : ty_V ct S (rp_W2 (rp_P3 sp sv v0 v1 none v0 v1 tt τ0 τ1) sp 0 nc1_18 cu na pr ch) ws_25 := ⟨hT.1, ⟨⟨rp_Sm hT.2.1 (fun z => ⟨z.1.1, (fun v9 q9 => by cases q9), z.1.2.2⟩), hT.2.1.2.2.2.2.2.2⟩, hT.2.2.2.1⟩⟩
    refine lv_aload_n hx hb dX10_load_66 rfl (lv_at hl 1 rfl) ?_
    refine va_get (v := .ref w) (D := D) (ci := 10) (C := RX10) (T := TX10) (N := 6) hx hb hts in_X10 hown hK hP 0 rfl rfl 0 (by decide) (hts _ kl_RX10_10) (fun _ h9 => h9) rfl dX10_load_67 ?_
    refine lv_aload_n hx hb dX10_load_70 rfl (lv_at hl 1 rfl) ?_
    refine va_get (v := .ref sp) (D := D) (ci := 10) (C := RX10) (T := TX10) (N := 6) hx hb hts in_X10 hown hK hP 0 rfl rfl 1 (by decide) (hts _ kl_RX10_16) (fun _ h9 => h9) rfl dX10_load_71 ?_
    refine ty_kv (wr := [(ty_XO x w sp sv bu (0) er1_15), (ty_RD q_5 bu bl sp pl1_13 ws1_14 er1_15 ep1_16), (rf_RW ct 0 bu 800 b)]) (wc := ([] ++ ws_25)) (va_runVN (As := [.ref sp]) (rest := []) ⟨hx, hb, hml, hown, hts⟩ (r_copyFrom l D ct S ws_25 (rp_W2 (rp_P3 sp sv v0 v1 none v0 v1 tt τ0 τ1) sp 0 nc1_18 cu na pr ch) (rp_xW2 (rp_P3 sp sv v0 v1 none v0 v1 tt τ0 τ1) sp ch) w sp (0 : Int32) nc1_18 _ hT h_w h_sp rp_W2C rp_W21 (rp_W20 2 (Or.inl rfl)) (rp_W20 5 (Or.inr (Or.inl rfl))) rp_W27 (rp_W20 11 (Or.inr (Or.inr rfl))) (rp_W2h (rp_Pw hsd) rp_P34 hsd.1) (fun _ h9 => ⟨h9.1.2, h9.2⟩)) (cm_VN 1 hts kc_X9_copyFrom ki_RX9 kl_RX10_60 kv_X9_copyFrom kx_X9_copyFrom kd_X9_copyFrom ⟨Nat.le_of_ble_eq_true rfl, Nat.le_of_ble_eq_true rfl⟩) (ty_preV (wr := [(ty_XO x w sp sv bu (0) er1_15), (ty_RD q_5 bu bl sp pl1_13 ws1_14 er1_15 ep1_16), (rf_RW ct 0 bu 800 b)]) (E := []) (ws := ws_25) (ci := 9) hP hK hD hS hA hX hT rfl h_w) rfl rfl hl.1 rfl (lv_room (Nat.le_of_ble_eq_true rfl)) dX10_load_74 ⟨Nat.le_of_ble_eq_true rfl, Nat.le_of_ble_eq_true rfl⟩) hP hD hS hA (fun u H locs hw_27 hP hD hS => ?_)
    obtain ⟨ws_28, rfl⟩ : ∃ z, z = u := ⟨_, rfl⟩
    have hT := hw_27
    have hP : va_P D vwCl ([(ty_XO x w sp sv bu (0) er1_15), (ty_RD q_5 bu bl sp pl1_13 ws1_14 er1_15 ep1_16), (rf_RW ct 0 bu 800 b)] ++ ws_28) H := hP
    have hD : va_D A ([(ty_XO x w sp sv bu (0) er1_15), (ty_RD q_5 bu bl sp pl1_13 ws1_14 er1_15 ep1_16), (rf_RW ct 0 bu 800 b)] ++ ws_28) := hD
    refine lv_aload_n hx hb dX10_load_77 rfl (lv_at hl 1 rfl) ?_
    refine va_get (v := .ref w) (D := D) (ci := 10) (C := RX10) (T := TX10) (N := 6) hx hb hts in_X10 hown hK hP 0 rfl rfl 0 (by decide) (hts _ kl_RX10_10) (fun _ h9 => h9) rfl dX10_load_78 ?_
    refine ty_getDN (v := .int nc1_18) (E := [(ty_XO x w sp sv bu (0) er1_15), (ty_RD q_5 bu bl sp pl1_13 ws1_14 er1_15 ep1_16), (rf_RW ct 0 bu 800 b)]) (ws := ws_28) (D := D) (ci := 9) (C := RX9) (T := TX9) (N := 8) hx hb hts in_X9 hown hK hP hD hT h_w rfl 4 (by decide) (hts _ kl_RX10_64) (fun _ h9 => h9) (ty_fcd hT.2.2) dX10_load_81 ?_
    have hP : va_P D vwCl ([(ty_XO x w sp sv bu (0) er1_15), (rf_RW ct 0 bu 800 b), (ty_RD q_5 bu bl sp pl1_13 ws1_14 er1_15 ep1_16)] ++ ws_28) H := ty_permP hP (ty_ordp (E := [(ty_XO x w sp sv bu (0) er1_15), (ty_RD q_5 bu bl sp pl1_13 ws1_14 er1_15 ep1_16), (rf_RW ct 0 bu 800 b)]) (E2 := [(ty_XO x w sp sv bu (0) er1_15), (rf_RW ct 0 bu 800 b), (ty_RD q_5 bu bl sp pl1_13 ws1_14 er1_15 ep1_16)]) (n := 3) [0, 2, 1] rfl rfl (by decide))
    have hD : va_D A ([(ty_XO x w sp sv bu (0) er1_15), (rf_RW ct 0 bu 800 b), (ty_RD q_5 bu bl sp pl1_13 ws1_14 er1_15 ep1_16)] ++ ws_28) := ty_permD hD (ty_ordp (E := [(ty_XO x w sp sv bu (0) er1_15), (ty_RD q_5 bu bl sp pl1_13 ws1_14 er1_15 ep1_16), (rf_RW ct 0 bu 800 b)]) (E2 := [(ty_XO x w sp sv bu (0) er1_15), (rf_RW ct 0 bu 800 b), (ty_RD q_5 bu bl sp pl1_13 ws1_14 er1_15 ep1_16)]) (n := 3) [0, 2, 1] rfl rfl (by decide))
    have hP : va_P D vwCl ([(ty_XO x w sp sv bu (0) er1_15), (rf_RW ct 0 bu 800 b)] ++ ws_28) H := ty_subP hP (ty_dr1 (E := [(ty_XO x w sp sv bu (0) er1_15), (rf_RW ct 0 bu 800 b)]) (x := (ty_RD q_5 bu bl sp pl1_13 ws1_14 er1_15 ep1_16)))
    have hD : va_D A ([(ty_XO x w sp sv bu (0) er1_15), (rf_RW ct 0 bu 800 b)] ++ ws_28) := ty_subD hD (ty_dr1 (E := [(ty_XO x w sp sv bu (0) er1_15), (rf_RW ct 0 bu 800 b)]) (x := (ty_RD q_5 bu bl sp pl1_13 ws1_14 er1_15 ep1_16)))
    have hTf_29 : ty_V ct S (rp_L w sp sv cu na pr ch v0 v1 0 τ0 τ1) ws_28 := ⟨hT.1, rp_Sm hT.2.1.1.1.1 (fun z => ⟨z.1, (fun v9 q9 => by rw [← Option.some.inj q9]; exact hT.2.1.2), z.2.2⟩)⟩
    exact W.iret (v := nc1_18) hx hb hr (fun t ht hW => ⟨⟨nc1_18, (ws_28, er1_15, (0 : Int32)), rfl, ⟨hTf_29, (rp_A0 hp_21 hc_22), ⟨rp_Ke hp_21, (if_pos (hp_21.1 hc_22).1).symm⟩⟩, by rw [ht]; exact hP, by rw [hAe]; exact hD⟩, hS.F ht⟩) hS.2.2 dX10_load_84
  · refine lv_bipush (v := (-100)) hx hb dX10_load_51 (by decide) ?_
    refine lv_aload_n hx hb dX10_load_53 rfl (lv_at hl 0 rfl) ?_
    refine va_getN (v := .int ep1_16) (D := D) (ci := 6) (C := RX6) (T := TX6) (N := 7) hx hb hts in_X6 hown hK hP 1 rfl rfl 6 (by decide) (hts _ kl_RX10_54) (fun _ h9 => h9) rfl dX10_load_54 ?_
    refine lv_isub hx hb dX10_load_57 ?_
    have hP : va_P D vwCl ([(ty_XO x w sp sv bu (0) er1_15), (rf_RW ct 0 bu 800 b), (ty_RD q_5 bu bl sp pl1_13 ws1_14 er1_15 ep1_16)] ++ ws_12) H := ty_permP hP (ty_ordp (E := [(ty_XO x w sp sv bu (0) er1_15), (ty_RD q_5 bu bl sp pl1_13 ws1_14 er1_15 ep1_16), (rf_RW ct 0 bu 800 b)]) (E2 := [(ty_XO x w sp sv bu (0) er1_15), (rf_RW ct 0 bu 800 b), (ty_RD q_5 bu bl sp pl1_13 ws1_14 er1_15 ep1_16)]) (n := 3) [0, 2, 1] rfl rfl (by decide))
    have hD : va_D A ([(ty_XO x w sp sv bu (0) er1_15), (rf_RW ct 0 bu 800 b), (ty_RD q_5 bu bl sp pl1_13 ws1_14 er1_15 ep1_16)] ++ ws_12) := ty_permD hD (ty_ordp (E := [(ty_XO x w sp sv bu (0) er1_15), (ty_RD q_5 bu bl sp pl1_13 ws1_14 er1_15 ep1_16), (rf_RW ct 0 bu 800 b)]) (E2 := [(ty_XO x w sp sv bu (0) er1_15), (rf_RW ct 0 bu 800 b), (ty_RD q_5 bu bl sp pl1_13 ws1_14 er1_15 ep1_16)]) (n := 3) [0, 2, 1] rfl rfl (by decide))
    have hP : va_P D vwCl ([(ty_XO x w sp sv bu (0) er1_15), (rf_RW ct 0 bu 800 b)] ++ ws_12) H := ty_subP hP (ty_dr1 (E := [(ty_XO x w sp sv bu (0) er1_15), (rf_RW ct 0 bu 800 b)]) (x := (ty_RD q_5 bu bl sp pl1_13 ws1_14 er1_15 ep1_16)))
    have hD : va_D A ([(ty_XO x w sp sv bu (0) er1_15), (rf_RW ct 0 bu 800 b)] ++ ws_12) := ty_subD hD (ty_dr1 (E := [(ty_XO x w sp sv bu (0) er1_15), (rf_RW ct 0 bu 800 b)]) (x := (ty_RD q_5 bu bl sp pl1_13 ws1_14 er1_15 ep1_16)))
    have hTf_30 : ty_V ct S (rp_L w sp sv cu na pr ch v0 v1 tt τ0 τ1) ws_12 := ⟨hT.1, rp_Sm hT.2.1 (fun z => z.1)⟩
    exact W.iret (v := ((-100) - ep1_16)) hx hb hr (fun t ht hW => ⟨⟨((-100) - ep1_16), (ws_12, er1_15, tt), rfl, ⟨hTf_30, (rp_A1 hp_21 hc_22), ⟨rp_Ke hp_21, (if_neg (rp_Kn hp_21 hc_22)).symm⟩⟩, by rw [ht]; exact hP, by rw [hAe]; exact hD⟩, hS.F ht⟩) hS.2.2 dX10_load_58
