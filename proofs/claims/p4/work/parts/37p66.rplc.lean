theorem dX6_readText_73 : decode cX6_readText 73 = .ok (.aload_n 0, 1) := by decide +kernel
theorem dX6_readText_74 : decode cX6_readText 74 = .ok (.invokevirtual 55, 3) := by decide +kernel
theorem dX6_readText_77 : decode cX6_readText 77 = .ok (.aload_n 0, 1) := by decide +kernel
theorem dX6_readText_78 : decode cX6_readText 78 = .ok (.getfield 58, 3) := by decide +kernel
theorem dX6_readText_81 : decode cX6_readText 81 = .ok (.ifCond .ne 31, 3) := by decide +kernel
theorem dX6_readText_84 : decode cX6_readText 84 = .ok (.aload_n 0, 1) := by decide +kernel
theorem dX6_readText_85 : decode cX6_readText 85 = .ok (.invokevirtual 61, 3) := by decide +kernel
theorem dX6_readText_88 : decode cX6_readText 88 = .ok (.bipush 59, 2) := by decide +kernel
theorem dX6_readText_90 : decode cX6_readText 90 = .ok (.if_icmp .eq 6, 3) := by decide +kernel
theorem dX6_readText_93 : decode cX6_readText 93 = .ok (.goto 19, 3) := by decide +kernel
theorem dX6_readText_96 : decode cX6_readText 96 = .ok (.aload_n 0, 1) := by decide +kernel
theorem dX6_readText_97 : decode cX6_readText 97 = .ok (.dup, 1) := by decide +kernel
theorem dX6_readText_98 : decode cX6_readText 98 = .ok (.getfield 65, 3) := by decide +kernel
theorem dX6_readText_101 : decode cX6_readText 101 = .ok (.iconst 1, 1) := by decide +kernel
theorem dX6_readText_102 : decode cX6_readText 102 = .ok (.iadd, 1) := by decide +kernel
theorem dX6_readText_103 : decode cX6_readText 103 = .ok (.putfield 65, 3) := by decide +kernel
theorem dX6_readText_106 : decode cX6_readText 106 = .ok (.iinc 1 1, 3) := by decide +kernel
theorem dX6_readText_109 : decode cX6_readText 109 = .ok (.goto (-107), 3) := by decide +kernel
theorem dX6_readText_112 : decode cX6_readText 112 = .ok (.aload_n 0, 1) := by decide +kernel
theorem dX6_readText_113 : decode cX6_readText 113 = .ok (.getfield 65, 3) := by decide +kernel
theorem dX6_readText_116 : decode cX6_readText 116 = .ok (.aload_n 0, 1) := by decide +kernel
theorem dX6_readText_117 : decode cX6_readText 117 = .ok (.getfield 15, 3) := by decide +kernel
theorem dX6_readText_120 : decode cX6_readText 120 = .ok (.if_icmp .ge 12, 3) := by decide +kernel
theorem dX6_readText_123 : decode cX6_readText 123 = .ok (.aload_n 0, 1) := by decide +kernel
theorem dX6_readText_124 : decode cX6_readText 124 = .ok (.iconst 1, 1) := by decide +kernel
theorem dX6_readText_125 : decode cX6_readText 125 = .ok (.aload_n 0, 1) := by decide +kernel
theorem dX6_readText_126 : decode cX6_readText 126 = .ok (.getfield 65, 3) := by decide +kernel
theorem dX6_readText_129 : decode cX6_readText 129 = .ok (.invokevirtual 68, 3) := by decide +kernel
theorem dX6_readText_132 : decode cX6_readText 132 = .ok (.return_, 1) := by decide +kernel
set_option maxRecDepth 100000 in
set_option maxHeartbeats 4000000 in
theorem r_readText (l : Launch) (D : va_G) (ct : Nat → ClassId) (S : ty_S) (ws : va_W) (rd : Nat) (bt : Nat) (tg : Nat) (ln : Int32) (b : Nat → Int32) (cu : Nat) (na : Nat) (pr : Nat) (ch : Nat) (nf : Nat → Int64) (sz : Nat) (hT : ty_V ct S (rp_F tg cu na pr ch (0) (0) (0) nf) ws) (h_tg : S tg = some (.inl 9)) (h_cu : S cu = some (.inl 2)) (h_na : S na = some (.inr (1, 4))) (h_pr : S pr = some (.inl 5)) (h_ch : S ch = some (.inr (3, 6))) (hln : 0 ≤ ln.toInt ∧ ln.toInt ≤ 800) (hby : rp_by b ln) : Met l yX6_readText (ws_ yX6_readText cX6_readText 2 none) ({ frames := 7, cells := 0, slots := 0, locals := 152 } : Room) (va_Pc [.ref rd] (cmP D ct sz ([(ty_RD rd bt ln tg (0) (0) (0) (0)), (rf_RW ct 0 bt 800 b)] ++ ws))) (va_Qv (fun (u : va_W × Int32 × Int32 × Int32 × Int32 × Int32 × Int32 × Int32 × (Nat → Int64)) => match u with | (u9, pl1, ws1, er1, ep1, cnt1, nc1, np1, nf1) => ty_V ct S (rp_F tg cu na pr ch cnt1 nc1 np1 nf1) u9 ∧ rp_T b ln er1 ep1 nc1) (cmB D ([(ty_RD rd bt ln tg (0) (0) (0) (0)), (rf_RW ct 0 bt 800 b)] ++ ws) sz (fun (u : va_W × Int32 × Int32 × Int32 × Int32 × Int32 × Int32 × Int32 × (Nat → Int64)) => match u with | (u9, pl1, ws1, er1, ep1, cnt1, nc1, np1, nf1) => ([(ty_RD rd bt ln tg pl1 ws1 er1 ep1), (rf_RW ct 0 bt 800 b)] ++ u9))) (va_A ([(ty_RD rd bt ln tg (0) (0) (0) (0)), (rf_RW ct 0 bt 800 b)] ++ ws) sz)) 0 0 (va_A ([(ty_RD rd bt ln tg (0) (0) (0) (0)), (rf_RW ct 0 bt 800 b)] ++ ws) sz) := by
  refine Met.ofW (cc := cX6_readText) (maxL := 2) (ret := none) (by decide) rfl ?_
  intro p e s m args below meth c s₁ B hml hv
  obtain ⟨rfl, hsz, hP, hK, hD0, hX⟩ := hv
  have hx := B.exec
  have hb := B.bytes
  have hr := B.returns
  have hts := ws_all (atoms_spec (ws := ws_ yX6_readText cX6_readText 2 none) B.pre)
  have hown : s.vm.findClass RX6 = some m.cls := findClass_of_methodNamed B.named
  have hlocks := B.notSynchronized
  subst hsz
  have hD := hD0.self (sz := s.heap.size)
  generalize hAe : va_A ([(ty_RD rd bt ln tg (0) (0) (0) (0)), (rf_RW ct 0 bt 800 b)] ++ ws) s.heap.size = A at hD hX ⊢
  have hA : ∀ q : Nat, s.heap.size ≤ q → A q := fun q h => by rw [← hAe]; exact Or.inr h
  have hS : va_S A s.heap s.heap [] := va_S.rf
  have hl := lv_entry ([.ref rd]) (n := 2) (Nat.le_of_ble_eq_true rfl)
  rw [lg_entry_eq]
  generalize (lg_sl ([.ref rd]) ++ List.replicate (2 - (lg_sl ([.ref rd])).length) Slot.unset).toArray = ls at hl ⊢
  have hl : lv_has ls 2 [(0, .ref rd)] := hl
  refine lv_iconst (v := 0) hx hb dX6_readText_0 (by decide) ?_
  refine lv_istore_n (lv' := [(1, .int 0), (0, .ref rd)]) hx hb dX6_readText_1 rfl hl (by decide) rfl (fun ls hl => ?_)
  refine ty_loop (I := fun μ H locs ls => ∃ (ws : va_W) (y_1 : Int32) (y_2 : Int32) (y_3 : Int32) (y_4 : Int32) (cnt_5 : Int32) (nc_6 : Int32) (np_7 : Int32) (nf_8 : Nat → Int64) (N_9 : List (List Int32)), μ = (2147483648 - y_1.toInt).toNat ∧ ty_V ct S (rp_F tg cu na pr ch cnt_5 nc_6 np_7 nf_8) ws ∧ va_P D vwCl ([(ty_RD rd bt ln tg y_2 y_3 (0) y_4), (rf_RW ct 0 bt 800 b)] ++ ws) H ∧ va_D A ([(ty_RD rd bt ln tg y_2 y_3 (0) y_4), (rf_RW ct 0 bt 800 b)] ++ ws) ∧ va_S A s.heap H locs ∧ lv_has ls 2 [(0, .ref rd), (1, .int y_1)] ∧ (0 ≤ y_1.toInt ∧ y_1.toInt ≤ y_2.toInt ∧ y_2.toInt ≤ ln.toInt) ∧ rp_xJ b ln (rp_K b ln) (rp_P b ln) (rp_C b ln) y_1 N_9 np_7.toInt nc_6.toInt y_2 ∧ rp_N N_9 cnt_5 nf_8 ∧ (0 ≤ nc_6.toInt ∧ nc_6.toInt ≤ 6) ∧ 0 ≤ np_7.toInt ∧ np_7.toInt ≤ 4) ⟨_, ws, (0 : Int32), (0 : Int32), (0 : Int32), (0 : Int32), (0 : Int32), (0 : Int32), (0 : Int32), nf, ([]), rfl, hT, hP, hD, hS, (lv_sub hl [1, 0] rfl), ⟨by decide, by decide, by have z : (0 : Int32).toInt = 0 := (by decide); omega⟩, rp_J0 b ln, rp_N0 nf, (by decide), (by decide)⟩ (fun μ H locs ls hI ih_2 => ?_)
  obtain ⟨ws, y_1, y_2, y_3, y_4, cnt_5, nc_6, np_7, nf_8, N_9, rfl, hT, hP, hD, hS, hl, hex_2⟩ := hI
  have hxb := hex_2.1
  refine lv_iload_n hx hb dX6_readText_2 rfl (lv_at hl 1 rfl) ?_
  refine lv_aload_n hx hb dX6_readText_3 rfl (lv_at hl 0 rfl) ?_
  refine va_get (v := .int ln) (D := D) (ci := 6) (C := RX6) (T := TX6) (N := 7) hx hb hts in_X6 hown hK hP 0 rfl rfl 1 (by decide) (hts _ kl_RX6_15) (fun _ h9 => h9) rfl dX6_readText_4 ?_
  refine lv_icmp_gt (tgt := 112) hx hb dX6_readText_7 (by decide) (fun hc_10 => ?_) (fun hc_10 => ?_)
  · exact absurd hc_10 (by rw [Int32.lt_iff_toInt_lt]; omega)
  · refine lv_aload_n hx hb dX6_readText_10 rfl (lv_at hl 0 rfl) ?_
    have hP : va_P D vwCl (([] ++ ws) ++ ([(ty_RD rd bt ln tg y_2 y_3 (0) y_4), (rf_RW ct 0 bt 800 b)] ++ ([] : va_W))) H := ty_permP (w1 := (([] ++ [(ty_RD rd bt ln tg y_2 y_3 (0) y_4), (rf_RW ct 0 bt 800 b)]) ++ ws)) hP ty_mv2
    have hD : va_D A (([] ++ ws) ++ ([(ty_RD rd bt ln tg y_2 y_3 (0) y_4), (rf_RW ct 0 bt 800 b)] ++ ([] : va_W))) := ty_permD (w1 := (([] ++ [(ty_RD rd bt ln tg y_2 y_3 (0) y_4), (rf_RW ct 0 bt 800 b)]) ++ ws)) hD ty_mv2
    refine ty_kv (wr := ([] ++ ws)) (wc := ([(ty_RD rd bt ln tg y_2 y_3 (0) y_4), (rf_RW ct 0 bt 800 b)] ++ ([] : va_W))) (va_runV (As := []) (rest := []) ⟨hx, hb, hml, hown, hts⟩ (r_readWord l D ct (fun _ => none) [] (fun _ => True) (fun _ _ _ => True) rd bt tg ln y_2 y_3 (0 : Int32) y_4 b _ ty_V0 ty_C0 ty_y10 hln (by omega)) (cm_V 0 hts kc_X6_readWord ki_RX6 kl_RX6_23 kv_X6_readWord kx_X6_readWord kd_X6_readWord ⟨Nat.le_of_ble_eq_true rfl, Nat.le_of_ble_eq_true rfl⟩) (ty_preE (wr := ([] ++ ws)) (wc := ([(ty_RD rd bt ln tg y_2 y_3 (0) y_4), (rf_RW ct 0 bt 800 b)] ++ ([] : va_W))) (ci := 6) (q0 := (([] ++ ws) : va_W).length + 0) hP hK hD hS hA hX rfl (ty_app rfl)) rfl rfl hl.1 rfl (lv_room (Nat.le_of_ble_eq_true rfl)) dX6_readText_11 ⟨Nat.le_of_ble_eq_true rfl, Nat.le_of_ble_eq_true rfl⟩) hP hD hS hA (fun u H locs hw_12 hP hD hS => ?_)
    obtain ⟨ws_13, pl1_14, ws1_15, er1_16, ep1_17⟩ := u
    obtain ⟨hT9_18, hp_19⟩ := hw_12
    have hp_19 : pl1_14 = (rp_we b ln (rp_sk b ln y_2)) ∧ ws1_15 = (rp_sk b ln y_2) ∧ rp_o (0 : Int32) y_4 er1_16 ep1_17 (rp_wk b ln (rp_sk b ln y_2)) (rp_sk b ln y_2) True := hp_19
    have hP : va_P D vwCl ([(ty_RD rd bt ln tg pl1_14 ws1_15 er1_16 ep1_17), (rf_RW ct 0 bt 800 b)] ++ ws) H := ty_bkP hP
    have hD : va_D A ([(ty_RD rd bt ln tg pl1_14 ws1_15 er1_16 ep1_17), (rf_RW ct 0 bt 800 b)] ++ ws) := ty_bkD hD
    obtain ⟨rfl, rfl, ho_20⟩ := hp_19
    have hq := rp_sk_b (b := b) (p := y_2) hln.2 (by omega)
    have hq2 := rp_we_b (b := b) (p := (rp_sk b ln y_2)) hln.2 (by omega)
    have hQ : 0 ≤ (rp_sk b ln y_2).toInt ∧ (rp_sk b ln y_2).toInt ≤ 800 := (by omega)
    refine lv_aload_n hx hb dX6_readText_14 rfl (lv_at hl 0 rfl) ?_
    obtain ⟨sa_21, sv_22, hsr_23, hss_24⟩ := hX.2.2.2.1 ("CellCycler$Reader", 26, "curve", [99, 117, 114, 118, 101]) (by decide +kernel)
    refine va_ldcS hx hb hown hsr_23 dX6_readText_15 ?_
    have hP : va_P D vwCl (([] ++ ws) ++ ([(ty_RD rd bt ln tg (rp_we b ln (rp_sk b ln y_2)) (rp_sk b ln y_2) er1_16 ep1_17), (rf_RW ct 0 bt 800 b)] ++ ([] : va_W))) H := ty_permP (w1 := (([] ++ [(ty_RD rd bt ln tg (rp_we b ln (rp_sk b ln y_2)) (rp_sk b ln y_2) er1_16 ep1_17), (rf_RW ct 0 bt 800 b)]) ++ ws)) hP ty_mv2
    have hD : va_D A (([] ++ ws) ++ ([(ty_RD rd bt ln tg (rp_we b ln (rp_sk b ln y_2)) (rp_sk b ln y_2) er1_16 ep1_17), (rf_RW ct 0 bt 800 b)] ++ ([] : va_W))) := ty_permD (w1 := (([] ++ [(ty_RD rd bt ln tg (rp_we b ln (rp_sk b ln y_2)) (rp_sk b ln y_2) er1_16 ep1_17), (rf_RW ct 0 bt 800 b)]) ++ ws)) hD ty_mv2
    refine ty_ki (wr := ([] ++ ws)) (wc := ([(ty_RD rd bt ln tg (rp_we b ln (rp_sk b ln y_2)) (rp_sk b ln y_2) er1_16 ep1_17), (rf_RW ct 0 bt 800 b)] ++ ([] : va_W))) (va_runV (As := [.ref sa_21]) (rest := []) ⟨hx, hb, hml, hown, hts⟩ (r_wordIs l D ct (fun _ => none) [] (fun _ => True) (fun _ _ _ => True) rd bt tg ln (rp_we b ln (rp_sk b ln y_2)) (rp_sk b ln y_2) er1_16 ep1_17 b sa_21 ("CellCycler$Reader", 26, "curve", [99, 117, 114, 118, 101]) _ ty_V0 ty_C0 ty_y10 hln (by omega) (by omega) (by decide +kernel)) (cm_V 1 hts kc_X6_wordIs ki_RX6 kl_RX6_28 kv_X6_wordIs kx_X6_wordIs kd_X6_wordIs ⟨Nat.le_of_ble_eq_true rfl, Nat.le_of_ble_eq_true rfl⟩) (cm_preVs (ty_preE (wr := ([] ++ ws)) (wc := ([(ty_RD rd bt ln tg (rp_we b ln (rp_sk b ln y_2)) (rp_sk b ln y_2) er1_16 ep1_17), (rf_RW ct 0 bt 800 b)] ++ ([] : va_W))) (ci := 6) (q0 := (([] ++ ws) : va_W).length + 0) hP hK hD hS hA hX rfl (ty_app rfl)) hsr_23) rfl rfl hl.1 rfl (lv_room (Nat.le_of_ble_eq_true rfl)) dX6_readText_17 ⟨Nat.le_of_ble_eq_true rfl, Nat.le_of_ble_eq_true rfl⟩) hP hD hS hA (fun r_25 u H locs hw_26 hP hD hS => ?_)
    obtain ⟨ws_27, rfl⟩ : ∃ z, z = u := ⟨_, rfl⟩
    obtain ⟨hT9_28, hp_29⟩ := hw_26
    have hp_29 : ((r_25 = 1 ∧ rp_wd b (rp_sk b ln y_2) (rp_we b ln (rp_sk b ln y_2)) = ("CellCycler$Reader", 26, "curve", [99, 117, 114, 118, 101]).2.2.2) ∨ (r_25 = 0 ∧ ¬ rp_wd b (rp_sk b ln y_2) (rp_we b ln (rp_sk b ln y_2)) = ("CellCycler$Reader", 26, "curve", [99, 117, 114, 118, 101]).2.2.2)) := hp_29
    have hP : va_P D vwCl ([(ty_RD rd bt ln tg (rp_we b ln (rp_sk b ln y_2)) (rp_sk b ln y_2) er1_16 ep1_17), (rf_RW ct 0 bt 800 b)] ++ ws) H := ty_bkP hP
    have hD : va_D A ([(ty_RD rd bt ln tg (rp_we b ln (rp_sk b ln y_2)) (rp_sk b ln y_2) er1_16 ep1_17), (rf_RW ct 0 bt 800 b)] ++ ws) := ty_bkD hD
    rcases hp_29 with ⟨rfl, hz_30⟩ | ⟨rfl, hz_31⟩
    · refine lv_if_eq (tgt := 30) hx hb dX6_readText_20 (by decide) (fun hc => absurd hc (by decide)) (fun _ => ?_)
      obtain ⟨hke_33, hkp_34⟩ := rp_wk0 rfl ho_20 (rp_wl hQ hz_30)
      subst hke_33
      refine lv_aload_n hx hb dX6_readText_23 rfl (lv_at hl 0 rfl) ?_
      refine ty_kv (wr := []) (wc := ([(ty_RD rd bt ln tg (rp_we b ln (rp_sk b ln y_2)) (rp_sk b ln y_2) (0) ep1_17), (rf_RW ct 0 bt 800 b)] ++ ws)) (va_runV (As := []) (rest := []) ⟨hx, hb, hml, hown, hts⟩ (r_readCurve l D ct S ws rd bt tg ln (rp_we b ln (rp_sk b ln y_2)) (rp_sk b ln y_2) (0 : Int32) ep1_17 b cu na pr ch cnt_5 nc_6 np_7 nf_8 N_9 _ hT h_tg h_cu h_na hln (by omega) rfl (by omega) rfl hex_2.2.2.1) (cm_V 0 hts kc_X6_readCurve ki_RX6 kl_RX6_32 kv_X6_readCurve kx_X6_readCurve kd_X6_readCurve ⟨Nat.le_of_ble_eq_true rfl, Nat.le_of_ble_eq_true rfl⟩) (ty_preE (wr := []) (wc := ([(ty_RD rd bt ln tg (rp_we b ln (rp_sk b ln y_2)) (rp_sk b ln y_2) (0) ep1_17), (rf_RW ct 0 bt 800 b)] ++ ws)) (ci := 6) (q0 := 0) hP hK hD hS hA hX rfl rfl) rfl rfl hl.1 rfl (lv_room (Nat.le_of_ble_eq_true rfl)) dX6_readText_24 ⟨Nat.le_of_ble_eq_true rfl, Nat.le_of_ble_eq_true rfl⟩) hP hD hS hA (fun u H locs hw_36 hP hD hS => ?_)
      obtain ⟨ws_37, pl1_38, ws1_39, er1_40, ep1_41, cnt1_42, nf1_43⟩ := u
      obtain ⟨hT, hp_44⟩ := hw_36
      have hp_44 : (0 ≤ pl1_38.toInt ∧ pl1_38.toInt ≤ ln.toInt) ∧ rp_o (0 : Int32) ep1_17 er1_40 ep1_41 (rp_ck b ln N_9 (rp_sk b ln y_2)) (rp_cp b ln N_9 (rp_sk b ln y_2)) (rp_N (N_9 ++ [rp_w b ln (rp_q2 b ln (rp_sk b ln y_2))]) cnt1_42 nf1_43 ∧ rp_sk b ln pl1_38 = rp_sk b ln (rp_cp b ln N_9 (rp_sk b ln y_2))) := hp_44
      have hP : va_P D vwCl ([(ty_RD rd bt ln tg pl1_38 ws1_39 er1_40 ep1_41), (rf_RW ct 0 bt 800 b)] ++ ws_37) H := hP
      have hD : va_D A ([(ty_RD rd bt ln tg pl1_38 ws1_39 er1_40 ep1_41), (rf_RW ct 0 bt 800 b)] ++ ws_37) := hD
      obtain ⟨hb_45, ho_46⟩ := hp_44
      rw [hkp_34] at ho_46
      have hso_47 := rp_s1 (show rp_wh b ln (rp_sk b ln y_2) = 1 from (if_pos hz_30)) hex_2.2.2.2.1 hex_2.2.2.2.2 ho_46
      refine lv_goto (tgt := 73) hx hb dX6_readText_27 (by decide) ?_
      refine lv_aload_n hx hb dX6_readText_73 rfl (lv_at hl 0 rfl) ?_
      have hP : va_P D vwCl (([] ++ ws_37) ++ ([(ty_RD rd bt ln tg pl1_38 ws1_39 er1_40 ep1_41), (rf_RW ct 0 bt 800 b)] ++ ([] : va_W))) H := ty_permP (w1 := (([] ++ [(ty_RD rd bt ln tg pl1_38 ws1_39 er1_40 ep1_41), (rf_RW ct 0 bt 800 b)]) ++ ws_37)) hP ty_mv2
      have hD : va_D A (([] ++ ws_37) ++ ([(ty_RD rd bt ln tg pl1_38 ws1_39 er1_40 ep1_41), (rf_RW ct 0 bt 800 b)] ++ ([] : va_W))) := ty_permD (w1 := (([] ++ [(ty_RD rd bt ln tg pl1_38 ws1_39 er1_40 ep1_41), (rf_RW ct 0 bt 800 b)]) ++ ws_37)) hD ty_mv2
      refine ty_kv (wr := ([] ++ ws_37)) (wc := ([(ty_RD rd bt ln tg pl1_38 ws1_39 er1_40 ep1_41), (rf_RW ct 0 bt 800 b)] ++ ([] : va_W))) (va_runV (As := []) (rest := []) ⟨hx, hb, hml, hown, hts⟩ (r_skip l D ct (fun _ => none) [] (fun _ => True) (fun _ _ _ => True) rd bt tg ln pl1_38 ws1_39 er1_40 ep1_41 b _ ty_V0 ty_C0 ty_y10 hln hb_45) (cm_V 0 hts kc_X6_skipSpaces ki_RX6 kl_RX6_55 kv_X6_skipSpaces kx_X6_skipSpaces kd_X6_skipSpaces ⟨Nat.le_of_ble_eq_true rfl, Nat.le_of_ble_eq_true rfl⟩) (ty_preE (wr := ([] ++ ws_37)) (wc := ([(ty_RD rd bt ln tg pl1_38 ws1_39 er1_40 ep1_41), (rf_RW ct 0 bt 800 b)] ++ ([] : va_W))) (ci := 6) (q0 := (([] ++ ws_37) : va_W).length + 0) hP hK hD hS hA hX rfl (ty_app rfl)) rfl rfl hl.1 rfl (lv_room (Nat.le_of_ble_eq_true rfl)) dX6_readText_74 ⟨Nat.le_of_ble_eq_true rfl, Nat.le_of_ble_eq_true rfl⟩) hP hD hS hA (fun u H locs hw_49 hP hD hS => ?_)
      obtain ⟨ws_50, pl1_51⟩ := u
      obtain ⟨hT9_52, hp_53⟩ := hw_49
      have hp_53 : pl1_51 = (rp_sk b ln pl1_38) := hp_53
      have hP : va_P D vwCl ([(ty_RD rd bt ln tg pl1_51 ws1_39 er1_40 ep1_41), (rf_RW ct 0 bt 800 b)] ++ ws_37) H := ty_bkP hP
      have hD : va_D A ([(ty_RD rd bt ln tg pl1_51 ws1_39 er1_40 ep1_41), (rf_RW ct 0 bt 800 b)] ++ ws_37) := ty_bkD hD
      obtain rfl := hp_53
      have hs_55 := rp_sk_b (b := b) (p := pl1_38) hln.2 hb_45
      refine lv_aload_n hx hb dX6_readText_77 rfl (lv_at hl 0 rfl) ?_
      refine va_get (v := .int er1_40) (D := D) (ci := 6) (C := RX6) (T := TX6) (N := 7) hx hb hts in_X6 hown hK hP 0 rfl rfl 5 (by decide) (hts _ kl_RX6_58) (fun _ h9 => h9) rfl dX6_readText_78 ?_
      refine lv_if_ne (tgt := 112) hx hb dX6_readText_81 (by decide) (fun hc_56 => ?_) (fun hc_56 => ?_)
      · refine lv_aload_n hx hb dX6_readText_112 rfl (lv_at hl 0 rfl) ?_
        refine va_get (v := .int (rp_sk b ln pl1_38)) (D := D) (ci := 6) (C := RX6) (T := TX6) (N := 7) hx hb hts in_X6 hown hK hP 0 rfl rfl 3 (by decide) (hts _ kl_RX6_65) (fun _ h9 => h9) rfl dX6_readText_113 ?_
        refine lv_aload_n hx hb dX6_readText_116 rfl (lv_at hl 0 rfl) ?_
        refine va_get (v := .int ln) (D := D) (ci := 6) (C := RX6) (T := TX6) (N := 7) hx hb hts in_X6 hown hK hP 0 rfl rfl 1 (by decide) (hts _ kl_RX6_15) (fun _ h9 => h9) rfl dX6_readText_117 ?_
        refine lv_icmp_ge (tgt := 132) hx hb dX6_readText_120 (by decide) (fun hc_57 => ?_) (fun hc_57 => ?_)
        · exact W.vret hx hb hr (fun t ht hW => ⟨⟨(ws_37, (rp_sk b ln pl1_38), ws1_39, er1_40, ep1_41, cnt1_42, nc_6, np_7, nf1_43), rfl, ⟨hT, rp_e1n hex_2.2.1 (by omega) rfl hso_47 hc_56⟩, by rw [ht]; exact hP, by rw [hAe]; exact hD⟩, hS.F ht⟩) hS.2.2 dX6_readText_132
        · refine lv_aload_n hx hb dX6_readText_123 rfl (lv_at hl 0 rfl) ?_
          refine lv_iconst (v := 1) hx hb dX6_readText_124 (by decide) ?_
          refine lv_aload_n hx hb dX6_readText_125 rfl (lv_at hl 0 rfl) ?_
          refine va_get (v := .int (rp_sk b ln pl1_38)) (D := D) (ci := 6) (C := RX6) (T := TX6) (N := 7) hx hb hts in_X6 hown hK hP 0 rfl rfl 3 (by decide) (hts _ kl_RX6_65) (fun _ h9 => h9) rfl dX6_readText_126 ?_
          have hP : va_P D vwCl ([(rf_RW ct 0 bt 800 b), (ty_RD rd bt ln tg (rp_sk b ln pl1_38) ws1_39 er1_40 ep1_41)] ++ ws_37) H := ty_permP hP (ty_ordp (E := [(ty_RD rd bt ln tg (rp_sk b ln pl1_38) ws1_39 er1_40 ep1_41), (rf_RW ct 0 bt 800 b)]) (E2 := [(rf_RW ct 0 bt 800 b), (ty_RD rd bt ln tg (rp_sk b ln pl1_38) ws1_39 er1_40 ep1_41)]) (n := 2) [1, 0] rfl rfl (by decide))
          have hD : va_D A ([(rf_RW ct 0 bt 800 b), (ty_RD rd bt ln tg (rp_sk b ln pl1_38) ws1_39 er1_40 ep1_41)] ++ ws_37) := ty_permD hD (ty_ordp (E := [(ty_RD rd bt ln tg (rp_sk b ln pl1_38) ws1_39 er1_40 ep1_41), (rf_RW ct 0 bt 800 b)]) (E2 := [(rf_RW ct 0 bt 800 b), (ty_RD rd bt ln tg (rp_sk b ln pl1_38) ws1_39 er1_40 ep1_41)]) (n := 2) [1, 0] rfl rfl (by decide))
          have hP : va_P D vwCl (([(rf_RW ct 0 bt 800 b)] ++ ws_37) ++ ([(ty_RD rd bt ln tg (rp_sk b ln pl1_38) ws1_39 er1_40 ep1_41)] ++ ([] : va_W))) H := ty_permP (w1 := (([(rf_RW ct 0 bt 800 b)] ++ [(ty_RD rd bt ln tg (rp_sk b ln pl1_38) ws1_39 er1_40 ep1_41)]) ++ ws_37)) hP ty_mv2
          have hD : va_D A (([(rf_RW ct 0 bt 800 b)] ++ ws_37) ++ ([(ty_RD rd bt ln tg (rp_sk b ln pl1_38) ws1_39 er1_40 ep1_41)] ++ ([] : va_W))) := ty_permD (w1 := (([(rf_RW ct 0 bt 800 b)] ++ [(ty_RD rd bt ln tg (rp_sk b ln pl1_38) ws1_39 er1_40 ep1_41)]) ++ ws_37)) hD ty_mv2
          refine ty_kv (wr := ([(rf_RW ct 0 bt 800 b)] ++ ws_37)) (wc := ([(ty_RD rd bt ln tg (rp_sk b ln pl1_38) ws1_39 er1_40 ep1_41)] ++ ([] : va_W))) (va_runV (As := [.int 1, .int (rp_sk b ln pl1_38)]) (rest := []) ⟨hx, hb, hml, hown, hts⟩ (r_fail l D ct (fun _ => none) [] (fun _ => True) (fun _ _ _ => True) rd bt tg ln (rp_sk b ln pl1_38) ws1_39 er1_40 ep1_41 (1 : Int32) (rp_sk b ln pl1_38) _ ty_V0 ty_C0 ty_y10 (by decide)) (cm_V 2 hts kc_X6_fail ki_RX6 kl_RX6_68 kv_X6_fail kx_X6_fail kd_X6_fail ⟨Nat.le_of_ble_eq_true rfl, Nat.le_of_ble_eq_true rfl⟩) (ty_preE (wr := ([(rf_RW ct 0 bt 800 b)] ++ ws_37)) (wc := ([(ty_RD rd bt ln tg (rp_sk b ln pl1_38) ws1_39 er1_40 ep1_41)] ++ ([] : va_W))) (ci := 6) (q0 := (([(rf_RW ct 0 bt 800 b)] ++ ws_37) : va_W).length + 0) hP hK hD hS hA hX rfl (ty_app rfl)) rfl rfl hl.1 rfl (lv_room (Nat.le_of_ble_eq_true rfl)) dX6_readText_129 ⟨Nat.le_of_ble_eq_true rfl, Nat.le_of_ble_eq_true rfl⟩) hP hD hS hA (fun u H locs hw_59 hP hD hS => ?_)
          obtain ⟨ws_60, er1_61, ep1_62⟩ := u
          obtain ⟨hT9_63, hp_64⟩ := hw_59
          have hp_64 : rp_o er1_40 ep1_41 er1_61 ep1_62 (1 : Int32) (rp_sk b ln pl1_38) True := hp_64
          have hP : va_P D vwCl ([(rf_RW ct 0 bt 800 b), (ty_RD rd bt ln tg (rp_sk b ln pl1_38) ws1_39 er1_61 ep1_62)] ++ ws_37) H := ty_bkP hP
          have hD : va_D A ([(rf_RW ct 0 bt 800 b), (ty_RD rd bt ln tg (rp_sk b ln pl1_38) ws1_39 er1_61 ep1_62)] ++ ws_37) := ty_bkD hD
          have hP : va_P D vwCl ([(ty_RD rd bt ln tg (rp_sk b ln pl1_38) ws1_39 er1_61 ep1_62), (rf_RW ct 0 bt 800 b)] ++ ws_37) H := ty_permP hP (ty_ordp (E := [(rf_RW ct 0 bt 800 b), (ty_RD rd bt ln tg (rp_sk b ln pl1_38) ws1_39 er1_61 ep1_62)]) (E2 := [(ty_RD rd bt ln tg (rp_sk b ln pl1_38) ws1_39 er1_61 ep1_62), (rf_RW ct 0 bt 800 b)]) (n := 2) [1, 0] rfl rfl (by decide))
          have hD : va_D A ([(ty_RD rd bt ln tg (rp_sk b ln pl1_38) ws1_39 er1_61 ep1_62), (rf_RW ct 0 bt 800 b)] ++ ws_37) := ty_permD hD (ty_ordp (E := [(rf_RW ct 0 bt 800 b), (ty_RD rd bt ln tg (rp_sk b ln pl1_38) ws1_39 er1_61 ep1_62)]) (E2 := [(ty_RD rd bt ln tg (rp_sk b ln pl1_38) ws1_39 er1_61 ep1_62), (rf_RW ct 0 bt 800 b)]) (n := 2) [1, 0] rfl rfl (by decide))
          exact W.vret hx hb hr (fun t ht hW => ⟨⟨(ws_37, (rp_sk b ln pl1_38), ws1_39, er1_61, ep1_62, cnt1_42, nc_6, np_7, nf1_43), rfl, ⟨hT, rp_e1 hex_2.2.1 (by omega) rfl hso_47 hc_56 hp_64⟩, by rw [ht]; exact hP, by rw [hAe]; exact hD⟩, hS.F ht⟩) hS.2.2 dX6_readText_132
      · subst hc_56
        refine lv_aload_n hx hb dX6_readText_84 rfl (lv_at hl 0 rfl) ?_
        have hP : va_P D vwCl (([] ++ ws_37) ++ ([(ty_RD rd bt ln tg (rp_sk b ln pl1_38) ws1_39 (0) ep1_41), (rf_RW ct 0 bt 800 b)] ++ ([] : va_W))) H := ty_permP (w1 := (([] ++ [(ty_RD rd bt ln tg (rp_sk b ln pl1_38) ws1_39 (0) ep1_41), (rf_RW ct 0 bt 800 b)]) ++ ws_37)) hP ty_mv2
        have hD : va_D A (([] ++ ws_37) ++ ([(ty_RD rd bt ln tg (rp_sk b ln pl1_38) ws1_39 (0) ep1_41), (rf_RW ct 0 bt 800 b)] ++ ([] : va_W))) := ty_permD (w1 := (([] ++ [(ty_RD rd bt ln tg (rp_sk b ln pl1_38) ws1_39 (0) ep1_41), (rf_RW ct 0 bt 800 b)]) ++ ws_37)) hD ty_mv2
        refine ty_ki (wr := ([] ++ ws_37)) (wc := ([(ty_RD rd bt ln tg (rp_sk b ln pl1_38) ws1_39 (0) ep1_41), (rf_RW ct 0 bt 800 b)] ++ ([] : va_W))) (va_runV (As := []) (rest := []) ⟨hx, hb, hml, hown, hts⟩ (r_next l D ct (fun _ => none) [] (fun _ => True) (fun _ _ _ => True) rd bt tg ln (rp_sk b ln pl1_38) ws1_39 (0 : Int32) ep1_41 b _ ty_V0 ty_C0 ty_y10 hln (by omega)) (cm_V 0 hts kc_X6_next ki_RX6 kl_RX6_61 kv_X6_next kx_X6_next kd_X6_next ⟨Nat.le_of_ble_eq_true rfl, Nat.le_of_ble_eq_true rfl⟩) (ty_preE (wr := ([] ++ ws_37)) (wc := ([(ty_RD rd bt ln tg (rp_sk b ln pl1_38) ws1_39 (0) ep1_41), (rf_RW ct 0 bt 800 b)] ++ ([] : va_W))) (ci := 6) (q0 := (([] ++ ws_37) : va_W).length + 0) hP hK hD hS hA hX rfl (ty_app rfl)) rfl rfl hl.1 rfl (lv_room (Nat.le_of_ble_eq_true rfl)) dX6_readText_85 ⟨Nat.le_of_ble_eq_true rfl, Nat.le_of_ble_eq_true rfl⟩) hP hD hS hA (fun r_65 u H locs hw_66 hP hD hS => ?_)
        obtain ⟨ws_67, rfl⟩ : ∃ z, z = u := ⟨_, rfl⟩
        obtain ⟨hT9_68, rfl⟩ := hw_66
        have hP : va_P D vwCl ([(ty_RD rd bt ln tg (rp_sk b ln pl1_38) ws1_39 (0) ep1_41), (rf_RW ct 0 bt 800 b)] ++ ws_37) H := ty_bkP hP
        have hD : va_D A ([(ty_RD rd bt ln tg (rp_sk b ln pl1_38) ws1_39 (0) ep1_41), (rf_RW ct 0 bt 800 b)] ++ ws_37) := ty_bkD hD
        refine lv_bipush (v := 59) hx hb dX6_readText_88 (by decide) ?_
        refine lv_icmp_eq (tgt := 96) hx hb dX6_readText_90 (by decide) (fun hc_69 => ?_) (fun hc_69 => ?_)
        · refine lv_aload_n hx hb dX6_readText_96 rfl (lv_at hl 0 rfl) ?_
          refine lv_dup hx hb dX6_readText_97 rfl ?_
          refine va_get (v := .int (rp_sk b ln pl1_38)) (D := D) (ci := 6) (C := RX6) (T := TX6) (N := 7) hx hb hts in_X6 hown hK hP 0 rfl rfl 3 (by decide) (hts _ kl_RX6_65) (fun _ h9 => h9) rfl dX6_readText_98 ?_
          refine lv_iconst (v := 1) hx hb dX6_readText_101 (by decide) ?_
          refine lv_iadd hx hb dX6_readText_102 ?_
          refine va_put (v := .int ((rp_sk b ln pl1_38) + 1)) (ty := .int) (D := D) (ci := 6) (C := RX6) (T := TX6) (N := 7) hx hb hts in_X6 tyX6 tyX6_ok nmX6 hown hK hP hD hS 0 rfl rfl 3 (by decide) (hts _ kl_RX6_65) (fun _ h9 => h9) rfl (by decide +kernel) rfl rfl (Nat.le_of_ble_eq_true rfl) dX6_readText_103 (fun H locs hP hD hS => ?_)
          have hP : va_P D vwCl ([(ty_RD rd bt ln tg ((rp_sk b ln pl1_38) + 1) ws1_39 (0) ep1_41), (rf_RW ct 0 bt 800 b)] ++ ws_37) H := hP
          have hD : va_D A ([(ty_RD rd bt ln tg ((rp_sk b ln pl1_38) + 1) ws1_39 (0) ep1_41), (rf_RW ct 0 bt 800 b)] ++ ws_37) := hD
          refine lv_iinc (v := (y_1 + Int32.ofInt 1)) (lv' := [(1, .int (y_1 + Int32.ofInt 1)), (0, .ref rd)]) hx hb dX6_readText_106 hl (k := 1) rfl rfl (by decide) rfl (fun ls hl => ?_)
          refine lv_goto (tgt := 2) hx hb dX6_readText_109 (by decide) ?_
          exact ih_2 _ _ _ _ (ty_inc (N := 801) (by rw [Int32.lt_iff_toInt_lt, show (801 : Int32).toInt = 801 from by decide]; omega)) ⟨ws_37, (y_1 + Int32.ofInt 1), ((rp_sk b ln pl1_38) + 1), ws1_39, ep1_41, cnt1_42, nc_6, np_7, nf1_43, (N_9 ++ [rp_w b ln (rp_q2 b ln (rp_sk b ln y_2))]), rfl, hT, hP, hD, hS, (lv_sub hl [1, 0] rfl), rp_xn hex_2.2.1 hln.2 (by omega) rfl hso_47 hc_69⟩
        · refine lv_goto (tgt := 112) hx hb dX6_readText_93 (by decide) ?_
          refine lv_aload_n hx hb dX6_readText_112 rfl (lv_at hl 0 rfl) ?_
          refine va_get (v := .int (rp_sk b ln pl1_38)) (D := D) (ci := 6) (C := RX6) (T := TX6) (N := 7) hx hb hts in_X6 hown hK hP 0 rfl rfl 3 (by decide) (hts _ kl_RX6_65) (fun _ h9 => h9) rfl dX6_readText_113 ?_
          refine lv_aload_n hx hb dX6_readText_116 rfl (lv_at hl 0 rfl) ?_
          refine va_get (v := .int ln) (D := D) (ci := 6) (C := RX6) (T := TX6) (N := 7) hx hb hts in_X6 hown hK hP 0 rfl rfl 1 (by decide) (hts _ kl_RX6_15) (fun _ h9 => h9) rfl dX6_readText_117 ?_
          refine lv_icmp_ge (tgt := 132) hx hb dX6_readText_120 (by decide) (fun hc_70 => ?_) (fun hc_70 => ?_)
          · exact W.vret hx hb hr (fun t ht hW => ⟨⟨(ws_37, (rp_sk b ln pl1_38), ws1_39, (0 : Int32), ep1_41, cnt1_42, nc_6, np_7, nf1_43), rfl, ⟨hT, rp_e3 hex_2.2.1 (by omega) rfl hso_47 hc_69 hc_70⟩, by rw [ht]; exact hP, by rw [hAe]; exact hD⟩, hS.F ht⟩) hS.2.2 dX6_readText_132
          · refine lv_aload_n hx hb dX6_readText_123 rfl (lv_at hl 0 rfl) ?_
            refine lv_iconst (v := 1) hx hb dX6_readText_124 (by decide) ?_
            refine lv_aload_n hx hb dX6_readText_125 rfl (lv_at hl 0 rfl) ?_
            refine va_get (v := .int (rp_sk b ln pl1_38)) (D := D) (ci := 6) (C := RX6) (T := TX6) (N := 7) hx hb hts in_X6 hown hK hP 0 rfl rfl 3 (by decide) (hts _ kl_RX6_65) (fun _ h9 => h9) rfl dX6_readText_126 ?_
            have hP : va_P D vwCl ([(rf_RW ct 0 bt 800 b), (ty_RD rd bt ln tg (rp_sk b ln pl1_38) ws1_39 (0) ep1_41)] ++ ws_37) H := ty_permP hP (ty_ordp (E := [(ty_RD rd bt ln tg (rp_sk b ln pl1_38) ws1_39 (0) ep1_41), (rf_RW ct 0 bt 800 b)]) (E2 := [(rf_RW ct 0 bt 800 b), (ty_RD rd bt ln tg (rp_sk b ln pl1_38) ws1_39 (0) ep1_41)]) (n := 2) [1, 0] rfl rfl (by decide))
            have hD : va_D A ([(rf_RW ct 0 bt 800 b), (ty_RD rd bt ln tg (rp_sk b ln pl1_38) ws1_39 (0) ep1_41)] ++ ws_37) := ty_permD hD (ty_ordp (E := [(ty_RD rd bt ln tg (rp_sk b ln pl1_38) ws1_39 (0) ep1_41), (rf_RW ct 0 bt 800 b)]) (E2 := [(rf_RW ct 0 bt 800 b), (ty_RD rd bt ln tg (rp_sk b ln pl1_38) ws1_39 (0) ep1_41)]) (n := 2) [1, 0] rfl rfl (by decide))
            have hP : va_P D vwCl (([(rf_RW ct 0 bt 800 b)] ++ ws_37) ++ ([(ty_RD rd bt ln tg (rp_sk b ln pl1_38) ws1_39 (0) ep1_41)] ++ ([] : va_W))) H := ty_permP (w1 := (([(rf_RW ct 0 bt 800 b)] ++ [(ty_RD rd bt ln tg (rp_sk b ln pl1_38) ws1_39 (0) ep1_41)]) ++ ws_37)) hP ty_mv2
            have hD : va_D A (([(rf_RW ct 0 bt 800 b)] ++ ws_37) ++ ([(ty_RD rd bt ln tg (rp_sk b ln pl1_38) ws1_39 (0) ep1_41)] ++ ([] : va_W))) := ty_permD (w1 := (([(rf_RW ct 0 bt 800 b)] ++ [(ty_RD rd bt ln tg (rp_sk b ln pl1_38) ws1_39 (0) ep1_41)]) ++ ws_37)) hD ty_mv2
            refine ty_kv (wr := ([(rf_RW ct 0 bt 800 b)] ++ ws_37)) (wc := ([(ty_RD rd bt ln tg (rp_sk b ln pl1_38) ws1_39 (0) ep1_41)] ++ ([] : va_W))) (va_runV (As := [.int 1, .int (rp_sk b ln pl1_38)]) (rest := []) ⟨hx, hb, hml, hown, hts⟩ (r_fail l D ct (fun _ => none) [] (fun _ => True) (fun _ _ _ => True) rd bt tg ln (rp_sk b ln pl1_38) ws1_39 (0 : Int32) ep1_41 (1 : Int32) (rp_sk b ln pl1_38) _ ty_V0 ty_C0 ty_y10 (by decide)) (cm_V 2 hts kc_X6_fail ki_RX6 kl_RX6_68 kv_X6_fail kx_X6_fail kd_X6_fail ⟨Nat.le_of_ble_eq_true rfl, Nat.le_of_ble_eq_true rfl⟩) (ty_preE (wr := ([(rf_RW ct 0 bt 800 b)] ++ ws_37)) (wc := ([(ty_RD rd bt ln tg (rp_sk b ln pl1_38) ws1_39 (0) ep1_41)] ++ ([] : va_W))) (ci := 6) (q0 := (([(rf_RW ct 0 bt 800 b)] ++ ws_37) : va_W).length + 0) hP hK hD hS hA hX rfl (ty_app rfl)) rfl rfl hl.1 rfl (lv_room (Nat.le_of_ble_eq_true rfl)) dX6_readText_129 ⟨Nat.le_of_ble_eq_true rfl, Nat.le_of_ble_eq_true rfl⟩) hP hD hS hA (fun u H locs hw_72 hP hD hS => ?_)
            obtain ⟨ws_73, er1_74, ep1_75⟩ := u
            obtain ⟨hT9_76, hp_77⟩ := hw_72
            have hp_77 : rp_o (0 : Int32) ep1_41 er1_74 ep1_75 (1 : Int32) (rp_sk b ln pl1_38) True := hp_77
            have hP : va_P D vwCl ([(rf_RW ct 0 bt 800 b), (ty_RD rd bt ln tg (rp_sk b ln pl1_38) ws1_39 er1_74 ep1_75)] ++ ws_37) H := ty_bkP hP
            have hD : va_D A ([(rf_RW ct 0 bt 800 b), (ty_RD rd bt ln tg (rp_sk b ln pl1_38) ws1_39 er1_74 ep1_75)] ++ ws_37) := ty_bkD hD
            have hP : va_P D vwCl ([(ty_RD rd bt ln tg (rp_sk b ln pl1_38) ws1_39 er1_74 ep1_75), (rf_RW ct 0 bt 800 b)] ++ ws_37) H := ty_permP hP (ty_ordp (E := [(rf_RW ct 0 bt 800 b), (ty_RD rd bt ln tg (rp_sk b ln pl1_38) ws1_39 er1_74 ep1_75)]) (E2 := [(ty_RD rd bt ln tg (rp_sk b ln pl1_38) ws1_39 er1_74 ep1_75), (rf_RW ct 0 bt 800 b)]) (n := 2) [1, 0] rfl rfl (by decide))
            have hD : va_D A ([(ty_RD rd bt ln tg (rp_sk b ln pl1_38) ws1_39 er1_74 ep1_75), (rf_RW ct 0 bt 800 b)] ++ ws_37) := ty_permD hD (ty_ordp (E := [(rf_RW ct 0 bt 800 b), (ty_RD rd bt ln tg (rp_sk b ln pl1_38) ws1_39 er1_74 ep1_75)]) (E2 := [(ty_RD rd bt ln tg (rp_sk b ln pl1_38) ws1_39 er1_74 ep1_75), (rf_RW ct 0 bt 800 b)]) (n := 2) [1, 0] rfl rfl (by decide))
            exact W.vret hx hb hr (fun t ht hW => ⟨⟨(ws_37, (rp_sk b ln pl1_38), ws1_39, er1_74, ep1_75, cnt1_42, nc_6, np_7, nf1_43), rfl, ⟨hT, rp_e2 hex_2.2.1 (by omega) rfl hso_47 hc_69 hby (by omega) hc_70 hp_77⟩, by rw [ht]; exact hP, by rw [hAe]; exact hD⟩, hS.F ht⟩) hS.2.2 dX6_readText_132
    · refine lv_if_eq (tgt := 30) hx hb dX6_readText_20 (by decide) (fun _ => ?_) (fun hc => absurd (by decide) hc)
      refine lv_aload_n hx hb dX6_readText_30 rfl (lv_at hl 0 rfl) ?_
      obtain ⟨sa_78, sv_79, hsr_80, hss_81⟩ := hX.2.2.2.1 ("CellCycler$Reader", 35, "cell", [99, 101, 108, 108]) (by decide +kernel)
      refine va_ldcS hx hb hown hsr_80 dX6_readText_31 ?_
      have hP : va_P D vwCl (([] ++ ws) ++ ([(ty_RD rd bt ln tg (rp_we b ln (rp_sk b ln y_2)) (rp_sk b ln y_2) er1_16 ep1_17), (rf_RW ct 0 bt 800 b)] ++ ([] : va_W))) H := ty_permP (w1 := (([] ++ [(ty_RD rd bt ln tg (rp_we b ln (rp_sk b ln y_2)) (rp_sk b ln y_2) er1_16 ep1_17), (rf_RW ct 0 bt 800 b)]) ++ ws)) hP ty_mv2
      have hD : va_D A (([] ++ ws) ++ ([(ty_RD rd bt ln tg (rp_we b ln (rp_sk b ln y_2)) (rp_sk b ln y_2) er1_16 ep1_17), (rf_RW ct 0 bt 800 b)] ++ ([] : va_W))) := ty_permD (w1 := (([] ++ [(ty_RD rd bt ln tg (rp_we b ln (rp_sk b ln y_2)) (rp_sk b ln y_2) er1_16 ep1_17), (rf_RW ct 0 bt 800 b)]) ++ ws)) hD ty_mv2
      refine ty_ki (wr := ([] ++ ws)) (wc := ([(ty_RD rd bt ln tg (rp_we b ln (rp_sk b ln y_2)) (rp_sk b ln y_2) er1_16 ep1_17), (rf_RW ct 0 bt 800 b)] ++ ([] : va_W))) (va_runV (As := [.ref sa_78]) (rest := []) ⟨hx, hb, hml, hown, hts⟩ (r_wordIs l D ct (fun _ => none) [] (fun _ => True) (fun _ _ _ => True) rd bt tg ln (rp_we b ln (rp_sk b ln y_2)) (rp_sk b ln y_2) er1_16 ep1_17 b sa_78 ("CellCycler$Reader", 35, "cell", [99, 101, 108, 108]) _ ty_V0 ty_C0 ty_y10 hln (by omega) (by omega) (by decide +kernel)) (cm_V 1 hts kc_X6_wordIs ki_RX6 kl_RX6_28 kv_X6_wordIs kx_X6_wordIs kd_X6_wordIs ⟨Nat.le_of_ble_eq_true rfl, Nat.le_of_ble_eq_true rfl⟩) (cm_preVs (ty_preE (wr := ([] ++ ws)) (wc := ([(ty_RD rd bt ln tg (rp_we b ln (rp_sk b ln y_2)) (rp_sk b ln y_2) er1_16 ep1_17), (rf_RW ct 0 bt 800 b)] ++ ([] : va_W))) (ci := 6) (q0 := (([] ++ ws) : va_W).length + 0) hP hK hD hS hA hX rfl (ty_app rfl)) hsr_80) rfl rfl hl.1 rfl (lv_room (Nat.le_of_ble_eq_true rfl)) dX6_readText_33 ⟨Nat.le_of_ble_eq_true rfl, Nat.le_of_ble_eq_true rfl⟩) hP hD hS hA (fun r_82 u H locs hw_83 hP hD hS => ?_)
      obtain ⟨ws_84, rfl⟩ : ∃ z, z = u := ⟨_, rfl⟩
      obtain ⟨hT9_85, hp_86⟩ := hw_83
      have hp_86 : ((r_82 = 1 ∧ rp_wd b (rp_sk b ln y_2) (rp_we b ln (rp_sk b ln y_2)) = ("CellCycler$Reader", 35, "cell", [99, 101, 108, 108]).2.2.2) ∨ (r_82 = 0 ∧ ¬ rp_wd b (rp_sk b ln y_2) (rp_we b ln (rp_sk b ln y_2)) = ("CellCycler$Reader", 35, "cell", [99, 101, 108, 108]).2.2.2)) := hp_86
      have hP : va_P D vwCl ([(ty_RD rd bt ln tg (rp_we b ln (rp_sk b ln y_2)) (rp_sk b ln y_2) er1_16 ep1_17), (rf_RW ct 0 bt 800 b)] ++ ws) H := ty_bkP hP
      have hD : va_D A ([(ty_RD rd bt ln tg (rp_we b ln (rp_sk b ln y_2)) (rp_sk b ln y_2) er1_16 ep1_17), (rf_RW ct 0 bt 800 b)] ++ ws) := ty_bkD hD
      rcases hp_86 with ⟨rfl, hz_87⟩ | ⟨rfl, hz_88⟩
      · refine lv_if_eq (tgt := 46) hx hb dX6_readText_36 (by decide) (fun hc => absurd hc (by decide)) (fun _ => ?_)
        obtain ⟨hke_90, hkp_91⟩ := rp_wk0 rfl ho_20 (rp_wl hQ hz_87)
        subst hke_90
        refine lv_aload_n hx hb dX6_readText_39 rfl (lv_at hl 0 rfl) ?_
        refine ty_kv (wr := []) (wc := ([(ty_RD rd bt ln tg (rp_we b ln (rp_sk b ln y_2)) (rp_sk b ln y_2) (0) ep1_17), (rf_RW ct 0 bt 800 b)] ++ ws)) (va_runV (As := []) (rest := []) ⟨hx, hb, hml, hown, hts⟩ (r_readCell l D ct S ws rd bt tg ln (rp_we b ln (rp_sk b ln y_2)) (rp_sk b ln y_2) (0 : Int32) ep1_17 b cu na pr ch cnt_5 nc_6 np_7 nf_8 N_9 _ hT h_tg h_cu h_na h_ch hln (by omega) rfl (by omega) rfl hex_2.2.2.1 hex_2.2.2.2.1) (cm_V 0 hts kc_X6_readCell ki_RX6 kl_RX6_37 kv_X6_readCell kx_X6_readCell kd_X6_readCell ⟨Nat.le_of_ble_eq_true rfl, Nat.le_of_ble_eq_true rfl⟩) (ty_preE (wr := []) (wc := ([(ty_RD rd bt ln tg (rp_we b ln (rp_sk b ln y_2)) (rp_sk b ln y_2) (0) ep1_17), (rf_RW ct 0 bt 800 b)] ++ ws)) (ci := 6) (q0 := 0) hP hK hD hS hA hX rfl rfl) rfl rfl hl.1 rfl (lv_room (Nat.le_of_ble_eq_true rfl)) dX6_readText_40 ⟨Nat.le_of_ble_eq_true rfl, Nat.le_of_ble_eq_true rfl⟩) hP hD hS hA (fun u H locs hw_93 hP hD hS => ?_)
        obtain ⟨ws_94, pl1_95, ws1_96, er1_97, ep1_98, nc1_99⟩ := u
        obtain ⟨hT, hp_100⟩ := hw_93
        have hp_100 : (0 ≤ pl1_95.toInt ∧ pl1_95.toInt ≤ ln.toInt) ∧ rp_o (0 : Int32) ep1_17 er1_97 ep1_98 (rp_lk b ln N_9 nc_6.toInt (rp_sk b ln y_2)) (rp_lp b ln N_9 nc_6.toInt (rp_sk b ln y_2)) (nc1_99 = nc_6 + 1 ∧ rp_sk b ln pl1_95 = rp_sk b ln (rp_lp b ln N_9 nc_6.toInt (rp_sk b ln y_2))) := hp_100
        have hP : va_P D vwCl ([(ty_RD rd bt ln tg pl1_95 ws1_96 er1_97 ep1_98), (rf_RW ct 0 bt 800 b)] ++ ws_94) H := hP
        have hD : va_D A ([(ty_RD rd bt ln tg pl1_95 ws1_96 er1_97 ep1_98), (rf_RW ct 0 bt 800 b)] ++ ws_94) := hD
        obtain ⟨hb_101, ho_102⟩ := hp_100
        rw [hkp_91] at ho_102
        have hso_103 := rp_s2 (show rp_wh b ln (rp_sk b ln y_2) = 2 from ((if_neg hz_31).trans (if_pos hz_87))) hex_2.2.2.1 hex_2.2.2.2.1 hex_2.2.2.2.2 ho_102
        refine lv_goto (tgt := 73) hx hb dX6_readText_43 (by decide) ?_
        refine lv_aload_n hx hb dX6_readText_73 rfl (lv_at hl 0 rfl) ?_
        have hP : va_P D vwCl (([] ++ ws_94) ++ ([(ty_RD rd bt ln tg pl1_95 ws1_96 er1_97 ep1_98), (rf_RW ct 0 bt 800 b)] ++ ([] : va_W))) H := ty_permP (w1 := (([] ++ [(ty_RD rd bt ln tg pl1_95 ws1_96 er1_97 ep1_98), (rf_RW ct 0 bt 800 b)]) ++ ws_94)) hP ty_mv2
        have hD : va_D A (([] ++ ws_94) ++ ([(ty_RD rd bt ln tg pl1_95 ws1_96 er1_97 ep1_98), (rf_RW ct 0 bt 800 b)] ++ ([] : va_W))) := ty_permD (w1 := (([] ++ [(ty_RD rd bt ln tg pl1_95 ws1_96 er1_97 ep1_98), (rf_RW ct 0 bt 800 b)]) ++ ws_94)) hD ty_mv2
        refine ty_kv (wr := ([] ++ ws_94)) (wc := ([(ty_RD rd bt ln tg pl1_95 ws1_96 er1_97 ep1_98), (rf_RW ct 0 bt 800 b)] ++ ([] : va_W))) (va_runV (As := []) (rest := []) ⟨hx, hb, hml, hown, hts⟩ (r_skip l D ct (fun _ => none) [] (fun _ => True) (fun _ _ _ => True) rd bt tg ln pl1_95 ws1_96 er1_97 ep1_98 b _ ty_V0 ty_C0 ty_y10 hln hb_101) (cm_V 0 hts kc_X6_skipSpaces ki_RX6 kl_RX6_55 kv_X6_skipSpaces kx_X6_skipSpaces kd_X6_skipSpaces ⟨Nat.le_of_ble_eq_true rfl, Nat.le_of_ble_eq_true rfl⟩) (ty_preE (wr := ([] ++ ws_94)) (wc := ([(ty_RD rd bt ln tg pl1_95 ws1_96 er1_97 ep1_98), (rf_RW ct 0 bt 800 b)] ++ ([] : va_W))) (ci := 6) (q0 := (([] ++ ws_94) : va_W).length + 0) hP hK hD hS hA hX rfl (ty_app rfl)) rfl rfl hl.1 rfl (lv_room (Nat.le_of_ble_eq_true rfl)) dX6_readText_74 ⟨Nat.le_of_ble_eq_true rfl, Nat.le_of_ble_eq_true rfl⟩) hP hD hS hA (fun u H locs hw_105 hP hD hS => ?_)
        obtain ⟨ws_106, pl1_107⟩ := u
        obtain ⟨hT9_108, hp_109⟩ := hw_105
        have hp_109 : pl1_107 = (rp_sk b ln pl1_95) := hp_109
        have hP : va_P D vwCl ([(ty_RD rd bt ln tg pl1_107 ws1_96 er1_97 ep1_98), (rf_RW ct 0 bt 800 b)] ++ ws_94) H := ty_bkP hP
        have hD : va_D A ([(ty_RD rd bt ln tg pl1_107 ws1_96 er1_97 ep1_98), (rf_RW ct 0 bt 800 b)] ++ ws_94) := ty_bkD hD
        obtain rfl := hp_109
        have hs_111 := rp_sk_b (b := b) (p := pl1_95) hln.2 hb_101
        refine lv_aload_n hx hb dX6_readText_77 rfl (lv_at hl 0 rfl) ?_
        refine va_get (v := .int er1_97) (D := D) (ci := 6) (C := RX6) (T := TX6) (N := 7) hx hb hts in_X6 hown hK hP 0 rfl rfl 5 (by decide) (hts _ kl_RX6_58) (fun _ h9 => h9) rfl dX6_readText_78 ?_
        refine lv_if_ne (tgt := 112) hx hb dX6_readText_81 (by decide) (fun hc_112 => ?_) (fun hc_112 => ?_)
        · refine lv_aload_n hx hb dX6_readText_112 rfl (lv_at hl 0 rfl) ?_
          refine va_get (v := .int (rp_sk b ln pl1_95)) (D := D) (ci := 6) (C := RX6) (T := TX6) (N := 7) hx hb hts in_X6 hown hK hP 0 rfl rfl 3 (by decide) (hts _ kl_RX6_65) (fun _ h9 => h9) rfl dX6_readText_113 ?_
          refine lv_aload_n hx hb dX6_readText_116 rfl (lv_at hl 0 rfl) ?_
          refine va_get (v := .int ln) (D := D) (ci := 6) (C := RX6) (T := TX6) (N := 7) hx hb hts in_X6 hown hK hP 0 rfl rfl 1 (by decide) (hts _ kl_RX6_15) (fun _ h9 => h9) rfl dX6_readText_117 ?_
          refine lv_icmp_ge (tgt := 132) hx hb dX6_readText_120 (by decide) (fun hc_113 => ?_) (fun hc_113 => ?_)
          · exact W.vret hx hb hr (fun t ht hW => ⟨⟨(ws_94, (rp_sk b ln pl1_95), ws1_96, er1_97, ep1_98, cnt_5, nc1_99, np_7, nf_8), rfl, ⟨hT, rp_e1n hex_2.2.1 (by omega) rfl hso_103 hc_112⟩, by rw [ht]; exact hP, by rw [hAe]; exact hD⟩, hS.F ht⟩) hS.2.2 dX6_readText_132
          · refine lv_aload_n hx hb dX6_readText_123 rfl (lv_at hl 0 rfl) ?_
            refine lv_iconst (v := 1) hx hb dX6_readText_124 (by decide) ?_
            refine lv_aload_n hx hb dX6_readText_125 rfl (lv_at hl 0 rfl) ?_
            refine va_get (v := .int (rp_sk b ln pl1_95)) (D := D) (ci := 6) (C := RX6) (T := TX6) (N := 7) hx hb hts in_X6 hown hK hP 0 rfl rfl 3 (by decide) (hts _ kl_RX6_65) (fun _ h9 => h9) rfl dX6_readText_126 ?_
            have hP : va_P D vwCl ([(rf_RW ct 0 bt 800 b), (ty_RD rd bt ln tg (rp_sk b ln pl1_95) ws1_96 er1_97 ep1_98)] ++ ws_94) H := ty_permP hP (ty_ordp (E := [(ty_RD rd bt ln tg (rp_sk b ln pl1_95) ws1_96 er1_97 ep1_98), (rf_RW ct 0 bt 800 b)]) (E2 := [(rf_RW ct 0 bt 800 b), (ty_RD rd bt ln tg (rp_sk b ln pl1_95) ws1_96 er1_97 ep1_98)]) (n := 2) [1, 0] rfl rfl (by decide))
            have hD : va_D A ([(rf_RW ct 0 bt 800 b), (ty_RD rd bt ln tg (rp_sk b ln pl1_95) ws1_96 er1_97 ep1_98)] ++ ws_94) := ty_permD hD (ty_ordp (E := [(ty_RD rd bt ln tg (rp_sk b ln pl1_95) ws1_96 er1_97 ep1_98), (rf_RW ct 0 bt 800 b)]) (E2 := [(rf_RW ct 0 bt 800 b), (ty_RD rd bt ln tg (rp_sk b ln pl1_95) ws1_96 er1_97 ep1_98)]) (n := 2) [1, 0] rfl rfl (by decide))
            have hP : va_P D vwCl (([(rf_RW ct 0 bt 800 b)] ++ ws_94) ++ ([(ty_RD rd bt ln tg (rp_sk b ln pl1_95) ws1_96 er1_97 ep1_98)] ++ ([] : va_W))) H := ty_permP (w1 := (([(rf_RW ct 0 bt 800 b)] ++ [(ty_RD rd bt ln tg (rp_sk b ln pl1_95) ws1_96 er1_97 ep1_98)]) ++ ws_94)) hP ty_mv2
            have hD : va_D A (([(rf_RW ct 0 bt 800 b)] ++ ws_94) ++ ([(ty_RD rd bt ln tg (rp_sk b ln pl1_95) ws1_96 er1_97 ep1_98)] ++ ([] : va_W))) := ty_permD (w1 := (([(rf_RW ct 0 bt 800 b)] ++ [(ty_RD rd bt ln tg (rp_sk b ln pl1_95) ws1_96 er1_97 ep1_98)]) ++ ws_94)) hD ty_mv2
            refine ty_kv (wr := ([(rf_RW ct 0 bt 800 b)] ++ ws_94)) (wc := ([(ty_RD rd bt ln tg (rp_sk b ln pl1_95) ws1_96 er1_97 ep1_98)] ++ ([] : va_W))) (va_runV (As := [.int 1, .int (rp_sk b ln pl1_95)]) (rest := []) ⟨hx, hb, hml, hown, hts⟩ (r_fail l D ct (fun _ => none) [] (fun _ => True) (fun _ _ _ => True) rd bt tg ln (rp_sk b ln pl1_95) ws1_96 er1_97 ep1_98 (1 : Int32) (rp_sk b ln pl1_95) _ ty_V0 ty_C0 ty_y10 (by decide)) (cm_V 2 hts kc_X6_fail ki_RX6 kl_RX6_68 kv_X6_fail kx_X6_fail kd_X6_fail ⟨Nat.le_of_ble_eq_true rfl, Nat.le_of_ble_eq_true rfl⟩) (ty_preE (wr := ([(rf_RW ct 0 bt 800 b)] ++ ws_94)) (wc := ([(ty_RD rd bt ln tg (rp_sk b ln pl1_95) ws1_96 er1_97 ep1_98)] ++ ([] : va_W))) (ci := 6) (q0 := (([(rf_RW ct 0 bt 800 b)] ++ ws_94) : va_W).length + 0) hP hK hD hS hA hX rfl (ty_app rfl)) rfl rfl hl.1 rfl (lv_room (Nat.le_of_ble_eq_true rfl)) dX6_readText_129 ⟨Nat.le_of_ble_eq_true rfl, Nat.le_of_ble_eq_true rfl⟩) hP hD hS hA (fun u H locs hw_115 hP hD hS => ?_)
            obtain ⟨ws_116, er1_117, ep1_118⟩ := u
            obtain ⟨hT9_119, hp_120⟩ := hw_115
            have hp_120 : rp_o er1_97 ep1_98 er1_117 ep1_118 (1 : Int32) (rp_sk b ln pl1_95) True := hp_120
            have hP : va_P D vwCl ([(rf_RW ct 0 bt 800 b), (ty_RD rd bt ln tg (rp_sk b ln pl1_95) ws1_96 er1_117 ep1_118)] ++ ws_94) H := ty_bkP hP
            have hD : va_D A ([(rf_RW ct 0 bt 800 b), (ty_RD rd bt ln tg (rp_sk b ln pl1_95) ws1_96 er1_117 ep1_118)] ++ ws_94) := ty_bkD hD
            have hP : va_P D vwCl ([(ty_RD rd bt ln tg (rp_sk b ln pl1_95) ws1_96 er1_117 ep1_118), (rf_RW ct 0 bt 800 b)] ++ ws_94) H := ty_permP hP (ty_ordp (E := [(rf_RW ct 0 bt 800 b), (ty_RD rd bt ln tg (rp_sk b ln pl1_95) ws1_96 er1_117 ep1_118)]) (E2 := [(ty_RD rd bt ln tg (rp_sk b ln pl1_95) ws1_96 er1_117 ep1_118), (rf_RW ct 0 bt 800 b)]) (n := 2) [1, 0] rfl rfl (by decide))
            have hD : va_D A ([(ty_RD rd bt ln tg (rp_sk b ln pl1_95) ws1_96 er1_117 ep1_118), (rf_RW ct 0 bt 800 b)] ++ ws_94) := ty_permD hD (ty_ordp (E := [(rf_RW ct 0 bt 800 b), (ty_RD rd bt ln tg (rp_sk b ln pl1_95) ws1_96 er1_117 ep1_118)]) (E2 := [(ty_RD rd bt ln tg (rp_sk b ln pl1_95) ws1_96 er1_117 ep1_118), (rf_RW ct 0 bt 800 b)]) (n := 2) [1, 0] rfl rfl (by decide))
            exact W.vret hx hb hr (fun t ht hW => ⟨⟨(ws_94, (rp_sk b ln pl1_95), ws1_96, er1_117, ep1_118, cnt_5, nc1_99, np_7, nf_8), rfl, ⟨hT, rp_e1 hex_2.2.1 (by omega) rfl hso_103 hc_112 hp_120⟩, by rw [ht]; exact hP, by rw [hAe]; exact hD⟩, hS.F ht⟩) hS.2.2 dX6_readText_132
        · subst hc_112
          refine lv_aload_n hx hb dX6_readText_84 rfl (lv_at hl 0 rfl) ?_
          have hP : va_P D vwCl (([] ++ ws_94) ++ ([(ty_RD rd bt ln tg (rp_sk b ln pl1_95) ws1_96 (0) ep1_98), (rf_RW ct 0 bt 800 b)] ++ ([] : va_W))) H := ty_permP (w1 := (([] ++ [(ty_RD rd bt ln tg (rp_sk b ln pl1_95) ws1_96 (0) ep1_98), (rf_RW ct 0 bt 800 b)]) ++ ws_94)) hP ty_mv2
          have hD : va_D A (([] ++ ws_94) ++ ([(ty_RD rd bt ln tg (rp_sk b ln pl1_95) ws1_96 (0) ep1_98), (rf_RW ct 0 bt 800 b)] ++ ([] : va_W))) := ty_permD (w1 := (([] ++ [(ty_RD rd bt ln tg (rp_sk b ln pl1_95) ws1_96 (0) ep1_98), (rf_RW ct 0 bt 800 b)]) ++ ws_94)) hD ty_mv2
          refine ty_ki (wr := ([] ++ ws_94)) (wc := ([(ty_RD rd bt ln tg (rp_sk b ln pl1_95) ws1_96 (0) ep1_98), (rf_RW ct 0 bt 800 b)] ++ ([] : va_W))) (va_runV (As := []) (rest := []) ⟨hx, hb, hml, hown, hts⟩ (r_next l D ct (fun _ => none) [] (fun _ => True) (fun _ _ _ => True) rd bt tg ln (rp_sk b ln pl1_95) ws1_96 (0 : Int32) ep1_98 b _ ty_V0 ty_C0 ty_y10 hln (by omega)) (cm_V 0 hts kc_X6_next ki_RX6 kl_RX6_61 kv_X6_next kx_X6_next kd_X6_next ⟨Nat.le_of_ble_eq_true rfl, Nat.le_of_ble_eq_true rfl⟩) (ty_preE (wr := ([] ++ ws_94)) (wc := ([(ty_RD rd bt ln tg (rp_sk b ln pl1_95) ws1_96 (0) ep1_98), (rf_RW ct 0 bt 800 b)] ++ ([] : va_W))) (ci := 6) (q0 := (([] ++ ws_94) : va_W).length + 0) hP hK hD hS hA hX rfl (ty_app rfl)) rfl rfl hl.1 rfl (lv_room (Nat.le_of_ble_eq_true rfl)) dX6_readText_85 ⟨Nat.le_of_ble_eq_true rfl, Nat.le_of_ble_eq_true rfl⟩) hP hD hS hA (fun r_121 u H locs hw_122 hP hD hS => ?_)
          obtain ⟨ws_123, rfl⟩ : ∃ z, z = u := ⟨_, rfl⟩
          obtain ⟨hT9_124, rfl⟩ := hw_122
          have hP : va_P D vwCl ([(ty_RD rd bt ln tg (rp_sk b ln pl1_95) ws1_96 (0) ep1_98), (rf_RW ct 0 bt 800 b)] ++ ws_94) H := ty_bkP hP
          have hD : va_D A ([(ty_RD rd bt ln tg (rp_sk b ln pl1_95) ws1_96 (0) ep1_98), (rf_RW ct 0 bt 800 b)] ++ ws_94) := ty_bkD hD
          refine lv_bipush (v := 59) hx hb dX6_readText_88 (by decide) ?_
          refine lv_icmp_eq (tgt := 96) hx hb dX6_readText_90 (by decide) (fun hc_125 => ?_) (fun hc_125 => ?_)
          · refine lv_aload_n hx hb dX6_readText_96 rfl (lv_at hl 0 rfl) ?_
            refine lv_dup hx hb dX6_readText_97 rfl ?_
            refine va_get (v := .int (rp_sk b ln pl1_95)) (D := D) (ci := 6) (C := RX6) (T := TX6) (N := 7) hx hb hts in_X6 hown hK hP 0 rfl rfl 3 (by decide) (hts _ kl_RX6_65) (fun _ h9 => h9) rfl dX6_readText_98 ?_
            refine lv_iconst (v := 1) hx hb dX6_readText_101 (by decide) ?_
            refine lv_iadd hx hb dX6_readText_102 ?_
            refine va_put (v := .int ((rp_sk b ln pl1_95) + 1)) (ty := .int) (D := D) (ci := 6) (C := RX6) (T := TX6) (N := 7) hx hb hts in_X6 tyX6 tyX6_ok nmX6 hown hK hP hD hS 0 rfl rfl 3 (by decide) (hts _ kl_RX6_65) (fun _ h9 => h9) rfl (by decide +kernel) rfl rfl (Nat.le_of_ble_eq_true rfl) dX6_readText_103 (fun H locs hP hD hS => ?_)
            have hP : va_P D vwCl ([(ty_RD rd bt ln tg ((rp_sk b ln pl1_95) + 1) ws1_96 (0) ep1_98), (rf_RW ct 0 bt 800 b)] ++ ws_94) H := hP
            have hD : va_D A ([(ty_RD rd bt ln tg ((rp_sk b ln pl1_95) + 1) ws1_96 (0) ep1_98), (rf_RW ct 0 bt 800 b)] ++ ws_94) := hD
            refine lv_iinc (v := (y_1 + Int32.ofInt 1)) (lv' := [(1, .int (y_1 + Int32.ofInt 1)), (0, .ref rd)]) hx hb dX6_readText_106 hl (k := 1) rfl rfl (by decide) rfl (fun ls hl => ?_)
            refine lv_goto (tgt := 2) hx hb dX6_readText_109 (by decide) ?_
            exact ih_2 _ _ _ _ (ty_inc (N := 801) (by rw [Int32.lt_iff_toInt_lt, show (801 : Int32).toInt = 801 from by decide]; omega)) ⟨ws_94, (y_1 + Int32.ofInt 1), ((rp_sk b ln pl1_95) + 1), ws1_96, ep1_98, cnt_5, nc1_99, np_7, nf_8, N_9, rfl, hT, hP, hD, hS, (lv_sub hl [1, 0] rfl), rp_xn hex_2.2.1 hln.2 (by omega) rfl hso_103 hc_125⟩
          · refine lv_goto (tgt := 112) hx hb dX6_readText_93 (by decide) ?_
            refine lv_aload_n hx hb dX6_readText_112 rfl (lv_at hl 0 rfl) ?_
            refine va_get (v := .int (rp_sk b ln pl1_95)) (D := D) (ci := 6) (C := RX6) (T := TX6) (N := 7) hx hb hts in_X6 hown hK hP 0 rfl rfl 3 (by decide) (hts _ kl_RX6_65) (fun _ h9 => h9) rfl dX6_readText_113 ?_
            refine lv_aload_n hx hb dX6_readText_116 rfl (lv_at hl 0 rfl) ?_
            refine va_get (v := .int ln) (D := D) (ci := 6) (C := RX6) (T := TX6) (N := 7) hx hb hts in_X6 hown hK hP 0 rfl rfl 1 (by decide) (hts _ kl_RX6_15) (fun _ h9 => h9) rfl dX6_readText_117 ?_
            refine lv_icmp_ge (tgt := 132) hx hb dX6_readText_120 (by decide) (fun hc_126 => ?_) (fun hc_126 => ?_)
            · exact W.vret hx hb hr (fun t ht hW => ⟨⟨(ws_94, (rp_sk b ln pl1_95), ws1_96, (0 : Int32), ep1_98, cnt_5, nc1_99, np_7, nf_8), rfl, ⟨hT, rp_e3 hex_2.2.1 (by omega) rfl hso_103 hc_125 hc_126⟩, by rw [ht]; exact hP, by rw [hAe]; exact hD⟩, hS.F ht⟩) hS.2.2 dX6_readText_132
            · refine lv_aload_n hx hb dX6_readText_123 rfl (lv_at hl 0 rfl) ?_
              refine lv_iconst (v := 1) hx hb dX6_readText_124 (by decide) ?_
              refine lv_aload_n hx hb dX6_readText_125 rfl (lv_at hl 0 rfl) ?_
              refine va_get (v := .int (rp_sk b ln pl1_95)) (D := D) (ci := 6) (C := RX6) (T := TX6) (N := 7) hx hb hts in_X6 hown hK hP 0 rfl rfl 3 (by decide) (hts _ kl_RX6_65) (fun _ h9 => h9) rfl dX6_readText_126 ?_
              have hP : va_P D vwCl ([(rf_RW ct 0 bt 800 b), (ty_RD rd bt ln tg (rp_sk b ln pl1_95) ws1_96 (0) ep1_98)] ++ ws_94) H := ty_permP hP (ty_ordp (E := [(ty_RD rd bt ln tg (rp_sk b ln pl1_95) ws1_96 (0) ep1_98), (rf_RW ct 0 bt 800 b)]) (E2 := [(rf_RW ct 0 bt 800 b), (ty_RD rd bt ln tg (rp_sk b ln pl1_95) ws1_96 (0) ep1_98)]) (n := 2) [1, 0] rfl rfl (by decide))
              have hD : va_D A ([(rf_RW ct 0 bt 800 b), (ty_RD rd bt ln tg (rp_sk b ln pl1_95) ws1_96 (0) ep1_98)] ++ ws_94) := ty_permD hD (ty_ordp (E := [(ty_RD rd bt ln tg (rp_sk b ln pl1_95) ws1_96 (0) ep1_98), (rf_RW ct 0 bt 800 b)]) (E2 := [(rf_RW ct 0 bt 800 b), (ty_RD rd bt ln tg (rp_sk b ln pl1_95) ws1_96 (0) ep1_98)]) (n := 2) [1, 0] rfl rfl (by decide))
              have hP : va_P D vwCl (([(rf_RW ct 0 bt 800 b)] ++ ws_94) ++ ([(ty_RD rd bt ln tg (rp_sk b ln pl1_95) ws1_96 (0) ep1_98)] ++ ([] : va_W))) H := ty_permP (w1 := (([(rf_RW ct 0 bt 800 b)] ++ [(ty_RD rd bt ln tg (rp_sk b ln pl1_95) ws1_96 (0) ep1_98)]) ++ ws_94)) hP ty_mv2
              have hD : va_D A (([(rf_RW ct 0 bt 800 b)] ++ ws_94) ++ ([(ty_RD rd bt ln tg (rp_sk b ln pl1_95) ws1_96 (0) ep1_98)] ++ ([] : va_W))) := ty_permD (w1 := (([(rf_RW ct 0 bt 800 b)] ++ [(ty_RD rd bt ln tg (rp_sk b ln pl1_95) ws1_96 (0) ep1_98)]) ++ ws_94)) hD ty_mv2
              refine ty_kv (wr := ([(rf_RW ct 0 bt 800 b)] ++ ws_94)) (wc := ([(ty_RD rd bt ln tg (rp_sk b ln pl1_95) ws1_96 (0) ep1_98)] ++ ([] : va_W))) (va_runV (As := [.int 1, .int (rp_sk b ln pl1_95)]) (rest := []) ⟨hx, hb, hml, hown, hts⟩ (r_fail l D ct (fun _ => none) [] (fun _ => True) (fun _ _ _ => True) rd bt tg ln (rp_sk b ln pl1_95) ws1_96 (0 : Int32) ep1_98 (1 : Int32) (rp_sk b ln pl1_95) _ ty_V0 ty_C0 ty_y10 (by decide)) (cm_V 2 hts kc_X6_fail ki_RX6 kl_RX6_68 kv_X6_fail kx_X6_fail kd_X6_fail ⟨Nat.le_of_ble_eq_true rfl, Nat.le_of_ble_eq_true rfl⟩) (ty_preE (wr := ([(rf_RW ct 0 bt 800 b)] ++ ws_94)) (wc := ([(ty_RD rd bt ln tg (rp_sk b ln pl1_95) ws1_96 (0) ep1_98)] ++ ([] : va_W))) (ci := 6) (q0 := (([(rf_RW ct 0 bt 800 b)] ++ ws_94) : va_W).length + 0) hP hK hD hS hA hX rfl (ty_app rfl)) rfl rfl hl.1 rfl (lv_room (Nat.le_of_ble_eq_true rfl)) dX6_readText_129 ⟨Nat.le_of_ble_eq_true rfl, Nat.le_of_ble_eq_true rfl⟩) hP hD hS hA (fun u H locs hw_128 hP hD hS => ?_)
              obtain ⟨ws_129, er1_130, ep1_131⟩ := u
              obtain ⟨hT9_132, hp_133⟩ := hw_128
              have hp_133 : rp_o (0 : Int32) ep1_98 er1_130 ep1_131 (1 : Int32) (rp_sk b ln pl1_95) True := hp_133
              have hP : va_P D vwCl ([(rf_RW ct 0 bt 800 b), (ty_RD rd bt ln tg (rp_sk b ln pl1_95) ws1_96 er1_130 ep1_131)] ++ ws_94) H := ty_bkP hP
              have hD : va_D A ([(rf_RW ct 0 bt 800 b), (ty_RD rd bt ln tg (rp_sk b ln pl1_95) ws1_96 er1_130 ep1_131)] ++ ws_94) := ty_bkD hD
              have hP : va_P D vwCl ([(ty_RD rd bt ln tg (rp_sk b ln pl1_95) ws1_96 er1_130 ep1_131), (rf_RW ct 0 bt 800 b)] ++ ws_94) H := ty_permP hP (ty_ordp (E := [(rf_RW ct 0 bt 800 b), (ty_RD rd bt ln tg (rp_sk b ln pl1_95) ws1_96 er1_130 ep1_131)]) (E2 := [(ty_RD rd bt ln tg (rp_sk b ln pl1_95) ws1_96 er1_130 ep1_131), (rf_RW ct 0 bt 800 b)]) (n := 2) [1, 0] rfl rfl (by decide))
              have hD : va_D A ([(ty_RD rd bt ln tg (rp_sk b ln pl1_95) ws1_96 er1_130 ep1_131), (rf_RW ct 0 bt 800 b)] ++ ws_94) := ty_permD hD (ty_ordp (E := [(rf_RW ct 0 bt 800 b), (ty_RD rd bt ln tg (rp_sk b ln pl1_95) ws1_96 er1_130 ep1_131)]) (E2 := [(ty_RD rd bt ln tg (rp_sk b ln pl1_95) ws1_96 er1_130 ep1_131), (rf_RW ct 0 bt 800 b)]) (n := 2) [1, 0] rfl rfl (by decide))
              exact W.vret hx hb hr (fun t ht hW => ⟨⟨(ws_94, (rp_sk b ln pl1_95), ws1_96, er1_130, ep1_131, cnt_5, nc1_99, np_7, nf_8), rfl, ⟨hT, rp_e2 hex_2.2.1 (by omega) rfl hso_103 hc_125 hby (by omega) hc_126 hp_133⟩, by rw [ht]; exact hP, by rw [hAe]; exact hD⟩, hS.F ht⟩) hS.2.2 dX6_readText_132
      · refine lv_if_eq (tgt := 46) hx hb dX6_readText_36 (by decide) (fun _ => ?_) (fun hc => absurd (by decide) hc)
        refine lv_aload_n hx hb dX6_readText_46 rfl (lv_at hl 0 rfl) ?_
        obtain ⟨sa_134, sv_135, hsr_136, hss_137⟩ := hX.2.2.2.1 ("CellCycler$Reader", 40, "program", [112, 114, 111, 103, 114, 97, 109]) (by decide +kernel)
        refine va_ldcS hx hb hown hsr_136 dX6_readText_47 ?_
        have hP : va_P D vwCl (([] ++ ws) ++ ([(ty_RD rd bt ln tg (rp_we b ln (rp_sk b ln y_2)) (rp_sk b ln y_2) er1_16 ep1_17), (rf_RW ct 0 bt 800 b)] ++ ([] : va_W))) H := ty_permP (w1 := (([] ++ [(ty_RD rd bt ln tg (rp_we b ln (rp_sk b ln y_2)) (rp_sk b ln y_2) er1_16 ep1_17), (rf_RW ct 0 bt 800 b)]) ++ ws)) hP ty_mv2
        have hD : va_D A (([] ++ ws) ++ ([(ty_RD rd bt ln tg (rp_we b ln (rp_sk b ln y_2)) (rp_sk b ln y_2) er1_16 ep1_17), (rf_RW ct 0 bt 800 b)] ++ ([] : va_W))) := ty_permD (w1 := (([] ++ [(ty_RD rd bt ln tg (rp_we b ln (rp_sk b ln y_2)) (rp_sk b ln y_2) er1_16 ep1_17), (rf_RW ct 0 bt 800 b)]) ++ ws)) hD ty_mv2
        refine ty_ki (wr := ([] ++ ws)) (wc := ([(ty_RD rd bt ln tg (rp_we b ln (rp_sk b ln y_2)) (rp_sk b ln y_2) er1_16 ep1_17), (rf_RW ct 0 bt 800 b)] ++ ([] : va_W))) (va_runV (As := [.ref sa_134]) (rest := []) ⟨hx, hb, hml, hown, hts⟩ (r_wordIs l D ct (fun _ => none) [] (fun _ => True) (fun _ _ _ => True) rd bt tg ln (rp_we b ln (rp_sk b ln y_2)) (rp_sk b ln y_2) er1_16 ep1_17 b sa_134 ("CellCycler$Reader", 40, "program", [112, 114, 111, 103, 114, 97, 109]) _ ty_V0 ty_C0 ty_y10 hln (by omega) (by omega) (by decide +kernel)) (cm_V 1 hts kc_X6_wordIs ki_RX6 kl_RX6_28 kv_X6_wordIs kx_X6_wordIs kd_X6_wordIs ⟨Nat.le_of_ble_eq_true rfl, Nat.le_of_ble_eq_true rfl⟩) (cm_preVs (ty_preE (wr := ([] ++ ws)) (wc := ([(ty_RD rd bt ln tg (rp_we b ln (rp_sk b ln y_2)) (rp_sk b ln y_2) er1_16 ep1_17), (rf_RW ct 0 bt 800 b)] ++ ([] : va_W))) (ci := 6) (q0 := (([] ++ ws) : va_W).length + 0) hP hK hD hS hA hX rfl (ty_app rfl)) hsr_136) rfl rfl hl.1 rfl (lv_room (Nat.le_of_ble_eq_true rfl)) dX6_readText_49 ⟨Nat.le_of_ble_eq_true rfl, Nat.le_of_ble_eq_true rfl⟩) hP hD hS hA (fun r_138 u H locs hw_139 hP hD hS => ?_)
        obtain ⟨ws_140, rfl⟩ : ∃ z, z = u := ⟨_, rfl⟩
        obtain ⟨hT9_141, hp_142⟩ := hw_139
        have hp_142 : ((r_138 = 1 ∧ rp_wd b (rp_sk b ln y_2) (rp_we b ln (rp_sk b ln y_2)) = ("CellCycler$Reader", 40, "program", [112, 114, 111, 103, 114, 97, 109]).2.2.2) ∨ (r_138 = 0 ∧ ¬ rp_wd b (rp_sk b ln y_2) (rp_we b ln (rp_sk b ln y_2)) = ("CellCycler$Reader", 40, "program", [112, 114, 111, 103, 114, 97, 109]).2.2.2)) := hp_142
        have hP : va_P D vwCl ([(ty_RD rd bt ln tg (rp_we b ln (rp_sk b ln y_2)) (rp_sk b ln y_2) er1_16 ep1_17), (rf_RW ct 0 bt 800 b)] ++ ws) H := ty_bkP hP
        have hD : va_D A ([(ty_RD rd bt ln tg (rp_we b ln (rp_sk b ln y_2)) (rp_sk b ln y_2) er1_16 ep1_17), (rf_RW ct 0 bt 800 b)] ++ ws) := ty_bkD hD
        rcases hp_142 with ⟨rfl, hz_143⟩ | ⟨rfl, hz_144⟩
        · refine lv_if_eq (tgt := 62) hx hb dX6_readText_52 (by decide) (fun hc => absurd hc (by decide)) (fun _ => ?_)
          obtain ⟨hke_146, hkp_147⟩ := rp_wk0 rfl ho_20 (rp_wl hQ hz_143)
          subst hke_146
          refine lv_aload_n hx hb dX6_readText_55 rfl (lv_at hl 0 rfl) ?_
          refine ty_kv (wr := []) (wc := ([(ty_RD rd bt ln tg (rp_we b ln (rp_sk b ln y_2)) (rp_sk b ln y_2) (0) ep1_17), (rf_RW ct 0 bt 800 b)] ++ ws)) (va_runV (As := []) (rest := []) ⟨hx, hb, hml, hown, hts⟩ (r_readProgram l D ct S ws rd bt tg ln (rp_we b ln (rp_sk b ln y_2)) (rp_sk b ln y_2) (0 : Int32) ep1_17 b cu na pr ch cnt_5 nc_6 np_7 nf_8 _ hT h_tg h_pr hln (by omega) rfl (by omega) rfl hex_2.2.2.2.2) (cm_V 0 hts kc_X6_readProgram ki_RX6 kl_RX6_42 kv_X6_readProgram kx_X6_readProgram kd_X6_readProgram ⟨Nat.le_of_ble_eq_true rfl, Nat.le_of_ble_eq_true rfl⟩) (ty_preE (wr := []) (wc := ([(ty_RD rd bt ln tg (rp_we b ln (rp_sk b ln y_2)) (rp_sk b ln y_2) (0) ep1_17), (rf_RW ct 0 bt 800 b)] ++ ws)) (ci := 6) (q0 := 0) hP hK hD hS hA hX rfl rfl) rfl rfl hl.1 rfl (lv_room (Nat.le_of_ble_eq_true rfl)) dX6_readText_56 ⟨Nat.le_of_ble_eq_true rfl, Nat.le_of_ble_eq_true rfl⟩) hP hD hS hA (fun u H locs hw_149 hP hD hS => ?_)
          obtain ⟨ws_150, pl1_151, ws1_152, er1_153, ep1_154, np1_155⟩ := u
          obtain ⟨hT, hp_156⟩ := hw_149
          have hp_156 : (0 ≤ pl1_151.toInt ∧ pl1_151.toInt ≤ ln.toInt) ∧ rp_o (0 : Int32) ep1_17 er1_153 ep1_154 (rp_gk b ln np_7.toInt (rp_sk b ln y_2)) (rp_gp b ln np_7.toInt (rp_sk b ln y_2)) (np1_155 = np_7 + 1 ∧ rp_sk b ln pl1_151 = rp_sk b ln (rp_gp b ln np_7.toInt (rp_sk b ln y_2))) := hp_156
          have hP : va_P D vwCl ([(ty_RD rd bt ln tg pl1_151 ws1_152 er1_153 ep1_154), (rf_RW ct 0 bt 800 b)] ++ ws_150) H := hP
          have hD : va_D A ([(ty_RD rd bt ln tg pl1_151 ws1_152 er1_153 ep1_154), (rf_RW ct 0 bt 800 b)] ++ ws_150) := hD
          obtain ⟨hb_157, ho_158⟩ := hp_156
          rw [hkp_147] at ho_158
          have hso_159 := rp_s3 (show rp_wh b ln (rp_sk b ln y_2) = 3 from (((if_neg hz_31).trans (if_neg hz_88)).trans (if_pos hz_143))) hex_2.2.2.1 hex_2.2.2.2.1 hex_2.2.2.2.2 ho_158
          refine lv_goto (tgt := 73) hx hb dX6_readText_59 (by decide) ?_
          refine lv_aload_n hx hb dX6_readText_73 rfl (lv_at hl 0 rfl) ?_
          have hP : va_P D vwCl (([] ++ ws_150) ++ ([(ty_RD rd bt ln tg pl1_151 ws1_152 er1_153 ep1_154), (rf_RW ct 0 bt 800 b)] ++ ([] : va_W))) H := ty_permP (w1 := (([] ++ [(ty_RD rd bt ln tg pl1_151 ws1_152 er1_153 ep1_154), (rf_RW ct 0 bt 800 b)]) ++ ws_150)) hP ty_mv2
          have hD : va_D A (([] ++ ws_150) ++ ([(ty_RD rd bt ln tg pl1_151 ws1_152 er1_153 ep1_154), (rf_RW ct 0 bt 800 b)] ++ ([] : va_W))) := ty_permD (w1 := (([] ++ [(ty_RD rd bt ln tg pl1_151 ws1_152 er1_153 ep1_154), (rf_RW ct 0 bt 800 b)]) ++ ws_150)) hD ty_mv2
          refine ty_kv (wr := ([] ++ ws_150)) (wc := ([(ty_RD rd bt ln tg pl1_151 ws1_152 er1_153 ep1_154), (rf_RW ct 0 bt 800 b)] ++ ([] : va_W))) (va_runV (As := []) (rest := []) ⟨hx, hb, hml, hown, hts⟩ (r_skip l D ct (fun _ => none) [] (fun _ => True) (fun _ _ _ => True) rd bt tg ln pl1_151 ws1_152 er1_153 ep1_154 b _ ty_V0 ty_C0 ty_y10 hln hb_157) (cm_V 0 hts kc_X6_skipSpaces ki_RX6 kl_RX6_55 kv_X6_skipSpaces kx_X6_skipSpaces kd_X6_skipSpaces ⟨Nat.le_of_ble_eq_true rfl, Nat.le_of_ble_eq_true rfl⟩) (ty_preE (wr := ([] ++ ws_150)) (wc := ([(ty_RD rd bt ln tg pl1_151 ws1_152 er1_153 ep1_154), (rf_RW ct 0 bt 800 b)] ++ ([] : va_W))) (ci := 6) (q0 := (([] ++ ws_150) : va_W).length + 0) hP hK hD hS hA hX rfl (ty_app rfl)) rfl rfl hl.1 rfl (lv_room (Nat.le_of_ble_eq_true rfl)) dX6_readText_74 ⟨Nat.le_of_ble_eq_true rfl, Nat.le_of_ble_eq_true rfl⟩) hP hD hS hA (fun u H locs hw_161 hP hD hS => ?_)
          obtain ⟨ws_162, pl1_163⟩ := u
          obtain ⟨hT9_164, hp_165⟩ := hw_161
          have hp_165 : pl1_163 = (rp_sk b ln pl1_151) := hp_165
          have hP : va_P D vwCl ([(ty_RD rd bt ln tg pl1_163 ws1_152 er1_153 ep1_154), (rf_RW ct 0 bt 800 b)] ++ ws_150) H := ty_bkP hP
          have hD : va_D A ([(ty_RD rd bt ln tg pl1_163 ws1_152 er1_153 ep1_154), (rf_RW ct 0 bt 800 b)] ++ ws_150) := ty_bkD hD
          obtain rfl := hp_165
          have hs_167 := rp_sk_b (b := b) (p := pl1_151) hln.2 hb_157
          refine lv_aload_n hx hb dX6_readText_77 rfl (lv_at hl 0 rfl) ?_
          refine va_get (v := .int er1_153) (D := D) (ci := 6) (C := RX6) (T := TX6) (N := 7) hx hb hts in_X6 hown hK hP 0 rfl rfl 5 (by decide) (hts _ kl_RX6_58) (fun _ h9 => h9) rfl dX6_readText_78 ?_
          refine lv_if_ne (tgt := 112) hx hb dX6_readText_81 (by decide) (fun hc_168 => ?_) (fun hc_168 => ?_)
          · refine lv_aload_n hx hb dX6_readText_112 rfl (lv_at hl 0 rfl) ?_
            refine va_get (v := .int (rp_sk b ln pl1_151)) (D := D) (ci := 6) (C := RX6) (T := TX6) (N := 7) hx hb hts in_X6 hown hK hP 0 rfl rfl 3 (by decide) (hts _ kl_RX6_65) (fun _ h9 => h9) rfl dX6_readText_113 ?_
            refine lv_aload_n hx hb dX6_readText_116 rfl (lv_at hl 0 rfl) ?_
            refine va_get (v := .int ln) (D := D) (ci := 6) (C := RX6) (T := TX6) (N := 7) hx hb hts in_X6 hown hK hP 0 rfl rfl 1 (by decide) (hts _ kl_RX6_15) (fun _ h9 => h9) rfl dX6_readText_117 ?_
            refine lv_icmp_ge (tgt := 132) hx hb dX6_readText_120 (by decide) (fun hc_169 => ?_) (fun hc_169 => ?_)
            · exact W.vret hx hb hr (fun t ht hW => ⟨⟨(ws_150, (rp_sk b ln pl1_151), ws1_152, er1_153, ep1_154, cnt_5, nc_6, np1_155, nf_8), rfl, ⟨hT, rp_e1n hex_2.2.1 (by omega) rfl hso_159 hc_168⟩, by rw [ht]; exact hP, by rw [hAe]; exact hD⟩, hS.F ht⟩) hS.2.2 dX6_readText_132
            · refine lv_aload_n hx hb dX6_readText_123 rfl (lv_at hl 0 rfl) ?_
              refine lv_iconst (v := 1) hx hb dX6_readText_124 (by decide) ?_
              refine lv_aload_n hx hb dX6_readText_125 rfl (lv_at hl 0 rfl) ?_
              refine va_get (v := .int (rp_sk b ln pl1_151)) (D := D) (ci := 6) (C := RX6) (T := TX6) (N := 7) hx hb hts in_X6 hown hK hP 0 rfl rfl 3 (by decide) (hts _ kl_RX6_65) (fun _ h9 => h9) rfl dX6_readText_126 ?_
              have hP : va_P D vwCl ([(rf_RW ct 0 bt 800 b), (ty_RD rd bt ln tg (rp_sk b ln pl1_151) ws1_152 er1_153 ep1_154)] ++ ws_150) H := ty_permP hP (ty_ordp (E := [(ty_RD rd bt ln tg (rp_sk b ln pl1_151) ws1_152 er1_153 ep1_154), (rf_RW ct 0 bt 800 b)]) (E2 := [(rf_RW ct 0 bt 800 b), (ty_RD rd bt ln tg (rp_sk b ln pl1_151) ws1_152 er1_153 ep1_154)]) (n := 2) [1, 0] rfl rfl (by decide))
              have hD : va_D A ([(rf_RW ct 0 bt 800 b), (ty_RD rd bt ln tg (rp_sk b ln pl1_151) ws1_152 er1_153 ep1_154)] ++ ws_150) := ty_permD hD (ty_ordp (E := [(ty_RD rd bt ln tg (rp_sk b ln pl1_151) ws1_152 er1_153 ep1_154), (rf_RW ct 0 bt 800 b)]) (E2 := [(rf_RW ct 0 bt 800 b), (ty_RD rd bt ln tg (rp_sk b ln pl1_151) ws1_152 er1_153 ep1_154)]) (n := 2) [1, 0] rfl rfl (by decide))
              have hP : va_P D vwCl (([(rf_RW ct 0 bt 800 b)] ++ ws_150) ++ ([(ty_RD rd bt ln tg (rp_sk b ln pl1_151) ws1_152 er1_153 ep1_154)] ++ ([] : va_W))) H := ty_permP (w1 := (([(rf_RW ct 0 bt 800 b)] ++ [(ty_RD rd bt ln tg (rp_sk b ln pl1_151) ws1_152 er1_153 ep1_154)]) ++ ws_150)) hP ty_mv2
              have hD : va_D A (([(rf_RW ct 0 bt 800 b)] ++ ws_150) ++ ([(ty_RD rd bt ln tg (rp_sk b ln pl1_151) ws1_152 er1_153 ep1_154)] ++ ([] : va_W))) := ty_permD (w1 := (([(rf_RW ct 0 bt 800 b)] ++ [(ty_RD rd bt ln tg (rp_sk b ln pl1_151) ws1_152 er1_153 ep1_154)]) ++ ws_150)) hD ty_mv2
              refine ty_kv (wr := ([(rf_RW ct 0 bt 800 b)] ++ ws_150)) (wc := ([(ty_RD rd bt ln tg (rp_sk b ln pl1_151) ws1_152 er1_153 ep1_154)] ++ ([] : va_W))) (va_runV (As := [.int 1, .int (rp_sk b ln pl1_151)]) (rest := []) ⟨hx, hb, hml, hown, hts⟩ (r_fail l D ct (fun _ => none) [] (fun _ => True) (fun _ _ _ => True) rd bt tg ln (rp_sk b ln pl1_151) ws1_152 er1_153 ep1_154 (1 : Int32) (rp_sk b ln pl1_151) _ ty_V0 ty_C0 ty_y10 (by decide)) (cm_V 2 hts kc_X6_fail ki_RX6 kl_RX6_68 kv_X6_fail kx_X6_fail kd_X6_fail ⟨Nat.le_of_ble_eq_true rfl, Nat.le_of_ble_eq_true rfl⟩) (ty_preE (wr := ([(rf_RW ct 0 bt 800 b)] ++ ws_150)) (wc := ([(ty_RD rd bt ln tg (rp_sk b ln pl1_151) ws1_152 er1_153 ep1_154)] ++ ([] : va_W))) (ci := 6) (q0 := (([(rf_RW ct 0 bt 800 b)] ++ ws_150) : va_W).length + 0) hP hK hD hS hA hX rfl (ty_app rfl)) rfl rfl hl.1 rfl (lv_room (Nat.le_of_ble_eq_true rfl)) dX6_readText_129 ⟨Nat.le_of_ble_eq_true rfl, Nat.le_of_ble_eq_true rfl⟩) hP hD hS hA (fun u H locs hw_171 hP hD hS => ?_)
              obtain ⟨ws_172, er1_173, ep1_174⟩ := u
              obtain ⟨hT9_175, hp_176⟩ := hw_171
              have hp_176 : rp_o er1_153 ep1_154 er1_173 ep1_174 (1 : Int32) (rp_sk b ln pl1_151) True := hp_176
              have hP : va_P D vwCl ([(rf_RW ct 0 bt 800 b), (ty_RD rd bt ln tg (rp_sk b ln pl1_151) ws1_152 er1_173 ep1_174)] ++ ws_150) H := ty_bkP hP
              have hD : va_D A ([(rf_RW ct 0 bt 800 b), (ty_RD rd bt ln tg (rp_sk b ln pl1_151) ws1_152 er1_173 ep1_174)] ++ ws_150) := ty_bkD hD
              have hP : va_P D vwCl ([(ty_RD rd bt ln tg (rp_sk b ln pl1_151) ws1_152 er1_173 ep1_174), (rf_RW ct 0 bt 800 b)] ++ ws_150) H := ty_permP hP (ty_ordp (E := [(rf_RW ct 0 bt 800 b), (ty_RD rd bt ln tg (rp_sk b ln pl1_151) ws1_152 er1_173 ep1_174)]) (E2 := [(ty_RD rd bt ln tg (rp_sk b ln pl1_151) ws1_152 er1_173 ep1_174), (rf_RW ct 0 bt 800 b)]) (n := 2) [1, 0] rfl rfl (by decide))
              have hD : va_D A ([(ty_RD rd bt ln tg (rp_sk b ln pl1_151) ws1_152 er1_173 ep1_174), (rf_RW ct 0 bt 800 b)] ++ ws_150) := ty_permD hD (ty_ordp (E := [(rf_RW ct 0 bt 800 b), (ty_RD rd bt ln tg (rp_sk b ln pl1_151) ws1_152 er1_173 ep1_174)]) (E2 := [(ty_RD rd bt ln tg (rp_sk b ln pl1_151) ws1_152 er1_173 ep1_174), (rf_RW ct 0 bt 800 b)]) (n := 2) [1, 0] rfl rfl (by decide))
              exact W.vret hx hb hr (fun t ht hW => ⟨⟨(ws_150, (rp_sk b ln pl1_151), ws1_152, er1_173, ep1_174, cnt_5, nc_6, np1_155, nf_8), rfl, ⟨hT, rp_e1 hex_2.2.1 (by omega) rfl hso_159 hc_168 hp_176⟩, by rw [ht]; exact hP, by rw [hAe]; exact hD⟩, hS.F ht⟩) hS.2.2 dX6_readText_132
          · subst hc_168
            refine lv_aload_n hx hb dX6_readText_84 rfl (lv_at hl 0 rfl) ?_
            have hP : va_P D vwCl (([] ++ ws_150) ++ ([(ty_RD rd bt ln tg (rp_sk b ln pl1_151) ws1_152 (0) ep1_154), (rf_RW ct 0 bt 800 b)] ++ ([] : va_W))) H := ty_permP (w1 := (([] ++ [(ty_RD rd bt ln tg (rp_sk b ln pl1_151) ws1_152 (0) ep1_154), (rf_RW ct 0 bt 800 b)]) ++ ws_150)) hP ty_mv2
            have hD : va_D A (([] ++ ws_150) ++ ([(ty_RD rd bt ln tg (rp_sk b ln pl1_151) ws1_152 (0) ep1_154), (rf_RW ct 0 bt 800 b)] ++ ([] : va_W))) := ty_permD (w1 := (([] ++ [(ty_RD rd bt ln tg (rp_sk b ln pl1_151) ws1_152 (0) ep1_154), (rf_RW ct 0 bt 800 b)]) ++ ws_150)) hD ty_mv2
            refine ty_ki (wr := ([] ++ ws_150)) (wc := ([(ty_RD rd bt ln tg (rp_sk b ln pl1_151) ws1_152 (0) ep1_154), (rf_RW ct 0 bt 800 b)] ++ ([] : va_W))) (va_runV (As := []) (rest := []) ⟨hx, hb, hml, hown, hts⟩ (r_next l D ct (fun _ => none) [] (fun _ => True) (fun _ _ _ => True) rd bt tg ln (rp_sk b ln pl1_151) ws1_152 (0 : Int32) ep1_154 b _ ty_V0 ty_C0 ty_y10 hln (by omega)) (cm_V 0 hts kc_X6_next ki_RX6 kl_RX6_61 kv_X6_next kx_X6_next kd_X6_next ⟨Nat.le_of_ble_eq_true rfl, Nat.le_of_ble_eq_true rfl⟩) (ty_preE (wr := ([] ++ ws_150)) (wc := ([(ty_RD rd bt ln tg (rp_sk b ln pl1_151) ws1_152 (0) ep1_154), (rf_RW ct 0 bt 800 b)] ++ ([] : va_W))) (ci := 6) (q0 := (([] ++ ws_150) : va_W).length + 0) hP hK hD hS hA hX rfl (ty_app rfl)) rfl rfl hl.1 rfl (lv_room (Nat.le_of_ble_eq_true rfl)) dX6_readText_85 ⟨Nat.le_of_ble_eq_true rfl, Nat.le_of_ble_eq_true rfl⟩) hP hD hS hA (fun r_177 u H locs hw_178 hP hD hS => ?_)
            obtain ⟨ws_179, rfl⟩ : ∃ z, z = u := ⟨_, rfl⟩
            obtain ⟨hT9_180, rfl⟩ := hw_178
            have hP : va_P D vwCl ([(ty_RD rd bt ln tg (rp_sk b ln pl1_151) ws1_152 (0) ep1_154), (rf_RW ct 0 bt 800 b)] ++ ws_150) H := ty_bkP hP
            have hD : va_D A ([(ty_RD rd bt ln tg (rp_sk b ln pl1_151) ws1_152 (0) ep1_154), (rf_RW ct 0 bt 800 b)] ++ ws_150) := ty_bkD hD
            refine lv_bipush (v := 59) hx hb dX6_readText_88 (by decide) ?_
            refine lv_icmp_eq (tgt := 96) hx hb dX6_readText_90 (by decide) (fun hc_181 => ?_) (fun hc_181 => ?_)
            · refine lv_aload_n hx hb dX6_readText_96 rfl (lv_at hl 0 rfl) ?_
              refine lv_dup hx hb dX6_readText_97 rfl ?_
              refine va_get (v := .int (rp_sk b ln pl1_151)) (D := D) (ci := 6) (C := RX6) (T := TX6) (N := 7) hx hb hts in_X6 hown hK hP 0 rfl rfl 3 (by decide) (hts _ kl_RX6_65) (fun _ h9 => h9) rfl dX6_readText_98 ?_
              refine lv_iconst (v := 1) hx hb dX6_readText_101 (by decide) ?_
              refine lv_iadd hx hb dX6_readText_102 ?_
              refine va_put (v := .int ((rp_sk b ln pl1_151) + 1)) (ty := .int) (D := D) (ci := 6) (C := RX6) (T := TX6) (N := 7) hx hb hts in_X6 tyX6 tyX6_ok nmX6 hown hK hP hD hS 0 rfl rfl 3 (by decide) (hts _ kl_RX6_65) (fun _ h9 => h9) rfl (by decide +kernel) rfl rfl (Nat.le_of_ble_eq_true rfl) dX6_readText_103 (fun H locs hP hD hS => ?_)
              have hP : va_P D vwCl ([(ty_RD rd bt ln tg ((rp_sk b ln pl1_151) + 1) ws1_152 (0) ep1_154), (rf_RW ct 0 bt 800 b)] ++ ws_150) H := hP
              have hD : va_D A ([(ty_RD rd bt ln tg ((rp_sk b ln pl1_151) + 1) ws1_152 (0) ep1_154), (rf_RW ct 0 bt 800 b)] ++ ws_150) := hD
              refine lv_iinc (v := (y_1 + Int32.ofInt 1)) (lv' := [(1, .int (y_1 + Int32.ofInt 1)), (0, .ref rd)]) hx hb dX6_readText_106 hl (k := 1) rfl rfl (by decide) rfl (fun ls hl => ?_)
              refine lv_goto (tgt := 2) hx hb dX6_readText_109 (by decide) ?_
              exact ih_2 _ _ _ _ (ty_inc (N := 801) (by rw [Int32.lt_iff_toInt_lt, show (801 : Int32).toInt = 801 from by decide]; omega)) ⟨ws_150, (y_1 + Int32.ofInt 1), ((rp_sk b ln pl1_151) + 1), ws1_152, ep1_154, cnt_5, nc_6, np1_155, nf_8, N_9, rfl, hT, hP, hD, hS, (lv_sub hl [1, 0] rfl), rp_xn hex_2.2.1 hln.2 (by omega) rfl hso_159 hc_181⟩
            · refine lv_goto (tgt := 112) hx hb dX6_readText_93 (by decide) ?_
              refine lv_aload_n hx hb dX6_readText_112 rfl (lv_at hl 0 rfl) ?_
              refine va_get (v := .int (rp_sk b ln pl1_151)) (D := D) (ci := 6) (C := RX6) (T := TX6) (N := 7) hx hb hts in_X6 hown hK hP 0 rfl rfl 3 (by decide) (hts _ kl_RX6_65) (fun _ h9 => h9) rfl dX6_readText_113 ?_
              refine lv_aload_n hx hb dX6_readText_116 rfl (lv_at hl 0 rfl) ?_
              refine va_get (v := .int ln) (D := D) (ci := 6) (C := RX6) (T := TX6) (N := 7) hx hb hts in_X6 hown hK hP 0 rfl rfl 1 (by decide) (hts _ kl_RX6_15) (fun _ h9 => h9) rfl dX6_readText_117 ?_
              refine lv_icmp_ge (tgt := 132) hx hb dX6_readText_120 (by decide) (fun hc_182 => ?_) (fun hc_182 => ?_)
              · exact W.vret hx hb hr (fun t ht hW => ⟨⟨(ws_150, (rp_sk b ln pl1_151), ws1_152, (0 : Int32), ep1_154, cnt_5, nc_6, np1_155, nf_8), rfl, ⟨hT, rp_e3 hex_2.2.1 (by omega) rfl hso_159 hc_181 hc_182⟩, by rw [ht]; exact hP, by rw [hAe]; exact hD⟩, hS.F ht⟩) hS.2.2 dX6_readText_132
              · refine lv_aload_n hx hb dX6_readText_123 rfl (lv_at hl 0 rfl) ?_
                refine lv_iconst (v := 1) hx hb dX6_readText_124 (by decide) ?_
                refine lv_aload_n hx hb dX6_readText_125 rfl (lv_at hl 0 rfl) ?_
                refine va_get (v := .int (rp_sk b ln pl1_151)) (D := D) (ci := 6) (C := RX6) (T := TX6) (N := 7) hx hb hts in_X6 hown hK hP 0 rfl rfl 3 (by decide) (hts _ kl_RX6_65) (fun _ h9 => h9) rfl dX6_readText_126 ?_
                have hP : va_P D vwCl ([(rf_RW ct 0 bt 800 b), (ty_RD rd bt ln tg (rp_sk b ln pl1_151) ws1_152 (0) ep1_154)] ++ ws_150) H := ty_permP hP (ty_ordp (E := [(ty_RD rd bt ln tg (rp_sk b ln pl1_151) ws1_152 (0) ep1_154), (rf_RW ct 0 bt 800 b)]) (E2 := [(rf_RW ct 0 bt 800 b), (ty_RD rd bt ln tg (rp_sk b ln pl1_151) ws1_152 (0) ep1_154)]) (n := 2) [1, 0] rfl rfl (by decide))
                have hD : va_D A ([(rf_RW ct 0 bt 800 b), (ty_RD rd bt ln tg (rp_sk b ln pl1_151) ws1_152 (0) ep1_154)] ++ ws_150) := ty_permD hD (ty_ordp (E := [(ty_RD rd bt ln tg (rp_sk b ln pl1_151) ws1_152 (0) ep1_154), (rf_RW ct 0 bt 800 b)]) (E2 := [(rf_RW ct 0 bt 800 b), (ty_RD rd bt ln tg (rp_sk b ln pl1_151) ws1_152 (0) ep1_154)]) (n := 2) [1, 0] rfl rfl (by decide))
                have hP : va_P D vwCl (([(rf_RW ct 0 bt 800 b)] ++ ws_150) ++ ([(ty_RD rd bt ln tg (rp_sk b ln pl1_151) ws1_152 (0) ep1_154)] ++ ([] : va_W))) H := ty_permP (w1 := (([(rf_RW ct 0 bt 800 b)] ++ [(ty_RD rd bt ln tg (rp_sk b ln pl1_151) ws1_152 (0) ep1_154)]) ++ ws_150)) hP ty_mv2
                have hD : va_D A (([(rf_RW ct 0 bt 800 b)] ++ ws_150) ++ ([(ty_RD rd bt ln tg (rp_sk b ln pl1_151) ws1_152 (0) ep1_154)] ++ ([] : va_W))) := ty_permD (w1 := (([(rf_RW ct 0 bt 800 b)] ++ [(ty_RD rd bt ln tg (rp_sk b ln pl1_151) ws1_152 (0) ep1_154)]) ++ ws_150)) hD ty_mv2
                refine ty_kv (wr := ([(rf_RW ct 0 bt 800 b)] ++ ws_150)) (wc := ([(ty_RD rd bt ln tg (rp_sk b ln pl1_151) ws1_152 (0) ep1_154)] ++ ([] : va_W))) (va_runV (As := [.int 1, .int (rp_sk b ln pl1_151)]) (rest := []) ⟨hx, hb, hml, hown, hts⟩ (r_fail l D ct (fun _ => none) [] (fun _ => True) (fun _ _ _ => True) rd bt tg ln (rp_sk b ln pl1_151) ws1_152 (0 : Int32) ep1_154 (1 : Int32) (rp_sk b ln pl1_151) _ ty_V0 ty_C0 ty_y10 (by decide)) (cm_V 2 hts kc_X6_fail ki_RX6 kl_RX6_68 kv_X6_fail kx_X6_fail kd_X6_fail ⟨Nat.le_of_ble_eq_true rfl, Nat.le_of_ble_eq_true rfl⟩) (ty_preE (wr := ([(rf_RW ct 0 bt 800 b)] ++ ws_150)) (wc := ([(ty_RD rd bt ln tg (rp_sk b ln pl1_151) ws1_152 (0) ep1_154)] ++ ([] : va_W))) (ci := 6) (q0 := (([(rf_RW ct 0 bt 800 b)] ++ ws_150) : va_W).length + 0) hP hK hD hS hA hX rfl (ty_app rfl)) rfl rfl hl.1 rfl (lv_room (Nat.le_of_ble_eq_true rfl)) dX6_readText_129 ⟨Nat.le_of_ble_eq_true rfl, Nat.le_of_ble_eq_true rfl⟩) hP hD hS hA (fun u H locs hw_184 hP hD hS => ?_)
                obtain ⟨ws_185, er1_186, ep1_187⟩ := u
                obtain ⟨hT9_188, hp_189⟩ := hw_184
                have hp_189 : rp_o (0 : Int32) ep1_154 er1_186 ep1_187 (1 : Int32) (rp_sk b ln pl1_151) True := hp_189
                have hP : va_P D vwCl ([(rf_RW ct 0 bt 800 b), (ty_RD rd bt ln tg (rp_sk b ln pl1_151) ws1_152 er1_186 ep1_187)] ++ ws_150) H := ty_bkP hP
                have hD : va_D A ([(rf_RW ct 0 bt 800 b), (ty_RD rd bt ln tg (rp_sk b ln pl1_151) ws1_152 er1_186 ep1_187)] ++ ws_150) := ty_bkD hD
                have hP : va_P D vwCl ([(ty_RD rd bt ln tg (rp_sk b ln pl1_151) ws1_152 er1_186 ep1_187), (rf_RW ct 0 bt 800 b)] ++ ws_150) H := ty_permP hP (ty_ordp (E := [(rf_RW ct 0 bt 800 b), (ty_RD rd bt ln tg (rp_sk b ln pl1_151) ws1_152 er1_186 ep1_187)]) (E2 := [(ty_RD rd bt ln tg (rp_sk b ln pl1_151) ws1_152 er1_186 ep1_187), (rf_RW ct 0 bt 800 b)]) (n := 2) [1, 0] rfl rfl (by decide))
                have hD : va_D A ([(ty_RD rd bt ln tg (rp_sk b ln pl1_151) ws1_152 er1_186 ep1_187), (rf_RW ct 0 bt 800 b)] ++ ws_150) := ty_permD hD (ty_ordp (E := [(rf_RW ct 0 bt 800 b), (ty_RD rd bt ln tg (rp_sk b ln pl1_151) ws1_152 er1_186 ep1_187)]) (E2 := [(ty_RD rd bt ln tg (rp_sk b ln pl1_151) ws1_152 er1_186 ep1_187), (rf_RW ct 0 bt 800 b)]) (n := 2) [1, 0] rfl rfl (by decide))
                exact W.vret hx hb hr (fun t ht hW => ⟨⟨(ws_150, (rp_sk b ln pl1_151), ws1_152, er1_186, ep1_187, cnt_5, nc_6, np1_155, nf_8), rfl, ⟨hT, rp_e2 hex_2.2.1 (by omega) rfl hso_159 hc_181 hby (by omega) hc_182 hp_189⟩, by rw [ht]; exact hP, by rw [hAe]; exact hD⟩, hS.F ht⟩) hS.2.2 dX6_readText_132
        · refine lv_if_eq (tgt := 62) hx hb dX6_readText_52 (by decide) (fun _ => ?_) (fun hc => absurd (by decide) hc)
          refine lv_aload_n hx hb dX6_readText_62 rfl (lv_at hl 0 rfl) ?_
          refine lv_aload_n hx hb dX6_readText_63 rfl (lv_at hl 0 rfl) ?_
          refine va_get (v := .ref tg) (D := D) (ci := 6) (C := RX6) (T := TX6) (N := 7) hx hb hts in_X6 hown hK hP 0 rfl rfl 2 (by decide) (hts _ kl_RX6_19) (fun _ h9 => h9) rfl dX6_readText_64 ?_
          refine ty_getN (E := [(ty_RD rd bt ln tg (rp_we b ln (rp_sk b ln y_2)) (rp_sk b ln y_2) er1_16 ep1_17), (rf_RW ct 0 bt 800 b)]) (ws := ws) (D := D) (ci := 9) (C := RX9) (T := TX9) (N := 8) hx hb hts in_X9 hown hK hP hT h_tg rfl 1 (by decide) (hts _ kl_RX6_45) (fun _ h9 => h9) rfl dX6_readText_67 (fun _ hv_190 hf_191 => ?_)
          obtain ⟨a_192, rfl, ha_193⟩ := hv_190
          refine ty_kv (wr := []) (wc := ([(ty_RD rd bt ln tg (rp_we b ln (rp_sk b ln y_2)) (rp_sk b ln y_2) er1_16 ep1_17), (rf_RW ct 0 bt 800 b)] ++ ws)) (va_runV (As := [.ref a_192]) (rest := []) ⟨hx, hb, hml, hown, hts⟩ (r_readSetting l D ct S ws rd bt tg ln (rp_we b ln (rp_sk b ln y_2)) (rp_sk b ln y_2) er1_16 ep1_17 b cu na pr ch cnt_5 nc_6 np_7 nf_8 a_192 _ hT ha_193 hln (by omega) rfl (by omega)) (cm_V 1 hts kc_X6_readSetting ki_RX6 kl_RX6_51 kv_X6_readSetting kx_X6_readSetting kd_X6_readSetting ⟨Nat.le_of_ble_eq_true rfl, Nat.le_of_ble_eq_true rfl⟩) (ty_preE (wr := []) (wc := ([(ty_RD rd bt ln tg (rp_we b ln (rp_sk b ln y_2)) (rp_sk b ln y_2) er1_16 ep1_17), (rf_RW ct 0 bt 800 b)] ++ ws)) (ci := 6) (q0 := 0) hP hK hD hS hA hX rfl rfl) rfl rfl hl.1 rfl (lv_room (Nat.le_of_ble_eq_true rfl)) dX6_readText_70 ⟨Nat.le_of_ble_eq_true rfl, Nat.le_of_ble_eq_true rfl⟩) hP hD hS hA (fun u H locs hw_195 hP hD hS => ?_)
          obtain ⟨ws_196, pl1_197, er1_198, ep1_199⟩ := u
          obtain ⟨hT, hp_200⟩ := hw_195
          have hp_200 : (0 ≤ pl1_197.toInt ∧ pl1_197.toInt ≤ ln.toInt) ∧ rp_o er1_16 ep1_17 er1_198 ep1_199 (rp_ek b ln (rp_sk b ln y_2)) (rp_ep b ln (rp_sk b ln y_2)) (pl1_197 = rp_ep b ln (rp_sk b ln y_2)) := hp_200
          have hP : va_P D vwCl ([(ty_RD rd bt ln tg pl1_197 (rp_sk b ln y_2) er1_198 ep1_199), (rf_RW ct 0 bt 800 b)] ++ ws_196) H := hP
          have hD : va_D A ([(ty_RD rd bt ln tg pl1_197 (rp_sk b ln y_2) er1_198 ep1_199), (rf_RW ct 0 bt 800 b)] ++ ws_196) := hD
          obtain ⟨hb_201, ho_202⟩ := hp_200
          have hso_203 := rp_s0 (show rp_wh b ln (rp_sk b ln y_2) = 0 from (((if_neg hz_31).trans (if_neg hz_88)).trans (if_neg hz_144))) hex_2.2.2.1 hex_2.2.2.2.1 hex_2.2.2.2.2 hQ ho_20 ho_202
          refine lv_aload_n hx hb dX6_readText_73 rfl (lv_at hl 0 rfl) ?_
          have hP : va_P D vwCl (([] ++ ws_196) ++ ([(ty_RD rd bt ln tg pl1_197 (rp_sk b ln y_2) er1_198 ep1_199), (rf_RW ct 0 bt 800 b)] ++ ([] : va_W))) H := ty_permP (w1 := (([] ++ [(ty_RD rd bt ln tg pl1_197 (rp_sk b ln y_2) er1_198 ep1_199), (rf_RW ct 0 bt 800 b)]) ++ ws_196)) hP ty_mv2
          have hD : va_D A (([] ++ ws_196) ++ ([(ty_RD rd bt ln tg pl1_197 (rp_sk b ln y_2) er1_198 ep1_199), (rf_RW ct 0 bt 800 b)] ++ ([] : va_W))) := ty_permD (w1 := (([] ++ [(ty_RD rd bt ln tg pl1_197 (rp_sk b ln y_2) er1_198 ep1_199), (rf_RW ct 0 bt 800 b)]) ++ ws_196)) hD ty_mv2
          refine ty_kv (wr := ([] ++ ws_196)) (wc := ([(ty_RD rd bt ln tg pl1_197 (rp_sk b ln y_2) er1_198 ep1_199), (rf_RW ct 0 bt 800 b)] ++ ([] : va_W))) (va_runV (As := []) (rest := []) ⟨hx, hb, hml, hown, hts⟩ (r_skip l D ct (fun _ => none) [] (fun _ => True) (fun _ _ _ => True) rd bt tg ln pl1_197 (rp_sk b ln y_2) er1_198 ep1_199 b _ ty_V0 ty_C0 ty_y10 hln hb_201) (cm_V 0 hts kc_X6_skipSpaces ki_RX6 kl_RX6_55 kv_X6_skipSpaces kx_X6_skipSpaces kd_X6_skipSpaces ⟨Nat.le_of_ble_eq_true rfl, Nat.le_of_ble_eq_true rfl⟩) (ty_preE (wr := ([] ++ ws_196)) (wc := ([(ty_RD rd bt ln tg pl1_197 (rp_sk b ln y_2) er1_198 ep1_199), (rf_RW ct 0 bt 800 b)] ++ ([] : va_W))) (ci := 6) (q0 := (([] ++ ws_196) : va_W).length + 0) hP hK hD hS hA hX rfl (ty_app rfl)) rfl rfl hl.1 rfl (lv_room (Nat.le_of_ble_eq_true rfl)) dX6_readText_74 ⟨Nat.le_of_ble_eq_true rfl, Nat.le_of_ble_eq_true rfl⟩) hP hD hS hA (fun u H locs hw_205 hP hD hS => ?_)
          obtain ⟨ws_206, pl1_207⟩ := u
          obtain ⟨hT9_208, hp_209⟩ := hw_205
          have hp_209 : pl1_207 = (rp_sk b ln pl1_197) := hp_209
          have hP : va_P D vwCl ([(ty_RD rd bt ln tg pl1_207 (rp_sk b ln y_2) er1_198 ep1_199), (rf_RW ct 0 bt 800 b)] ++ ws_196) H := ty_bkP hP
          have hD : va_D A ([(ty_RD rd bt ln tg pl1_207 (rp_sk b ln y_2) er1_198 ep1_199), (rf_RW ct 0 bt 800 b)] ++ ws_196) := ty_bkD hD
          obtain rfl := hp_209
          have hs_211 := rp_sk_b (b := b) (p := pl1_197) hln.2 hb_201
          refine lv_aload_n hx hb dX6_readText_77 rfl (lv_at hl 0 rfl) ?_
          refine va_get (v := .int er1_198) (D := D) (ci := 6) (C := RX6) (T := TX6) (N := 7) hx hb hts in_X6 hown hK hP 0 rfl rfl 5 (by decide) (hts _ kl_RX6_58) (fun _ h9 => h9) rfl dX6_readText_78 ?_
          refine lv_if_ne (tgt := 112) hx hb dX6_readText_81 (by decide) (fun hc_212 => ?_) (fun hc_212 => ?_)
          · refine lv_aload_n hx hb dX6_readText_112 rfl (lv_at hl 0 rfl) ?_
            refine va_get (v := .int (rp_sk b ln pl1_197)) (D := D) (ci := 6) (C := RX6) (T := TX6) (N := 7) hx hb hts in_X6 hown hK hP 0 rfl rfl 3 (by decide) (hts _ kl_RX6_65) (fun _ h9 => h9) rfl dX6_readText_113 ?_
            refine lv_aload_n hx hb dX6_readText_116 rfl (lv_at hl 0 rfl) ?_
            refine va_get (v := .int ln) (D := D) (ci := 6) (C := RX6) (T := TX6) (N := 7) hx hb hts in_X6 hown hK hP 0 rfl rfl 1 (by decide) (hts _ kl_RX6_15) (fun _ h9 => h9) rfl dX6_readText_117 ?_
            refine lv_icmp_ge (tgt := 132) hx hb dX6_readText_120 (by decide) (fun hc_213 => ?_) (fun hc_213 => ?_)
            · exact W.vret hx hb hr (fun t ht hW => ⟨⟨(ws_196, (rp_sk b ln pl1_197), (rp_sk b ln y_2), er1_198, ep1_199, cnt_5, nc_6, np_7, nf_8), rfl, ⟨hT, rp_e1n hex_2.2.1 (by omega) rfl hso_203 hc_212⟩, by rw [ht]; exact hP, by rw [hAe]; exact hD⟩, hS.F ht⟩) hS.2.2 dX6_readText_132
            · refine lv_aload_n hx hb dX6_readText_123 rfl (lv_at hl 0 rfl) ?_
              refine lv_iconst (v := 1) hx hb dX6_readText_124 (by decide) ?_
              refine lv_aload_n hx hb dX6_readText_125 rfl (lv_at hl 0 rfl) ?_
              refine va_get (v := .int (rp_sk b ln pl1_197)) (D := D) (ci := 6) (C := RX6) (T := TX6) (N := 7) hx hb hts in_X6 hown hK hP 0 rfl rfl 3 (by decide) (hts _ kl_RX6_65) (fun _ h9 => h9) rfl dX6_readText_126 ?_
              have hP : va_P D vwCl ([(rf_RW ct 0 bt 800 b), (ty_RD rd bt ln tg (rp_sk b ln pl1_197) (rp_sk b ln y_2) er1_198 ep1_199)] ++ ws_196) H := ty_permP hP (ty_ordp (E := [(ty_RD rd bt ln tg (rp_sk b ln pl1_197) (rp_sk b ln y_2) er1_198 ep1_199), (rf_RW ct 0 bt 800 b)]) (E2 := [(rf_RW ct 0 bt 800 b), (ty_RD rd bt ln tg (rp_sk b ln pl1_197) (rp_sk b ln y_2) er1_198 ep1_199)]) (n := 2) [1, 0] rfl rfl (by decide))
              have hD : va_D A ([(rf_RW ct 0 bt 800 b), (ty_RD rd bt ln tg (rp_sk b ln pl1_197) (rp_sk b ln y_2) er1_198 ep1_199)] ++ ws_196) := ty_permD hD (ty_ordp (E := [(ty_RD rd bt ln tg (rp_sk b ln pl1_197) (rp_sk b ln y_2) er1_198 ep1_199), (rf_RW ct 0 bt 800 b)]) (E2 := [(rf_RW ct 0 bt 800 b), (ty_RD rd bt ln tg (rp_sk b ln pl1_197) (rp_sk b ln y_2) er1_198 ep1_199)]) (n := 2) [1, 0] rfl rfl (by decide))
              have hP : va_P D vwCl (([(rf_RW ct 0 bt 800 b)] ++ ws_196) ++ ([(ty_RD rd bt ln tg (rp_sk b ln pl1_197) (rp_sk b ln y_2) er1_198 ep1_199)] ++ ([] : va_W))) H := ty_permP (w1 := (([(rf_RW ct 0 bt 800 b)] ++ [(ty_RD rd bt ln tg (rp_sk b ln pl1_197) (rp_sk b ln y_2) er1_198 ep1_199)]) ++ ws_196)) hP ty_mv2
              have hD : va_D A (([(rf_RW ct 0 bt 800 b)] ++ ws_196) ++ ([(ty_RD rd bt ln tg (rp_sk b ln pl1_197) (rp_sk b ln y_2) er1_198 ep1_199)] ++ ([] : va_W))) := ty_permD (w1 := (([(rf_RW ct 0 bt 800 b)] ++ [(ty_RD rd bt ln tg (rp_sk b ln pl1_197) (rp_sk b ln y_2) er1_198 ep1_199)]) ++ ws_196)) hD ty_mv2
              refine ty_kv (wr := ([(rf_RW ct 0 bt 800 b)] ++ ws_196)) (wc := ([(ty_RD rd bt ln tg (rp_sk b ln pl1_197) (rp_sk b ln y_2) er1_198 ep1_199)] ++ ([] : va_W))) (va_runV (As := [.int 1, .int (rp_sk b ln pl1_197)]) (rest := []) ⟨hx, hb, hml, hown, hts⟩ (r_fail l D ct (fun _ => none) [] (fun _ => True) (fun _ _ _ => True) rd bt tg ln (rp_sk b ln pl1_197) (rp_sk b ln y_2) er1_198 ep1_199 (1 : Int32) (rp_sk b ln pl1_197) _ ty_V0 ty_C0 ty_y10 (by decide)) (cm_V 2 hts kc_X6_fail ki_RX6 kl_RX6_68 kv_X6_fail kx_X6_fail kd_X6_fail ⟨Nat.le_of_ble_eq_true rfl, Nat.le_of_ble_eq_true rfl⟩) (ty_preE (wr := ([(rf_RW ct 0 bt 800 b)] ++ ws_196)) (wc := ([(ty_RD rd bt ln tg (rp_sk b ln pl1_197) (rp_sk b ln y_2) er1_198 ep1_199)] ++ ([] : va_W))) (ci := 6) (q0 := (([(rf_RW ct 0 bt 800 b)] ++ ws_196) : va_W).length + 0) hP hK hD hS hA hX rfl (ty_app rfl)) rfl rfl hl.1 rfl (lv_room (Nat.le_of_ble_eq_true rfl)) dX6_readText_129 ⟨Nat.le_of_ble_eq_true rfl, Nat.le_of_ble_eq_true rfl⟩) hP hD hS hA (fun u H locs hw_215 hP hD hS => ?_)
              obtain ⟨ws_216, er1_217, ep1_218⟩ := u
              obtain ⟨hT9_219, hp_220⟩ := hw_215
              have hp_220 : rp_o er1_198 ep1_199 er1_217 ep1_218 (1 : Int32) (rp_sk b ln pl1_197) True := hp_220
              have hP : va_P D vwCl ([(rf_RW ct 0 bt 800 b), (ty_RD rd bt ln tg (rp_sk b ln pl1_197) (rp_sk b ln y_2) er1_217 ep1_218)] ++ ws_196) H := ty_bkP hP
              have hD : va_D A ([(rf_RW ct 0 bt 800 b), (ty_RD rd bt ln tg (rp_sk b ln pl1_197) (rp_sk b ln y_2) er1_217 ep1_218)] ++ ws_196) := ty_bkD hD
              have hP : va_P D vwCl ([(ty_RD rd bt ln tg (rp_sk b ln pl1_197) (rp_sk b ln y_2) er1_217 ep1_218), (rf_RW ct 0 bt 800 b)] ++ ws_196) H := ty_permP hP (ty_ordp (E := [(rf_RW ct 0 bt 800 b), (ty_RD rd bt ln tg (rp_sk b ln pl1_197) (rp_sk b ln y_2) er1_217 ep1_218)]) (E2 := [(ty_RD rd bt ln tg (rp_sk b ln pl1_197) (rp_sk b ln y_2) er1_217 ep1_218), (rf_RW ct 0 bt 800 b)]) (n := 2) [1, 0] rfl rfl (by decide))
              have hD : va_D A ([(ty_RD rd bt ln tg (rp_sk b ln pl1_197) (rp_sk b ln y_2) er1_217 ep1_218), (rf_RW ct 0 bt 800 b)] ++ ws_196) := ty_permD hD (ty_ordp (E := [(rf_RW ct 0 bt 800 b), (ty_RD rd bt ln tg (rp_sk b ln pl1_197) (rp_sk b ln y_2) er1_217 ep1_218)]) (E2 := [(ty_RD rd bt ln tg (rp_sk b ln pl1_197) (rp_sk b ln y_2) er1_217 ep1_218), (rf_RW ct 0 bt 800 b)]) (n := 2) [1, 0] rfl rfl (by decide))
              exact W.vret hx hb hr (fun t ht hW => ⟨⟨(ws_196, (rp_sk b ln pl1_197), (rp_sk b ln y_2), er1_217, ep1_218, cnt_5, nc_6, np_7, nf_8), rfl, ⟨hT, rp_e1 hex_2.2.1 (by omega) rfl hso_203 hc_212 hp_220⟩, by rw [ht]; exact hP, by rw [hAe]; exact hD⟩, hS.F ht⟩) hS.2.2 dX6_readText_132
          · subst hc_212
            refine lv_aload_n hx hb dX6_readText_84 rfl (lv_at hl 0 rfl) ?_
            have hP : va_P D vwCl (([] ++ ws_196) ++ ([(ty_RD rd bt ln tg (rp_sk b ln pl1_197) (rp_sk b ln y_2) (0) ep1_199), (rf_RW ct 0 bt 800 b)] ++ ([] : va_W))) H := ty_permP (w1 := (([] ++ [(ty_RD rd bt ln tg (rp_sk b ln pl1_197) (rp_sk b ln y_2) (0) ep1_199), (rf_RW ct 0 bt 800 b)]) ++ ws_196)) hP ty_mv2
            have hD : va_D A (([] ++ ws_196) ++ ([(ty_RD rd bt ln tg (rp_sk b ln pl1_197) (rp_sk b ln y_2) (0) ep1_199), (rf_RW ct 0 bt 800 b)] ++ ([] : va_W))) := ty_permD (w1 := (([] ++ [(ty_RD rd bt ln tg (rp_sk b ln pl1_197) (rp_sk b ln y_2) (0) ep1_199), (rf_RW ct 0 bt 800 b)]) ++ ws_196)) hD ty_mv2
            refine ty_ki (wr := ([] ++ ws_196)) (wc := ([(ty_RD rd bt ln tg (rp_sk b ln pl1_197) (rp_sk b ln y_2) (0) ep1_199), (rf_RW ct 0 bt 800 b)] ++ ([] : va_W))) (va_runV (As := []) (rest := []) ⟨hx, hb, hml, hown, hts⟩ (r_next l D ct (fun _ => none) [] (fun _ => True) (fun _ _ _ => True) rd bt tg ln (rp_sk b ln pl1_197) (rp_sk b ln y_2) (0 : Int32) ep1_199 b _ ty_V0 ty_C0 ty_y10 hln (by omega)) (cm_V 0 hts kc_X6_next ki_RX6 kl_RX6_61 kv_X6_next kx_X6_next kd_X6_next ⟨Nat.le_of_ble_eq_true rfl, Nat.le_of_ble_eq_true rfl⟩) (ty_preE (wr := ([] ++ ws_196)) (wc := ([(ty_RD rd bt ln tg (rp_sk b ln pl1_197) (rp_sk b ln y_2) (0) ep1_199), (rf_RW ct 0 bt 800 b)] ++ ([] : va_W))) (ci := 6) (q0 := (([] ++ ws_196) : va_W).length + 0) hP hK hD hS hA hX rfl (ty_app rfl)) rfl rfl hl.1 rfl (lv_room (Nat.le_of_ble_eq_true rfl)) dX6_readText_85 ⟨Nat.le_of_ble_eq_true rfl, Nat.le_of_ble_eq_true rfl⟩) hP hD hS hA (fun r_221 u H locs hw_222 hP hD hS => ?_)
            obtain ⟨ws_223, rfl⟩ : ∃ z, z = u := ⟨_, rfl⟩
            obtain ⟨hT9_224, rfl⟩ := hw_222
            have hP : va_P D vwCl ([(ty_RD rd bt ln tg (rp_sk b ln pl1_197) (rp_sk b ln y_2) (0) ep1_199), (rf_RW ct 0 bt 800 b)] ++ ws_196) H := ty_bkP hP
            have hD : va_D A ([(ty_RD rd bt ln tg (rp_sk b ln pl1_197) (rp_sk b ln y_2) (0) ep1_199), (rf_RW ct 0 bt 800 b)] ++ ws_196) := ty_bkD hD
            refine lv_bipush (v := 59) hx hb dX6_readText_88 (by decide) ?_
            refine lv_icmp_eq (tgt := 96) hx hb dX6_readText_90 (by decide) (fun hc_225 => ?_) (fun hc_225 => ?_)
            · refine lv_aload_n hx hb dX6_readText_96 rfl (lv_at hl 0 rfl) ?_
              refine lv_dup hx hb dX6_readText_97 rfl ?_
              refine va_get (v := .int (rp_sk b ln pl1_197)) (D := D) (ci := 6) (C := RX6) (T := TX6) (N := 7) hx hb hts in_X6 hown hK hP 0 rfl rfl 3 (by decide) (hts _ kl_RX6_65) (fun _ h9 => h9) rfl dX6_readText_98 ?_
              refine lv_iconst (v := 1) hx hb dX6_readText_101 (by decide) ?_
              refine lv_iadd hx hb dX6_readText_102 ?_
              refine va_put (v := .int ((rp_sk b ln pl1_197) + 1)) (ty := .int) (D := D) (ci := 6) (C := RX6) (T := TX6) (N := 7) hx hb hts in_X6 tyX6 tyX6_ok nmX6 hown hK hP hD hS 0 rfl rfl 3 (by decide) (hts _ kl_RX6_65) (fun _ h9 => h9) rfl (by decide +kernel) rfl rfl (Nat.le_of_ble_eq_true rfl) dX6_readText_103 (fun H locs hP hD hS => ?_)
              have hP : va_P D vwCl ([(ty_RD rd bt ln tg ((rp_sk b ln pl1_197) + 1) (rp_sk b ln y_2) (0) ep1_199), (rf_RW ct 0 bt 800 b)] ++ ws_196) H := hP
              have hD : va_D A ([(ty_RD rd bt ln tg ((rp_sk b ln pl1_197) + 1) (rp_sk b ln y_2) (0) ep1_199), (rf_RW ct 0 bt 800 b)] ++ ws_196) := hD
              refine lv_iinc (v := (y_1 + Int32.ofInt 1)) (lv' := [(1, .int (y_1 + Int32.ofInt 1)), (0, .ref rd)]) hx hb dX6_readText_106 hl (k := 1) rfl rfl (by decide) rfl (fun ls hl => ?_)
              refine lv_goto (tgt := 2) hx hb dX6_readText_109 (by decide) ?_
              exact ih_2 _ _ _ _ (ty_inc (N := 801) (by rw [Int32.lt_iff_toInt_lt, show (801 : Int32).toInt = 801 from by decide]; omega)) ⟨ws_196, (y_1 + Int32.ofInt 1), ((rp_sk b ln pl1_197) + 1), (rp_sk b ln y_2), ep1_199, cnt_5, nc_6, np_7, nf_8, N_9, rfl, hT, hP, hD, hS, (lv_sub hl [1, 0] rfl), rp_xn hex_2.2.1 hln.2 (by omega) rfl hso_203 hc_225⟩
            · refine lv_goto (tgt := 112) hx hb dX6_readText_93 (by decide) ?_
              refine lv_aload_n hx hb dX6_readText_112 rfl (lv_at hl 0 rfl) ?_
              refine va_get (v := .int (rp_sk b ln pl1_197)) (D := D) (ci := 6) (C := RX6) (T := TX6) (N := 7) hx hb hts in_X6 hown hK hP 0 rfl rfl 3 (by decide) (hts _ kl_RX6_65) (fun _ h9 => h9) rfl dX6_readText_113 ?_
              refine lv_aload_n hx hb dX6_readText_116 rfl (lv_at hl 0 rfl) ?_
              refine va_get (v := .int ln) (D := D) (ci := 6) (C := RX6) (T := TX6) (N := 7) hx hb hts in_X6 hown hK hP 0 rfl rfl 1 (by decide) (hts _ kl_RX6_15) (fun _ h9 => h9) rfl dX6_readText_117 ?_
              refine lv_icmp_ge (tgt := 132) hx hb dX6_readText_120 (by decide) (fun hc_226 => ?_) (fun hc_226 => ?_)
              · exact W.vret hx hb hr (fun t ht hW => ⟨⟨(ws_196, (rp_sk b ln pl1_197), (rp_sk b ln y_2), (0 : Int32), ep1_199, cnt_5, nc_6, np_7, nf_8), rfl, ⟨hT, rp_e3 hex_2.2.1 (by omega) rfl hso_203 hc_225 hc_226⟩, by rw [ht]; exact hP, by rw [hAe]; exact hD⟩, hS.F ht⟩) hS.2.2 dX6_readText_132
              · refine lv_aload_n hx hb dX6_readText_123 rfl (lv_at hl 0 rfl) ?_
                refine lv_iconst (v := 1) hx hb dX6_readText_124 (by decide) ?_
                refine lv_aload_n hx hb dX6_readText_125 rfl (lv_at hl 0 rfl) ?_
                refine va_get (v := .int (rp_sk b ln pl1_197)) (D := D) (ci := 6) (C := RX6) (T := TX6) (N := 7) hx hb hts in_X6 hown hK hP 0 rfl rfl 3 (by decide) (hts _ kl_RX6_65) (fun _ h9 => h9) rfl dX6_readText_126 ?_
                have hP : va_P D vwCl ([(rf_RW ct 0 bt 800 b), (ty_RD rd bt ln tg (rp_sk b ln pl1_197) (rp_sk b ln y_2) (0) ep1_199)] ++ ws_196) H := ty_permP hP (ty_ordp (E := [(ty_RD rd bt ln tg (rp_sk b ln pl1_197) (rp_sk b ln y_2) (0) ep1_199), (rf_RW ct 0 bt 800 b)]) (E2 := [(rf_RW ct 0 bt 800 b), (ty_RD rd bt ln tg (rp_sk b ln pl1_197) (rp_sk b ln y_2) (0) ep1_199)]) (n := 2) [1, 0] rfl rfl (by decide))
                have hD : va_D A ([(rf_RW ct 0 bt 800 b), (ty_RD rd bt ln tg (rp_sk b ln pl1_197) (rp_sk b ln y_2) (0) ep1_199)] ++ ws_196) := ty_permD hD (ty_ordp (E := [(ty_RD rd bt ln tg (rp_sk b ln pl1_197) (rp_sk b ln y_2) (0) ep1_199), (rf_RW ct 0 bt 800 b)]) (E2 := [(rf_RW ct 0 bt 800 b), (ty_RD rd bt ln tg (rp_sk b ln pl1_197) (rp_sk b ln y_2) (0) ep1_199)]) (n := 2) [1, 0] rfl rfl (by decide))
                have hP : va_P D vwCl (([(rf_RW ct 0 bt 800 b)] ++ ws_196) ++ ([(ty_RD rd bt ln tg (rp_sk b ln pl1_197) (rp_sk b ln y_2) (0) ep1_199)] ++ ([] : va_W))) H := ty_permP (w1 := (([(rf_RW ct 0 bt 800 b)] ++ [(ty_RD rd bt ln tg (rp_sk b ln pl1_197) (rp_sk b ln y_2) (0) ep1_199)]) ++ ws_196)) hP ty_mv2
                have hD : va_D A (([(rf_RW ct 0 bt 800 b)] ++ ws_196) ++ ([(ty_RD rd bt ln tg (rp_sk b ln pl1_197) (rp_sk b ln y_2) (0) ep1_199)] ++ ([] : va_W))) := ty_permD (w1 := (([(rf_RW ct 0 bt 800 b)] ++ [(ty_RD rd bt ln tg (rp_sk b ln pl1_197) (rp_sk b ln y_2) (0) ep1_199)]) ++ ws_196)) hD ty_mv2
                refine ty_kv (wr := ([(rf_RW ct 0 bt 800 b)] ++ ws_196)) (wc := ([(ty_RD rd bt ln tg (rp_sk b ln pl1_197) (rp_sk b ln y_2) (0) ep1_199)] ++ ([] : va_W))) (va_runV (As := [.int 1, .int (rp_sk b ln pl1_197)]) (rest := []) ⟨hx, hb, hml, hown, hts⟩ (r_fail l D ct (fun _ => none) [] (fun _ => True) (fun _ _ _ => True) rd bt tg ln (rp_sk b ln pl1_197) (rp_sk b ln y_2) (0 : Int32) ep1_199 (1 : Int32) (rp_sk b ln pl1_197) _ ty_V0 ty_C0 ty_y10 (by decide)) (cm_V 2 hts kc_X6_fail ki_RX6 kl_RX6_68 kv_X6_fail kx_X6_fail kd_X6_fail ⟨Nat.le_of_ble_eq_true rfl, Nat.le_of_ble_eq_true rfl⟩) (ty_preE (wr := ([(rf_RW ct 0 bt 800 b)] ++ ws_196)) (wc := ([(ty_RD rd bt ln tg (rp_sk b ln pl1_197) (rp_sk b ln y_2) (0) ep1_199)] ++ ([] : va_W))) (ci := 6) (q0 := (([(rf_RW ct 0 bt 800 b)] ++ ws_196) : va_W).length + 0) hP hK hD hS hA hX rfl (ty_app rfl)) rfl rfl hl.1 rfl (lv_room (Nat.le_of_ble_eq_true rfl)) dX6_readText_129 ⟨Nat.le_of_ble_eq_true rfl, Nat.le_of_ble_eq_true rfl⟩) hP hD hS hA (fun u H locs hw_228 hP hD hS => ?_)
                obtain ⟨ws_229, er1_230, ep1_231⟩ := u
                obtain ⟨hT9_232, hp_233⟩ := hw_228
                have hp_233 : rp_o (0 : Int32) ep1_199 er1_230 ep1_231 (1 : Int32) (rp_sk b ln pl1_197) True := hp_233
                have hP : va_P D vwCl ([(rf_RW ct 0 bt 800 b), (ty_RD rd bt ln tg (rp_sk b ln pl1_197) (rp_sk b ln y_2) er1_230 ep1_231)] ++ ws_196) H := ty_bkP hP
                have hD : va_D A ([(rf_RW ct 0 bt 800 b), (ty_RD rd bt ln tg (rp_sk b ln pl1_197) (rp_sk b ln y_2) er1_230 ep1_231)] ++ ws_196) := ty_bkD hD
                have hP : va_P D vwCl ([(ty_RD rd bt ln tg (rp_sk b ln pl1_197) (rp_sk b ln y_2) er1_230 ep1_231), (rf_RW ct 0 bt 800 b)] ++ ws_196) H := ty_permP hP (ty_ordp (E := [(rf_RW ct 0 bt 800 b), (ty_RD rd bt ln tg (rp_sk b ln pl1_197) (rp_sk b ln y_2) er1_230 ep1_231)]) (E2 := [(ty_RD rd bt ln tg (rp_sk b ln pl1_197) (rp_sk b ln y_2) er1_230 ep1_231), (rf_RW ct 0 bt 800 b)]) (n := 2) [1, 0] rfl rfl (by decide))
                have hD : va_D A ([(ty_RD rd bt ln tg (rp_sk b ln pl1_197) (rp_sk b ln y_2) er1_230 ep1_231), (rf_RW ct 0 bt 800 b)] ++ ws_196) := ty_permD hD (ty_ordp (E := [(rf_RW ct 0 bt 800 b), (ty_RD rd bt ln tg (rp_sk b ln pl1_197) (rp_sk b ln y_2) er1_230 ep1_231)]) (E2 := [(ty_RD rd bt ln tg (rp_sk b ln pl1_197) (rp_sk b ln y_2) er1_230 ep1_231), (rf_RW ct 0 bt 800 b)]) (n := 2) [1, 0] rfl rfl (by decide))
                exact W.vret hx hb hr (fun t ht hW => ⟨⟨(ws_196, (rp_sk b ln pl1_197), (rp_sk b ln y_2), er1_230, ep1_231, cnt_5, nc_6, np_7, nf_8), rfl, ⟨hT, rp_e2 hex_2.2.1 (by omega) rfl hso_203 hc_225 hby (by omega) hc_226 hp_233⟩, by rw [ht]; exact hP, by rw [hAe]; exact hD⟩, hS.F ht⟩) hS.2.2 dX6_readText_132
set_option maxRecDepth 100000 in
set_option maxHeartbeats 4000000 in
theorem r_clear (l : Launch) (D : va_G) (ct : Nat → ClassId) (S : ty_S) (ws : va_W) (sp : Nat) (cu : Nat) (na : Nat) (pr : Nat) (ch : Nat) (sz : Nat) (hT : ty_V ct S (rp_S sp cu na pr ch) ws) (h_sp : S sp = some (.inl 9)) (h_cu : S cu = some (.inl 2)) (h_na : S na = some (.inr (1, 4))) (h_pr : S pr = some (.inl 5)) : Met l yX9_clear (ws_ yX9_clear cX9_clear 1 none) ({ frames := 1, cells := 0, slots := 0, locals := 20 } : Room) (va_Pc [.ref sp] (cmP D ct sz ([] ++ ws))) (va_Qv (fun (u : va_W × (Nat → Int64)) => match u with | (u9, nf) => ty_V ct S (rp_F sp cu na pr ch 0 0 0 nf) u9) (cmB D ([] ++ ws) sz (fun (u : va_W × (Nat → Int64)) => match u with | (u9, nf) => ([] ++ u9))) (va_A ([] ++ ws) sz)) 0 0 (va_A ([] ++ ws) sz) := by
  refine Met.ofW (cc := cX9_clear) (maxL := 1) (ret := none) (by decide) rfl ?_
  intro p e s m args below meth c s₁ B hml hv
  obtain ⟨rfl, hsz, hP, hK, hD0, hX⟩ := hv
  have hx := B.exec
  have hb := B.bytes
  have hr := B.returns
  have hts := ws_all (atoms_spec (ws := ws_ yX9_clear cX9_clear 1 none) B.pre)
  have hown : s.vm.findClass RX9 = some m.cls := findClass_of_methodNamed B.named
  have hlocks := B.notSynchronized
  subst hsz
  have hD := hD0.self (sz := s.heap.size)
  generalize hAe : va_A ([] ++ ws) s.heap.size = A at hD hX ⊢
  have hA : ∀ q : Nat, s.heap.size ≤ q → A q := fun q h => by rw [← hAe]; exact Or.inr h
  have hS : va_S A s.heap s.heap [] := va_S.rf
  have hl := lv_entry ([.ref sp]) (n := 1) (Nat.le_of_ble_eq_true rfl)
  rw [lg_entry_eq]
  generalize (lg_sl ([.ref sp]) ++ List.replicate (1 - (lg_sl ([.ref sp])).length) Slot.unset).toArray = ls at hl ⊢
  have hl : lv_has ls 1 [(0, .ref sp)] := hl
  obtain ⟨nf9, hnf9⟩ := rp_flx hT.1 h_na
  have hT : ty_V ct S (rp_G sp cu na pr ch nf9 False False False) ws := ⟨hT.1, hT.2, hnf9, fun q => q.elim, fun q => q.elim, fun q => q.elim⟩
  refine lv_aload_n hx hb dX9_clear_0 rfl (lv_at hl 0 rfl) ?_
  refine lv_iconst (v := 0) hx hb dX9_clear_1 (by decide) ?_
  refine ty_putT (v := .int 0) (ty := .int) (E := []) (ws := ws) (D := D) (ci := 9) (C := RX9) (T := TX9) (N := 8) hx hb hts in_X9 tyX9 tyX9_ok nmX9 hown hK hP hD hS hT h_sp rfl 0 (by decide) (hts _ kl_RX9_53) (fun _ h9 => h9) rfl (by decide +kernel) rfl rfl rfl ⟨_, rfl⟩ dX9_clear_2 (ph2 := (rp_G sp cu na pr ch nf9 False False False)) (fun j fs hj hl h => rp_Gt _ j fs hj hl h) (fun ws_1 H locs hT hfd_2 hP hD hS => ?_)
  refine lv_aload_n hx hb dX9_clear_5 rfl (lv_at hl 0 rfl) ?_
  refine ty_get (E := []) (ws := ws_1) (D := D) (ci := 9) (C := RX9) (T := TX9) (N := 8) hx hb hts in_X9 hown hK hP hT h_sp rfl 1 (by decide) (hts _ kl_RX9_12) (fun _ h9 => h9) rfl dX9_clear_6 (fun _ hv_3 hf_4 => ?_)
  obtain ⟨a_5, rfl, ha_6⟩ := hv_3
  refine ty_kv (wr := []) (wc := ([] ++ ws_1)) (va_runVN (As := []) (rest := []) ⟨hx, hb, hml, hown, hts⟩ (t_X7_clear l D ct S ws_1 (rp_G sp cu na pr ch nf9 False False False) rp_xG a_5 _ hT ha_6 rp_GC rp_G1 rp_G7) (cm_VN 0 hts kc_X7_clear ki_RX7 kl_RX9_57 kv_X7_clear kx_X7_clear kd_X7_clear ⟨Nat.le_of_ble_eq_true rfl, Nat.le_of_ble_eq_true rfl⟩) (ty_preV (wr := []) (E := []) (ws := ws_1) (ci := 7) hP hK hD hS hA hX hT rfl ha_6) rfl rfl hl.1 rfl (lv_room (Nat.le_of_ble_eq_true rfl)) dX9_clear_9 ⟨Nat.le_of_ble_eq_true rfl, Nat.le_of_ble_eq_true rfl⟩) hP hD hS hA (fun u H locs hw_8 hP hD hS => ?_)
  obtain ⟨ws_9, rfl⟩ : ∃ z, z = u := ⟨_, rfl⟩
  have hT := hw_8
  have hP : va_P D vwCl ([] ++ ws_9) H := hP
  have hD : va_D A ([] ++ ws_9) := hD
  refine lv_aload_n hx hb dX9_clear_12 rfl (lv_at hl 0 rfl) ?_
  refine ty_getD (v := .ref cu) (E := []) (ws := ws_9) (D := D) (ci := 9) (C := RX9) (T := TX9) (N := 8) hx hb hts in_X9 hown hK hP hD hT h_sp rfl 2 (by decide) (hts _ kl_RX9_21) (fun _ h9 => h9) (ty_fcd hT.2.1.1) dX9_clear_13 ?_
  refine lv_iconst (v := 0) hx hb dX9_clear_16 (by decide) ?_
  refine ty_putNT (v := .int 0) (ty := .int) (E := []) (ws := ws_9) (D := D) (ci := 2) (C := RX2) (T := TX2) (N := 4) hx hb hts in_X2 tyX2 tyX2_ok nmX2 hown hK hP hD hS hT h_cu rfl 0 (by decide) (hts _ kl_RX9_60) (fun _ h9 => h9) rfl (by decide +kernel) rfl rfl rfl ⟨_, rfl⟩ dX9_clear_17 (ph2 := (rp_G sp cu na pr ch nf9 True False False)) (fun j fs hj hl h => rp_Gx j fs hj hl h) (fun ws_10 H locs hT hfd_11 hP hD hS => ?_)
  refine lv_aload_n hx hb dX9_clear_20 rfl (lv_at hl 0 rfl) ?_
  refine ty_getD (v := .ref pr) (E := []) (ws := ws_10) (D := D) (ci := 9) (C := RX9) (T := TX9) (N := 8) hx hb hts in_X9 hown hK hP hD hT h_sp rfl 3 (by decide) (hts _ kl_RX9_28) (fun _ h9 => h9) (ty_fcd hT.2.1.2.2.1) dX9_clear_21 ?_
  refine lv_iconst (v := 0) hx hb dX9_clear_24 (by decide) ?_
  refine ty_putNT (v := .int 0) (ty := .int) (E := []) (ws := ws_10) (D := D) (ci := 5) (C := RX5) (T := TX5) (N := 5) hx hb hts in_X5 tyX5 tyX5_ok nmX5 hown hK hP hD hS hT h_pr rfl 0 (by decide) (hts _ kl_RX9_63) (fun _ h9 => h9) rfl (by decide +kernel) rfl rfl rfl ⟨_, rfl, by decide⟩ dX9_clear_25 (ph2 := (rp_G sp cu na pr ch nf9 True True False)) (fun j fs hj hl h => rp_Gy j fs hj hl h) (fun ws_12 H locs hT hfd_13 hP hD hS => ?_)
  refine lv_aload_n hx hb dX9_clear_28 rfl (lv_at hl 0 rfl) ?_
  refine lv_iconst (v := 0) hx hb dX9_clear_29 (by decide) ?_
  refine ty_putT (v := .int 0) (ty := .int) (E := []) (ws := ws_12) (D := D) (ci := 9) (C := RX9) (T := TX9) (N := 8) hx hb hts in_X9 tyX9 tyX9_ok nmX9 hown hK hP hD hS hT h_sp rfl 4 (by decide) (hts _ kl_RX9_64) (fun _ h9 => h9) rfl (by decide +kernel) rfl rfl rfl ⟨_, rfl⟩ dX9_clear_30 (ph2 := (rp_G sp cu na pr ch nf9 True True True)) (fun j fs hj hl h => rp_Gz j fs hj hl h) (fun ws_14 H locs hT hfd_15 hP hD hS => ?_)
  refine lv_aload_n hx hb dX9_clear_33 rfl (lv_at hl 0 rfl) ?_
  refine ty_get (E := []) (ws := ws_14) (D := D) (ci := 9) (C := RX9) (T := TX9) (N := 8) hx hb hts in_X9 hown hK hP hT h_sp rfl 6 (by decide) (hts _ kl_RX9_46) (fun _ h9 => h9) rfl dX9_clear_34 (fun _ hv_16 hf_17 => ?_)
  obtain ⟨a_18, rfl, ha_19⟩ := hv_16
  refine ty_kv (wr := []) (wc := ([] ++ ws_14)) (va_runVN (As := []) (rest := []) ⟨hx, hb, hml, hown, hts⟩ (t_X8_clear l D ct S ws_14 (rp_G sp cu na pr ch nf9 True True True) rp_xG a_18 _ hT ha_19 rp_GC rp_G1) (cm_VN 0 hts kc_X8_clear ki_RX8 kl_RX9_67 kv_X8_clear kx_X8_clear kd_X8_clear ⟨Nat.le_of_ble_eq_true rfl, Nat.le_of_ble_eq_true rfl⟩) (ty_preV (wr := []) (E := []) (ws := ws_14) (ci := 8) hP hK hD hS hA hX hT rfl ha_19) rfl rfl hl.1 rfl (lv_room (Nat.le_of_ble_eq_true rfl)) dX9_clear_37 ⟨Nat.le_of_ble_eq_true rfl, Nat.le_of_ble_eq_true rfl⟩) hP hD hS hA (fun u H locs hw_21 hP hD hS => ?_)
  obtain ⟨ws_22, rfl⟩ : ∃ z, z = u := ⟨_, rfl⟩
  have hT := hw_21
  have hP : va_P D vwCl ([] ++ ws_22) H := hP
  have hD : va_D A ([] ++ ws_22) := hD
  refine lv_aload_n hx hb dX9_clear_40 rfl (lv_at hl 0 rfl) ?_
  refine ty_get (E := []) (ws := ws_22) (D := D) (ci := 9) (C := RX9) (T := TX9) (N := 8) hx hb hts in_X9 hown hK hP hT h_sp rfl 7 (by decide) (hts _ kl_RX9_50) (fun _ h9 => h9) rfl dX9_clear_41 (fun _ hv_23 hf_24 => ?_)
  obtain ⟨a_25, rfl, ha_26⟩ := hv_23
  refine ty_kv (wr := []) (wc := ([] ++ ws_22)) (va_runVN (As := []) (rest := []) ⟨hx, hb, hml, hown, hts⟩ (t_X8_clear l D ct S ws_22 (rp_G sp cu na pr ch nf9 True True True) rp_xG a_25 _ hT ha_26 rp_GC rp_G1) (cm_VN 0 hts kc_X8_clear ki_RX8 kl_RX9_67 kv_X8_clear kx_X8_clear kd_X8_clear ⟨Nat.le_of_ble_eq_true rfl, Nat.le_of_ble_eq_true rfl⟩) (ty_preV (wr := []) (E := []) (ws := ws_22) (ci := 8) hP hK hD hS hA hX hT rfl ha_26) rfl rfl hl.1 rfl (lv_room (Nat.le_of_ble_eq_true rfl)) dX9_clear_44 ⟨Nat.le_of_ble_eq_true rfl, Nat.le_of_ble_eq_true rfl⟩) hP hD hS hA (fun u H locs hw_28 hP hD hS => ?_)
  obtain ⟨ws_29, rfl⟩ : ∃ z, z = u := ⟨_, rfl⟩
  have hT := hw_28
  have hP : va_P D vwCl ([] ++ ws_29) H := hP
  have hD : va_D A ([] ++ ws_29) := hD
  have hT : ty_V ct S (rp_F sp cu na pr ch 0 0 0 nf9) ws_29 := ⟨hT.1, rp_GF hT.2⟩
  exact W.vret hx hb hr (fun t ht hW => ⟨⟨(ws_29, nf9), rfl, hT, by rw [ht]; exact hP, by rw [hAe]; exact hD⟩, hS.F ht⟩) hS.2.2 dX9_clear_47
set_option maxRecDepth 100000 in
set_option maxHeartbeats 4000000 in
theorem r_copyFrom (l : Launch) (D : va_G) (ct : Nat → ClassId) (S : ty_S) (ws : va_W) (w : Nat) (sp : Nat) (cu : Nat) (na : Nat) (pr : Nat) (ch : Nat) (nc : Int32) (sz : Nat) (hT : ty_V ct S (rp_Q sp cu na pr ch w nc False) ws) (h_w : S w = some (.inl 9)) (h_sp : S sp = some (.inl 9)) : Met l yX9_copyFrom (ws_ yX9_copyFrom cX9_copyFrom 5 none) ({ frames := 4, cells := 0, slots := 0, locals := 143 } : Room) (va_Pc [.ref w, .ref sp] (cmP D ct sz ([] ++ ws))) (va_Qv (fun (u9 : va_W) => ty_V ct S (rp_Q sp cu na pr ch w nc True) u9) (cmB D ([] ++ ws) sz (fun (u9 : va_W) => ([] ++ u9))) (va_A ([] ++ ws) sz)) 0 0 (va_A ([] ++ ws) sz) := by
  refine Met.ofW (cc := cX9_copyFrom) (maxL := 5) (ret := none) (by decide) rfl ?_
  intro p e s m args below meth c s₁ B hml hv
  obtain ⟨rfl, hsz, hP, hK, hD0, hX⟩ := hv
  have hx := B.exec
  have hb := B.bytes
  have hr := B.returns
  have hts := ws_all (atoms_spec (ws := ws_ yX9_copyFrom cX9_copyFrom 5 none) B.pre)
  have hown : s.vm.findClass RX9 = some m.cls := findClass_of_methodNamed B.named
  have hlocks := B.notSynchronized
  subst hsz
  have hD := hD0.self (sz := s.heap.size)
  generalize hAe : va_A ([] ++ ws) s.heap.size = A at hD hX ⊢
  have hA : ∀ q : Nat, s.heap.size ≤ q → A q := fun q h => by rw [← hAe]; exact Or.inr h
  have hS : va_S A s.heap s.heap [] := va_S.rf
  have hl := lv_entry ([.ref w, .ref sp]) (n := 5) (Nat.le_of_ble_eq_true rfl)
  rw [lg_entry_eq]
  generalize (lg_sl ([.ref w, .ref sp]) ++ List.replicate (5 - (lg_sl ([.ref w, .ref sp])).length) Slot.unset).toArray = ls at hl ⊢
  have hl : lv_has ls 5 [(0, .ref w), (1, .ref sp)] := hl
  refine lv_aload_n hx hb dX9_copyFrom_0 rfl (lv_at hl 0 rfl) ?_
  refine lv_aload_n hx hb dX9_copyFrom_1 rfl (lv_at hl 1 rfl) ?_
  refine ty_get (E := []) (ws := ws) (D := D) (ci := 9) (C := RX9) (T := TX9) (N := 8) hx hb hts in_X9 hown hK hP hT h_sp rfl 0 (by decide) (hts _ kl_RX9_53) (fun _ h9 => h9) rfl dX9_copyFrom_2 (fun _ hv_1 hf_2 => ?_)
  obtain ⟨x_3, rfl⟩ := hv_1
  refine ty_putT (v := .int x_3) (ty := .int) (E := []) (ws := ws) (D := D) (ci := 9) (C := RX9) (T := TX9) (N := 8) hx hb hts in_X9 tyX9 tyX9_ok nmX9 hown hK hP hD hS hT h_w rfl 0 (by decide) (hts _ kl_RX9_53) (fun _ h9 => h9) rfl (by decide +kernel) rfl rfl rfl ⟨_, rfl⟩ dX9_copyFrom_5 (ph2 := (rp_Q sp cu na pr ch w nc False)) (fun j fs hj hl h => rp_Qt _ j fs hj hl h) (fun ws_4 H locs hT hfd_5 hP hD hS => ?_)
  refine lv_aload_n hx hb dX9_copyFrom_8 rfl (lv_at hl 0 rfl) ?_
  refine ty_get (E := []) (ws := ws_4) (D := D) (ci := 9) (C := RX9) (T := TX9) (N := 8) hx hb hts in_X9 hown hK hP hT h_w rfl 1 (by decide) (hts _ kl_RX9_12) (fun _ h9 => h9) rfl dX9_copyFrom_9 (fun _ hv_6 hf_7 => ?_)
  obtain ⟨a_8, rfl, ha_9⟩ := hv_6
  refine lv_aload_n hx hb dX9_copyFrom_12 rfl (lv_at hl 1 rfl) ?_
  refine ty_get (E := []) (ws := ws_4) (D := D) (ci := 9) (C := RX9) (T := TX9) (N := 8) hx hb hts in_X9 hown hK hP hT h_sp rfl 1 (by decide) (hts _ kl_RX9_12) (fun _ h9 => h9) rfl dX9_copyFrom_13 (fun _ hv_10 hf_11 => ?_)
  obtain ⟨a_12, rfl, ha_13⟩ := hv_10
  refine ty_kv (wr := []) (wc := ([] ++ ws_4)) (va_runVN (As := [.ref a_12]) (rest := []) ⟨hx, hb, hml, hown, hts⟩ (t_X7_copyFrom l D ct S ws_4 (rp_Q sp cu na pr ch w nc False) (rp_xQ ch) a_8 a_12 _ hT ha_9 ha_13 rp_QC rp_Q1 rp_Q7) (cm_VN 1 hts kc_X7_copyFrom ki_RX7 kl_RX9_112 kv_X7_copyFrom kx_X7_copyFrom kd_X7_copyFrom ⟨Nat.le_of_ble_eq_true rfl, Nat.le_of_ble_eq_true rfl⟩) (ty_preV (wr := []) (E := []) (ws := ws_4) (ci := 7) hP hK hD hS hA hX hT rfl ha_9) rfl rfl hl.1 rfl (lv_room (Nat.le_of_ble_eq_true rfl)) dX9_copyFrom_16 ⟨Nat.le_of_ble_eq_true rfl, Nat.le_of_ble_eq_true rfl⟩) hP hD hS hA (fun u H locs hw_15 hP hD hS => ?_)
  obtain ⟨ws_16, rfl⟩ : ∃ z, z = u := ⟨_, rfl⟩
  have hT := hw_15
  have hP : va_P D vwCl ([] ++ ws_16) H := hP
  have hD : va_D A ([] ++ ws_16) := hD
  refine lv_aload_n hx hb dX9_copyFrom_19 rfl (lv_at hl 0 rfl) ?_
  refine ty_get (E := []) (ws := ws_16) (D := D) (ci := 9) (C := RX9) (T := TX9) (N := 8) hx hb hts in_X9 hown hK hP hT h_w rfl 2 (by decide) (hts _ kl_RX9_21) (fun _ h9 => h9) rfl dX9_copyFrom_20 (fun _ hv_17 hf_18 => ?_)
  obtain ⟨a_19, rfl, ha_20⟩ := hv_17
  refine lv_aload_n hx hb dX9_copyFrom_23 rfl (lv_at hl 1 rfl) ?_
  refine ty_get (E := []) (ws := ws_16) (D := D) (ci := 9) (C := RX9) (T := TX9) (N := 8) hx hb hts in_X9 hown hK hP hT h_sp rfl 2 (by decide) (hts _ kl_RX9_21) (fun _ h9 => h9) rfl dX9_copyFrom_24 (fun _ hv_21 hf_22 => ?_)
  obtain ⟨a_23, rfl, ha_24⟩ := hv_21
  refine ty_kv (wr := []) (wc := ([] ++ ws_16)) (va_runVN (As := [.ref a_23]) (rest := []) ⟨hx, hb, hml, hown, hts⟩ (t_X2_copyFrom l D ct S ws_16 (rp_Q sp cu na pr ch w nc False) (rp_xQ ch) a_19 a_23 _ hT ha_20 ha_24 rp_QC rp_Q1 (rp_Q0 2 (Or.inl rfl)) (rp_Q0 11 (Or.inr (Or.inr rfl)))) (cm_VN 1 hts kc_X2_copyFrom ki_RX2 kl_RX9_116 kv_X2_copyFrom kx_X2_copyFrom kd_X2_copyFrom ⟨Nat.le_of_ble_eq_true rfl, Nat.le_of_ble_eq_true rfl⟩) (ty_preV (wr := []) (E := []) (ws := ws_16) (ci := 2) hP hK hD hS hA hX hT rfl ha_20) rfl rfl hl.1 rfl (lv_room (Nat.le_of_ble_eq_true rfl)) dX9_copyFrom_27 ⟨Nat.le_of_ble_eq_true rfl, Nat.le_of_ble_eq_true rfl⟩) hP hD hS hA (fun u H locs hw_26 hP hD hS => ?_)
  obtain ⟨ws_27, rfl⟩ : ∃ z, z = u := ⟨_, rfl⟩
  have hT := hw_26
  have hP : va_P D vwCl ([] ++ ws_27) H := hP
  have hD : va_D A ([] ++ ws_27) := hD
  refine lv_aload_n hx hb dX9_copyFrom_30 rfl (lv_at hl 0 rfl) ?_
  refine ty_get (E := []) (ws := ws_27) (D := D) (ci := 9) (C := RX9) (T := TX9) (N := 8) hx hb hts in_X9 hown hK hP hT h_w rfl 3 (by decide) (hts _ kl_RX9_28) (fun _ h9 => h9) rfl dX9_copyFrom_31 (fun _ hv_28 hf_29 => ?_)
  obtain ⟨a_30, rfl, ha_31⟩ := hv_28
  refine lv_aload_n hx hb dX9_copyFrom_34 rfl (lv_at hl 1 rfl) ?_
  refine ty_get (E := []) (ws := ws_27) (D := D) (ci := 9) (C := RX9) (T := TX9) (N := 8) hx hb hts in_X9 hown hK hP hT h_sp rfl 3 (by decide) (hts _ kl_RX9_28) (fun _ h9 => h9) rfl dX9_copyFrom_35 (fun _ hv_32 hf_33 => ?_)
  obtain ⟨a_34, rfl, ha_35⟩ := hv_32
  refine ty_kv (wr := []) (wc := ([] ++ ws_27)) (va_runVN (As := [.ref a_34]) (rest := []) ⟨hx, hb, hml, hown, hts⟩ (t_X5_copyFrom l D ct S ws_27 (rp_Q sp cu na pr ch w nc False) (rp_xQ ch) a_30 a_34 _ hT ha_31 ha_35 rp_QC rp_Q1 (rp_Q0 5 (Or.inr (Or.inl rfl)))) (cm_VN 1 hts kc_X5_copyFrom ki_RX5 kl_RX9_119 kv_X5_copyFrom kx_X5_copyFrom kd_X5_copyFrom ⟨Nat.le_of_ble_eq_true rfl, Nat.le_of_ble_eq_true rfl⟩) (ty_preV (wr := []) (E := []) (ws := ws_27) (ci := 5) hP hK hD hS hA hX hT rfl ha_31) rfl rfl hl.1 rfl (lv_room (Nat.le_of_ble_eq_true rfl)) dX9_copyFrom_38 ⟨Nat.le_of_ble_eq_true rfl, Nat.le_of_ble_eq_true rfl⟩) hP hD hS hA (fun u H locs hw_37 hP hD hS => ?_)
  obtain ⟨ws_38, rfl⟩ : ∃ z, z = u := ⟨_, rfl⟩
  have hT := hw_37
  have hP : va_P D vwCl ([] ++ ws_38) H := hP
  have hD : va_D A ([] ++ ws_38) := hD
  refine lv_aload_n hx hb dX9_copyFrom_41 rfl (lv_at hl 0 rfl) ?_
  refine lv_aload_n hx hb dX9_copyFrom_42 rfl (lv_at hl 1 rfl) ?_
  refine ty_getD (v := .int nc) (E := []) (ws := ws_38) (D := D) (ci := 9) (C := RX9) (T := TX9) (N := 8) hx hb hts in_X9 hown hK hP hD hT h_sp rfl 4 (by decide) (hts _ kl_RX9_64) (fun _ h9 => h9) (ty_fcd hT.2.2.1) dX9_copyFrom_43 ?_
  refine ty_putT (v := .int nc) (ty := .int) (E := []) (ws := ws_38) (D := D) (ci := 9) (C := RX9) (T := TX9) (N := 8) hx hb hts in_X9 tyX9 tyX9_ok nmX9 hown hK hP hD hS hT h_w rfl 4 (by decide) (hts _ kl_RX9_64) (fun _ h9 => h9) rfl (by decide +kernel) rfl rfl rfl ⟨_, rfl⟩ dX9_copyFrom_46 (ph2 := (rp_Q sp cu na pr ch w nc True)) (fun j fs hj hl h => rp_Qz j fs hj hl h) (fun ws_39 H locs hT hfd_40 hP hD hS => ?_)
  refine lv_iconst (v := 0) hx hb dX9_copyFrom_49 (by decide) ?_
  refine lv_istore_n (lv' := [(2, .int 0), (0, .ref w), (1, .ref sp)]) hx hb dX9_copyFrom_50 rfl hl (by decide) rfl (fun ls hl => ?_)
  refine ty_loop (I := fun μ H locs ls => ∃ (ws : va_W) (y_41 : Int32), μ = (2147483648 - y_41.toInt).toNat ∧ ty_V ct S (rp_Q sp cu na pr ch w nc True) ws ∧ va_P D vwCl ([] ++ ws) H ∧ va_D A ([] ++ ws) ∧ va_S A s.heap H locs ∧ lv_has ls 5 [(0, .ref w), (1, .ref sp), (2, .int y_41)]) ⟨_, ws_39, (0 : Int32), rfl, hT, hP, hD, hS, (lv_sub hl [1, 2, 0] rfl)⟩ (fun μ H locs ls hI ih_51 => ?_)
  obtain ⟨ws, y_41, rfl, hT, hP, hD, hS, hl⟩ := hI
  refine lv_iload_n hx hb dX9_copyFrom_51 rfl (lv_at hl 2 rfl) ?_
  refine lv_aload_n hx hb dX9_copyFrom_52 rfl (lv_at hl 0 rfl) ?_
  refine ty_getD (v := .int nc) (E := []) (ws := ws) (D := D) (ci := 9) (C := RX9) (T := TX9) (N := 8) hx hb hts in_X9 hown hK hP hD hT h_w rfl 4 (by decide) (hts _ kl_RX9_64) (fun _ h9 => h9) (ty_fcd (hT.2.2.2 trivial)) dX9_copyFrom_53 ?_
  refine lv_icmp_ge (tgt := 93) hx hb dX9_copyFrom_56 (by decide) (fun hc_42 => ?_) (fun hc_42 => ?_)
  · refine lv_aload_n hx hb dX9_copyFrom_93 rfl (lv_at hl 0 rfl) ?_
    refine ty_get (E := []) (ws := ws) (D := D) (ci := 9) (C := RX9) (T := TX9) (N := 8) hx hb hts in_X9 hown hK hP hT h_w rfl 6 (by decide) (hts _ kl_RX9_46) (fun _ h9 => h9) rfl dX9_copyFrom_94 (fun _ hv_43 hf_44 => ?_)
    obtain ⟨a_45, rfl, ha_46⟩ := hv_43
    refine lv_aload_n hx hb dX9_copyFrom_97 rfl (lv_at hl 1 rfl) ?_
    refine ty_get (E := []) (ws := ws) (D := D) (ci := 9) (C := RX9) (T := TX9) (N := 8) hx hb hts in_X9 hown hK hP hT h_sp rfl 6 (by decide) (hts _ kl_RX9_46) (fun _ h9 => h9) rfl dX9_copyFrom_98 (fun _ hv_47 hf_48 => ?_)
    obtain ⟨a_49, rfl, ha_50⟩ := hv_47
    refine ty_kv (wr := []) (wc := ([] ++ ws)) (va_runVN (As := [.ref a_49]) (rest := []) ⟨hx, hb, hml, hown, hts⟩ (t_X8_copyFrom l D ct S ws (rp_Q sp cu na pr ch w nc True) (rp_xQ ch) a_45 a_49 _ hT ha_46 ha_50 rp_QC rp_Q1) (cm_VN 1 hts kc_X8_copyFrom ki_RX8 kl_RX9_125 kv_X8_copyFrom kx_X8_copyFrom kd_X8_copyFrom ⟨Nat.le_of_ble_eq_true rfl, Nat.le_of_ble_eq_true rfl⟩) (ty_preV (wr := []) (E := []) (ws := ws) (ci := 8) hP hK hD hS hA hX hT rfl ha_46) rfl rfl hl.1 rfl (lv_room (Nat.le_of_ble_eq_true rfl)) dX9_copyFrom_101 ⟨Nat.le_of_ble_eq_true rfl, Nat.le_of_ble_eq_true rfl⟩) hP hD hS hA (fun u H locs hw_52 hP hD hS => ?_)
    obtain ⟨ws_53, rfl⟩ : ∃ z, z = u := ⟨_, rfl⟩
    have hT := hw_52
    have hP : va_P D vwCl ([] ++ ws_53) H := hP
    have hD : va_D A ([] ++ ws_53) := hD
    refine lv_aload_n hx hb dX9_copyFrom_104 rfl (lv_at hl 0 rfl) ?_
    refine ty_get (E := []) (ws := ws_53) (D := D) (ci := 9) (C := RX9) (T := TX9) (N := 8) hx hb hts in_X9 hown hK hP hT h_w rfl 7 (by decide) (hts _ kl_RX9_50) (fun _ h9 => h9) rfl dX9_copyFrom_105 (fun _ hv_54 hf_55 => ?_)
    obtain ⟨a_56, rfl, ha_57⟩ := hv_54
    refine lv_aload_n hx hb dX9_copyFrom_108 rfl (lv_at hl 1 rfl) ?_
    refine ty_get (E := []) (ws := ws_53) (D := D) (ci := 9) (C := RX9) (T := TX9) (N := 8) hx hb hts in_X9 hown hK hP hT h_sp rfl 7 (by decide) (hts _ kl_RX9_50) (fun _ h9 => h9) rfl dX9_copyFrom_109 (fun _ hv_58 hf_59 => ?_)
    obtain ⟨a_60, rfl, ha_61⟩ := hv_58
    refine ty_kv (wr := []) (wc := ([] ++ ws_53)) (va_runVN (As := [.ref a_60]) (rest := []) ⟨hx, hb, hml, hown, hts⟩ (t_X8_copyFrom l D ct S ws_53 (rp_Q sp cu na pr ch w nc True) (rp_xQ ch) a_56 a_60 _ hT ha_57 ha_61 rp_QC rp_Q1) (cm_VN 1 hts kc_X8_copyFrom ki_RX8 kl_RX9_125 kv_X8_copyFrom kx_X8_copyFrom kd_X8_copyFrom ⟨Nat.le_of_ble_eq_true rfl, Nat.le_of_ble_eq_true rfl⟩) (ty_preV (wr := []) (E := []) (ws := ws_53) (ci := 8) hP hK hD hS hA hX hT rfl ha_57) rfl rfl hl.1 rfl (lv_room (Nat.le_of_ble_eq_true rfl)) dX9_copyFrom_112 ⟨Nat.le_of_ble_eq_true rfl, Nat.le_of_ble_eq_true rfl⟩) hP hD hS hA (fun u H locs hw_63 hP hD hS => ?_)
    obtain ⟨ws_64, rfl⟩ : ∃ z, z = u := ⟨_, rfl⟩
    have hT := hw_63
    have hP : va_P D vwCl ([] ++ ws_64) H := hP
    have hD : va_D A ([] ++ ws_64) := hD
    exact W.vret hx hb hr (fun t ht hW => ⟨⟨ws_64, rfl, hT, by rw [ht]; exact hP, by rw [hAe]; exact hD⟩, hS.F ht⟩) hS.2.2 dX9_copyFrom_115
  · refine lv_aload_n hx hb dX9_copyFrom_59 rfl (lv_at hl 1 rfl) ?_
    refine lv_iload_n hx hb dX9_copyFrom_60 rfl (lv_at hl 2 rfl) ?_
    refine ty_kq (wr := []) (wc := ([] ++ ws)) (va_runV (As := [.int y_41]) (rest := []) ⟨hx, hb, hml, hown, hts⟩ (t_X9_channelAt l D ct S ws (rp_Q sp cu na pr ch w nc True) (rp_xQ ch) sp y_41 _ hT h_sp rp_QC rp_Q1) (cm_V 1 hts kc_X9_channelAt ki_RX9 kl_RX9_68 kv_X9_channelAt kx_X9_channelAt kd_X9_channelAt ⟨Nat.le_of_ble_eq_true rfl, Nat.le_of_ble_eq_true rfl⟩) (ty_preV (wr := []) (E := []) (ws := ws) (ci := 9) hP hK hD hS hA hX hT rfl h_sp) rfl rfl hl.1 rfl (lv_room (Nat.le_of_ble_eq_true rfl)) dX9_copyFrom_61 ⟨Nat.le_of_ble_eq_true rfl, Nat.le_of_ble_eq_true rfl⟩) hP hD hS hA (fun r_65 u H locs hw_66 hP hD hS => ?_)
    obtain ⟨ws_67, rfl⟩ : ∃ z, z = u := ⟨_, rfl⟩
    obtain ⟨hT, hq_68⟩ := hw_66
    have hP : va_P D vwCl ([] ++ ws_67) H := hP
    have hD : va_D A ([] ++ ws_67) := hD
    rcases hq_68 with rfl | ⟨a_69, rfl, ha_70⟩
    · refine W.eq (g2 := F0 m 64 ls (.null :: [])) rfl ?_
      refine lv_astore_nN (lv' := [(3, .null), (0, .ref w), (1, .ref sp), (2, .int y_41)]) hx hb dX9_copyFrom_64 rfl hl (by decide) rfl (fun ls hl => ?_)
      refine lv_aload_n hx hb dX9_copyFrom_65 rfl (lv_at hl 1 rfl) ?_
      refine lv_iload_n hx hb dX9_copyFrom_66 rfl (lv_at hl 3 rfl) ?_
      refine ty_kq (wr := []) (wc := ([] ++ ws_67)) (va_runV (As := [.int y_41]) (rest := []) ⟨hx, hb, hml, hown, hts⟩ (t_X9_channelAt l D ct S ws_67 (rp_Q sp cu na pr ch w nc True) (rp_xQ ch) w y_41 _ hT h_w rp_QC rp_Q1) (cm_V 1 hts kc_X9_channelAt ki_RX9 kl_RX9_68 kv_X9_channelAt kx_X9_channelAt kd_X9_channelAt ⟨Nat.le_of_ble_eq_true rfl, Nat.le_of_ble_eq_true rfl⟩) (ty_preV (wr := []) (E := []) (ws := ws_67) (ci := 9) hP hK hD hS hA hX hT rfl h_w) rfl rfl hl.1 rfl (lv_room (Nat.le_of_ble_eq_true rfl)) dX9_copyFrom_67 ⟨Nat.le_of_ble_eq_true rfl, Nat.le_of_ble_eq_true rfl⟩) hP hD hS hA (fun r_71 u H locs hw_72 hP hD hS => ?_)
      obtain ⟨ws_73, rfl⟩ : ∃ z, z = u := ⟨_, rfl⟩
      obtain ⟨hT, hq_74⟩ := hw_72
      have hP : va_P D vwCl ([] ++ ws_73) H := hP
      have hD : va_D A ([] ++ ws_73) := hD
      rcases hq_74 with rfl | ⟨a_75, rfl, ha_76⟩
      · refine W.eq (g2 := F0 m 70 ls (.null :: [])) rfl ?_
        refine lv_astoreN (lv' := [(4, .null), (3, .null), (0, .ref w), (1, .ref sp), (2, .int y_41)]) hx hb dX9_copyFrom_70 hl (by decide) rfl (fun ls hl => ?_)
        refine lv_aload_nN hx hb dX9_copyFrom_72 rfl (lv_at hl 1 rfl) ?_
        refine lv_ifnullN (tgt := 87) hx hb dX9_copyFrom_73 (by decide) ?_
        refine lv_iinc (v := (y_41 + Int32.ofInt 1)) (lv' := [(2, .int (y_41 + Int32.ofInt 1)), (4, .null), (3, .null), (0, .ref w), (1, .ref sp)]) hx hb dX9_copyFrom_87 hl (k := 4) rfl rfl (by decide) rfl (fun ls hl => ?_)
        refine lv_goto (tgt := 51) hx hb dX9_copyFrom_90 (by decide) ?_
        exact ih_51 _ _ _ _ (ty_inc (cm_lt hc_42)) ⟨ws_73, (y_41 + Int32.ofInt 1), rfl, hT, hP, hD, hS, (lv_sub hl [3, 4, 0] rfl)⟩
      · refine W.eq (g2 := F0 m 70 ls (.ref a_75 :: [])) rfl ?_
        refine lv_astore (lv' := [(4, .ref a_75), (3, .null), (0, .ref w), (1, .ref sp), (2, .int y_41)]) hx hb dX9_copyFrom_70 hl (by decide) rfl (fun ls hl => ?_)
        refine lv_aload_nN hx hb dX9_copyFrom_72 rfl (lv_at hl 1 rfl) ?_
        refine lv_ifnullN (tgt := 87) hx hb dX9_copyFrom_73 (by decide) ?_
        refine lv_iinc (v := (y_41 + Int32.ofInt 1)) (lv' := [(2, .int (y_41 + Int32.ofInt 1)), (4, .ref a_75), (3, .null), (0, .ref w), (1, .ref sp)]) hx hb dX9_copyFrom_87 hl (k := 4) rfl rfl (by decide) rfl (fun ls hl => ?_)
        refine lv_goto (tgt := 51) hx hb dX9_copyFrom_90 (by decide) ?_
        exact ih_51 _ _ _ _ (ty_inc (cm_lt hc_42)) ⟨ws_73, (y_41 + Int32.ofInt 1), rfl, hT, hP, hD, hS, (lv_sub hl [3, 4, 0] rfl)⟩
    · refine W.eq (g2 := F0 m 64 ls (.ref a_69 :: [])) rfl ?_
      refine lv_astore_n (lv' := [(3, .ref a_69), (0, .ref w), (1, .ref sp), (2, .int y_41)]) hx hb dX9_copyFrom_64 rfl hl (by decide) rfl (fun ls hl => ?_)
      refine lv_aload_n hx hb dX9_copyFrom_65 rfl (lv_at hl 1 rfl) ?_
      refine lv_iload_n hx hb dX9_copyFrom_66 rfl (lv_at hl 3 rfl) ?_
      refine ty_kq (wr := []) (wc := ([] ++ ws_67)) (va_runV (As := [.int y_41]) (rest := []) ⟨hx, hb, hml, hown, hts⟩ (t_X9_channelAt l D ct S ws_67 (rp_Q sp cu na pr ch w nc True) (rp_xQ ch) w y_41 _ hT h_w rp_QC rp_Q1) (cm_V 1 hts kc_X9_channelAt ki_RX9 kl_RX9_68 kv_X9_channelAt kx_X9_channelAt kd_X9_channelAt ⟨Nat.le_of_ble_eq_true rfl, Nat.le_of_ble_eq_true rfl⟩) (ty_preV (wr := []) (E := []) (ws := ws_67) (ci := 9) hP hK hD hS hA hX hT rfl h_w) rfl rfl hl.1 rfl (lv_room (Nat.le_of_ble_eq_true rfl)) dX9_copyFrom_67 ⟨Nat.le_of_ble_eq_true rfl, Nat.le_of_ble_eq_true rfl⟩) hP hD hS hA (fun r_77 u H locs hw_78 hP hD hS => ?_)
      obtain ⟨ws_79, rfl⟩ : ∃ z, z = u := ⟨_, rfl⟩
      obtain ⟨hT, hq_80⟩ := hw_78
      have hP : va_P D vwCl ([] ++ ws_79) H := hP
      have hD : va_D A ([] ++ ws_79) := hD
      rcases hq_80 with rfl | ⟨a_81, rfl, ha_82⟩
      · refine W.eq (g2 := F0 m 70 ls (.null :: [])) rfl ?_
        refine lv_astoreN (lv' := [(4, .null), (3, .ref a_69), (0, .ref w), (1, .ref sp), (2, .int y_41)]) hx hb dX9_copyFrom_70 hl (by decide) rfl (fun ls hl => ?_)
        refine lv_aload_n hx hb dX9_copyFrom_72 rfl (lv_at hl 1 rfl) ?_
        refine lv_ifnull hx hb dX9_copyFrom_73 ?_
        refine lv_aloadN hx hb dX9_copyFrom_76 (lv_at hl 0 rfl) ?_
        refine lv_ifnullN (tgt := 87) hx hb dX9_copyFrom_78 (by decide) ?_
        refine lv_iinc (v := (y_41 + Int32.ofInt 1)) (lv' := [(2, .int (y_41 + Int32.ofInt 1)), (4, .null), (3, .ref a_69), (0, .ref w), (1, .ref sp)]) hx hb dX9_copyFrom_87 hl (k := 4) rfl rfl (by decide) rfl (fun ls hl => ?_)
        refine lv_goto (tgt := 51) hx hb dX9_copyFrom_90 (by decide) ?_
        exact ih_51 _ _ _ _ (ty_inc (cm_lt hc_42)) ⟨ws_79, (y_41 + Int32.ofInt 1), rfl, hT, hP, hD, hS, (lv_sub hl [3, 4, 0] rfl)⟩
      · refine W.eq (g2 := F0 m 70 ls (.ref a_81 :: [])) rfl ?_
        refine lv_astore (lv' := [(4, .ref a_81), (3, .ref a_69), (0, .ref w), (1, .ref sp), (2, .int y_41)]) hx hb dX9_copyFrom_70 hl (by decide) rfl (fun ls hl => ?_)
        refine lv_aload_n hx hb dX9_copyFrom_72 rfl (lv_at hl 1 rfl) ?_
        refine lv_ifnull hx hb dX9_copyFrom_73 ?_
        refine lv_aload hx hb dX9_copyFrom_76 (lv_at hl 0 rfl) ?_
        refine lv_ifnull hx hb dX9_copyFrom_78 ?_
        refine lv_aload hx hb dX9_copyFrom_81 (lv_at hl 0 rfl) ?_
        refine lv_aload_n hx hb dX9_copyFrom_83 rfl (lv_at hl 1 rfl) ?_
        refine ty_kv (wr := []) (wc := ([] ++ ws_79)) (va_runVN (As := [.ref a_69]) (rest := []) ⟨hx, hb, hml, hown, hts⟩ (t_X1_copyFrom l D ct S ws_79 (rp_Q sp cu na pr ch w nc True) (rp_xQ ch) a_81 a_69 _ hT ha_82 ha_70 rp_QC rp_Q1) (cm_VN 1 hts kc_X1_copyFrom ki_RX1 kl_RX9_122 kv_X1_copyFrom kx_X1_copyFrom kd_X1_copyFrom ⟨Nat.le_of_ble_eq_true rfl, Nat.le_of_ble_eq_true rfl⟩) (ty_preV (wr := []) (E := []) (ws := ws_79) (ci := 1) hP hK hD hS hA hX hT rfl ha_82) rfl rfl hl.1 rfl (lv_room (Nat.le_of_ble_eq_true rfl)) dX9_copyFrom_84 ⟨Nat.le_of_ble_eq_true rfl, Nat.le_of_ble_eq_true rfl⟩) hP hD hS hA (fun u H locs hw_84 hP hD hS => ?_)
        obtain ⟨ws_85, rfl⟩ : ∃ z, z = u := ⟨_, rfl⟩
        have hT := hw_84
        have hP : va_P D vwCl ([] ++ ws_85) H := hP
        have hD : va_D A ([] ++ ws_85) := hD
        refine lv_iinc (v := (y_41 + Int32.ofInt 1)) (lv' := [(2, .int (y_41 + Int32.ofInt 1)), (4, .ref a_81), (3, .ref a_69), (0, .ref w), (1, .ref sp)]) hx hb dX9_copyFrom_87 hl (k := 4) rfl rfl (by decide) rfl (fun ls hl => ?_)
        refine lv_goto (tgt := 51) hx hb dX9_copyFrom_90 (by decide) ?_
        exact ih_51 _ _ _ _ (ty_inc (cm_lt hc_42)) ⟨ws_85, (y_41 + Int32.ofInt 1), rfl, hT, hP, hD, hS, (lv_sub hl [3, 4, 0] rfl)⟩
theorem dX10_load_0 : decode cX10_load 0 = .ok (.aload_n 0, 1) := by decide +kernel
theorem dX10_load_1 : decode cX10_load 1 = .ok (.getfield 16, 3) := by decide +kernel
theorem dX10_load_4 : decode cX10_load 4 = .ok (.invokevirtual 40, 3) := by decide +kernel
theorem dX10_load_7 : decode cX10_load 7 = .ok (.new 43, 3) := by decide +kernel
theorem dX10_load_10 : decode cX10_load 10 = .ok (.dup, 1) := by decide +kernel
theorem dX10_load_11 : decode cX10_load 11 = .ok (.aload_n 0, 1) := by decide +kernel
theorem dX10_load_12 : decode cX10_load 12 = .ok (.getfield 23, 3) := by decide +kernel
theorem dX10_load_15 : decode cX10_load 15 = .ok (.aload_n 0, 1) := by decide +kernel
theorem dX10_load_16 : decode cX10_load 16 = .ok (.getfield 27, 3) := by decide +kernel
theorem dX10_load_19 : decode cX10_load 19 = .ok (.aload_n 0, 1) := by decide +kernel
theorem dX10_load_20 : decode cX10_load 20 = .ok (.getfield 16, 3) := by decide +kernel
theorem dX10_load_23 : decode cX10_load 23 = .ok (.invokespecial 45, 3) := by decide +kernel
theorem dX10_load_26 : decode cX10_load 26 = .ok (.astore_n 1, 1) := by decide +kernel
theorem dX10_load_27 : decode cX10_load 27 = .ok (.aload_n 0, 1) := by decide +kernel
theorem dX10_load_28 : decode cX10_load 28 = .ok (.iconst 0, 1) := by decide +kernel
theorem dX10_load_29 : decode cX10_load 29 = .ok (.putfield 27, 3) := by decide +kernel
theorem dX10_load_32 : decode cX10_load 32 = .ok (.aload_n 1, 1) := by decide +kernel
theorem dX10_load_33 : decode cX10_load 33 = .ok (.invokevirtual 48, 3) := by decide +kernel
theorem dX10_load_36 : decode cX10_load 36 = .ok (.aload_n 0, 1) := by decide +kernel
theorem dX10_load_37 : decode cX10_load 37 = .ok (.aload_n 1, 1) := by decide +kernel
theorem dX10_load_38 : decode cX10_load 38 = .ok (.getfield 51, 3) := by decide +kernel
theorem dX10_load_41 : decode cX10_load 41 = .ok (.putfield 31, 3) := by decide +kernel
theorem dX10_load_44 : decode cX10_load 44 = .ok (.aload_n 1, 1) := by decide +kernel
theorem dX10_load_45 : decode cX10_load 45 = .ok (.getfield 51, 3) := by decide +kernel
theorem dX10_load_48 : decode cX10_load 48 = .ok (.ifCond .eq 11, 3) := by decide +kernel
theorem dX10_load_51 : decode cX10_load 51 = .ok (.bipush (-100), 2) := by decide +kernel
theorem dX10_load_53 : decode cX10_load 53 = .ok (.aload_n 1, 1) := by decide +kernel
theorem dX10_load_54 : decode cX10_load 54 = .ok (.getfield 54, 3) := by decide +kernel
theorem dX10_load_57 : decode cX10_load 57 = .ok (.isub, 1) := by decide +kernel
theorem dX10_load_58 : decode cX10_load 58 = .ok (.ireturn, 1) := by decide +kernel
theorem dX10_load_59 : decode cX10_load 59 = .ok (.aload_n 0, 1) := by decide +kernel
theorem dX10_load_60 : decode cX10_load 60 = .ok (.getfield 16, 3) := by decide +kernel
theorem dX10_load_63 : decode cX10_load 63 = .ok (.invokevirtual 57, 3) := by decide +kernel
theorem dX10_load_66 : decode cX10_load 66 = .ok (.aload_n 0, 1) := by decide +kernel
theorem dX10_load_67 : decode cX10_load 67 = .ok (.getfield 10, 3) := by decide +kernel
theorem dX10_load_70 : decode cX10_load 70 = .ok (.aload_n 0, 1) := by decide +kernel
theorem dX10_load_71 : decode cX10_load 71 = .ok (.getfield 16, 3) := by decide +kernel
theorem dX10_load_74 : decode cX10_load 74 = .ok (.invokevirtual 60, 3) := by decide +kernel
theorem dX10_load_77 : decode cX10_load 77 = .ok (.aload_n 0, 1) := by decide +kernel
theorem dX10_load_78 : decode cX10_load 78 = .ok (.getfield 10, 3) := by decide +kernel
theorem dX10_load_81 : decode cX10_load 81 = .ok (.getfield 64, 3) := by decide +kernel
theorem dX10_load_84 : decode cX10_load 84 = .ok (.ireturn, 1) := by decide +kernel
set_option maxRecDepth 100000 in
set_option maxHeartbeats 4000000 in
theorem r_load (l : Launch) (D : va_G) (ct : Nat → ClassId) (S : ty_S) (ws : va_W) (x : Nat) (w : Nat) (sp : Nat) (sv : Nat) (bu : Nat) (bl : Int32) (le : Int32) (b : Nat → Int32) (cu : Nat) (na : Nat) (pr : Nat) (ch : Nat) (sz : Nat) (hT : ty_V ct S (rp_S sp cu na pr ch) ws) (h_w : S w = some (.inl 9)) (h_sp : S sp = some (.inl 9)) (h_cu : S cu = some (.inl 2)) (h_na : S na = some (.inr (1, 4))) (h_pr : S pr = some (.inl 5)) (h_ch : S ch = some (.inr (3, 6))) (hbl : 0 ≤ bl.toInt ∧ bl.toInt ≤ 800) (hby : rp_by b bl) : Met l yX10_load (ws_ yX10_load cX10_load 2 (some .int)) ({ frames := 8, cells := 1, slots := 7, locals := 173 } : Room) (va_Pc [.ref x] (cmP D ct sz ([(ty_XO x w sp sv bu bl le), (rf_RW ct 0 bu 800 b)] ++ ws))) (va_Qi (fun (r : Int32) (u : va_W × Int32) => match u with | (u9, le1) => ty_V ct S (rp_S sp cu na pr ch) u9 ∧ r = (rp_A b bl) ∧ le1 = rp_K b bl) (cmB D ([(ty_XO x w sp sv bu bl le), (rf_RW ct 0 bu 800 b)] ++ ws) sz (fun (u : va_W × Int32) => match u with | (u9, le1) => ([(ty_XO x w sp sv bu (0) le1), (rf_RW ct 0 bu 800 b)] ++ u9))) (va_A ([(ty_XO x w sp sv bu bl le), (rf_RW ct 0 bu 800 b)] ++ ws) sz)) 1 7 (va_A ([(ty_XO x w sp sv bu bl le), (rf_RW ct 0 bu 800 b)] ++ ws) sz) := by
  refine Met.ofW (cc := cX10_load) (maxL := 2) (ret := (some .int)) (by decide) rfl ?_
  intro p e s m args below meth c s₁ B hml hv
  obtain ⟨rfl, hsz, hP, hK, hD0, hX⟩ := hv
  have hx := B.exec
  have hb := B.bytes
  have hr := B.returns
  have hts := ws_all (atoms_spec (ws := ws_ yX10_load cX10_load 2 (some .int)) B.pre)
  have hown : s.vm.findClass RX10 = some m.cls := findClass_of_methodNamed B.named
  have hlocks := B.notSynchronized
  subst hsz
  have hD := hD0.self (sz := s.heap.size)
  generalize hAe : va_A ([(ty_XO x w sp sv bu bl le), (rf_RW ct 0 bu 800 b)] ++ ws) s.heap.size = A at hD hX ⊢
  have hA : ∀ q : Nat, s.heap.size ≤ q → A q := fun q h => by rw [← hAe]; exact Or.inr h
  have hS : va_S A s.heap s.heap [] := va_S.rf
  have hl := lv_entry ([.ref x]) (n := 2) (Nat.le_of_ble_eq_true rfl)
  rw [lg_entry_eq]
  generalize (lg_sl ([.ref x]) ++ List.replicate (2 - (lg_sl ([.ref x])).length) Slot.unset).toArray = ls at hl ⊢
  have hl : lv_has ls 2 [(0, .ref x)] := hl
  refine lv_aload_n hx hb dX10_load_0 rfl (lv_at hl 0 rfl) ?_
  refine va_get (v := .ref sp) (D := D) (ci := 10) (C := RX10) (T := TX10) (N := 6) hx hb hts in_X10 hown hK hP 0 rfl rfl 1 (by decide) (hts _ kl_RX10_16) (fun _ h9 => h9) rfl dX10_load_1 ?_
  refine ty_kv (wr := [(ty_XO x w sp sv bu bl le), (rf_RW ct 0 bu 800 b)]) (wc := ([] ++ ws)) (va_runVN (As := []) (rest := []) ⟨hx, hb, hml, hown, hts⟩ (r_clear l D ct S ws sp cu na pr ch _ hT h_sp h_cu h_na h_pr) (cm_VN 0 hts kc_X9_clear ki_RX9 kl_RX10_40 kv_X9_clear kx_X9_clear kd_X9_clear ⟨Nat.le_of_ble_eq_true rfl, Nat.le_of_ble_eq_true rfl⟩) (ty_preV (wr := [(ty_XO x w sp sv bu bl le), (rf_RW ct 0 bu 800 b)]) (E := []) (ws := ws) (ci := 9) hP hK hD hS hA hX hT rfl h_sp) rfl rfl hl.1 rfl (lv_room (Nat.le_of_ble_eq_true rfl)) dX10_load_4 ⟨Nat.le_of_ble_eq_true rfl, Nat.le_of_ble_eq_true rfl⟩) hP hD hS hA (fun u H locs hw_2 hP hD hS => ?_)
  obtain ⟨ws_3, nf_4⟩ := u
  have hT := hw_2
  have hP : va_P D vwCl ([(ty_XO x w sp sv bu bl le), (rf_RW ct 0 bu 800 b)] ++ ws_3) H := hP
  have hD : va_D A ([(ty_XO x w sp sv bu bl le), (rf_RW ct 0 bu 800 b)] ++ ws_3) := hD
  refine va_new (ci := 6) (fs := [.null, .int 0, .null, .int 0, .int 0, .int 0, .int 0]) (C := RX6) (T := TX6) (N := 7) hx hb hts in_X6 tyX6 tyX6_ok hown (hts _ kl_RX10_43) (hts _ kn_RX6) (hts _ ki_RX6) hK hP hD hS hA rfl fs0_X6 (Nat.le_of_ble_eq_true rfl) (Nat.le_of_ble_eq_true rfl) dX10_load_7 (fun q_5 H hP hD hS => ?_)
  have hP : va_P D vwCl ([(ty_XO x w sp sv bu bl le), (rf_RW ct 0 bu 800 b), (q_5, .inr (6, [.null, .int 0, .null, .int 0, .int 0, .int 0, .int 0]))] ++ ws_3) H := ty_permP hP ty_mvp
  have hD : va_D A ([(ty_XO x w sp sv bu bl le), (rf_RW ct 0 bu 800 b), (q_5, .inr (6, [.null, .int 0, .null, .int 0, .int 0, .int 0, .int 0]))] ++ ws_3) := ty_permD hD ty_mvp
  refine W.widen (k := 1) (n := 7) (Nat.le_of_ble_eq_true rfl) (Nat.le_of_ble_eq_true rfl) ?_
  refine lv_dup hx hb dX10_load_10 rfl ?_
  refine lv_aload_n hx hb dX10_load_11 rfl (lv_at hl 0 rfl) ?_
  refine va_get (v := .ref bu) (D := D) (ci := 10) (C := RX10) (T := TX10) (N := 6) hx hb hts in_X10 hown hK hP 0 rfl rfl 3 (by decide) (hts _ kl_RX10_23) (fun _ h9 => h9) rfl dX10_load_12 ?_
  refine lv_aload_n hx hb dX10_load_15 rfl (lv_at hl 0 rfl) ?_
  refine va_get (v := .int bl) (D := D) (ci := 10) (C := RX10) (T := TX10) (N := 6) hx hb hts in_X10 hown hK hP 0 rfl rfl 4 (by decide) (hts _ kl_RX10_27) (fun _ h9 => h9) rfl dX10_load_16 ?_
  refine lv_aload_n hx hb dX10_load_19 rfl (lv_at hl 0 rfl) ?_
  refine va_get (v := .ref sp) (D := D) (ci := 10) (C := RX10) (T := TX10) (N := 6) hx hb hts in_X10 hown hK hP 0 rfl rfl 1 (by decide) (hts _ kl_RX10_16) (fun _ h9 => h9) rfl dX10_load_20 ?_
  have hP : va_P D vwCl (([(ty_XO x w sp sv bu bl le), (rf_RW ct 0 bu 800 b)] ++ ws_3) ++ ([(q_5, .inr (6, [.null, .int 0, .null, .int 0, .int 0, .int 0, .int 0]))] ++ ([] : va_W))) H := ty_permP (w1 := (([(ty_XO x w sp sv bu bl le), (rf_RW ct 0 bu 800 b)] ++ [(q_5, .inr (6, [.null, .int 0, .null, .int 0, .int 0, .int 0, .int 0]))]) ++ ws_3)) hP ty_mv2
  have hD : va_D A (([(ty_XO x w sp sv bu bl le), (rf_RW ct 0 bu 800 b)] ++ ws_3) ++ ([(q_5, .inr (6, [.null, .int 0, .null, .int 0, .int 0, .int 0, .int 0]))] ++ ([] : va_W))) := ty_permD (w1 := (([(ty_XO x w sp sv bu bl le), (rf_RW ct 0 bu 800 b)] ++ [(q_5, .inr (6, [.null, .int 0, .null, .int 0, .int 0, .int 0, .int 0]))]) ++ ws_3)) hD ty_mv2
  refine ty_kv (wr := ([(ty_XO x w sp sv bu bl le), (rf_RW ct 0 bu 800 b)] ++ ws_3)) (wc := ([(q_5, .inr (6, [.null, .int 0, .null, .int 0, .int 0, .int 0, .int 0]))] ++ ([] : va_W))) (va_runIN (As := [.ref bu, .int bl, .ref sp]) (rest := [.ref q_5]) ⟨hx, hb, hml, hown, hts⟩ (t_X6_init l D ct (fun _ => none) [] (fun _ => True) (fun _ _ _ => True) q_5 bu sp bl _ ty_V0 ty_C0 ty_y10) (cm_IN 3 hts kc_X6_init ki_RX6 kl_RX10_45 kv_X6_init rfl kd_X6_init ⟨Nat.le_of_ble_eq_true rfl, Nat.le_of_ble_eq_true rfl⟩) (ty_preS (wr := ([(ty_XO x w sp sv bu bl le), (rf_RW ct 0 bu 800 b)] ++ ws_3)) (wc := ([(q_5, .inr (6, [.null, .int 0, .null, .int 0, .int 0, .int 0, .int 0]))] ++ ([] : va_W))) hP hK hD hS hA hX) rfl rfl hl.1 rfl (lv_room (Nat.le_of_ble_eq_true rfl)) dX10_load_23 ⟨Nat.le_of_ble_eq_true rfl, Nat.le_of_ble_eq_true rfl⟩) hP hD hS hA (fun u H locs hw_7 hP hD hS => ?_)
  obtain ⟨ws_8, rfl⟩ : ∃ z, z = u := ⟨_, rfl⟩
  have hT9_9 := hw_7
  have hP : va_P D vwCl ([(ty_XO x w sp sv bu bl le), (rf_RW ct 0 bu 800 b), (ty_RD q_5 bu bl sp (0) (0) (0) (0))] ++ ws_3) H := ty_bkP hP
  have hD : va_D A ([(ty_XO x w sp sv bu bl le), (rf_RW ct 0 bu 800 b), (ty_RD q_5 bu bl sp (0) (0) (0) (0))] ++ ws_3) := ty_bkD hD
  refine lv_astore_n (lv' := [(1, .ref q_5), (0, .ref x)]) hx hb dX10_load_26 rfl hl (by decide) rfl (fun ls hl => ?_)
  refine lv_aload_n hx hb dX10_load_27 rfl (lv_at hl 1 rfl) ?_
  refine lv_iconst (v := 0) hx hb dX10_load_28 (by decide) ?_
  refine va_put (v := .int 0) (ty := .int) (D := D) (ci := 10) (C := RX10) (T := TX10) (N := 6) hx hb hts in_X10 tyX10 tyX10_ok nmX10 hown hK hP hD hS 0 rfl rfl 4 (by decide) (hts _ kl_RX10_27) (fun _ h9 => h9) rfl (by decide +kernel) rfl rfl (Nat.le_of_ble_eq_true rfl) dX10_load_29 (fun H locs hP hD hS => ?_)
  have hP : va_P D vwCl ([(ty_XO x w sp sv bu (0) le), (rf_RW ct 0 bu 800 b), (ty_RD q_5 bu bl sp (0) (0) (0) (0))] ++ ws_3) H := hP
  have hD : va_D A ([(ty_XO x w sp sv bu (0) le), (rf_RW ct 0 bu 800 b), (ty_RD q_5 bu bl sp (0) (0) (0) (0))] ++ ws_3) := hD
  refine lv_aload_n hx hb dX10_load_32 rfl (lv_at hl 0 rfl) ?_
  have hP : va_P D vwCl ([(ty_XO x w sp sv bu (0) le), (ty_RD q_5 bu bl sp (0) (0) (0) (0)), (rf_RW ct 0 bu 800 b)] ++ ws_3) H := ty_permP hP (ty_ordp (E := [(ty_XO x w sp sv bu (0) le), (rf_RW ct 0 bu 800 b), (ty_RD q_5 bu bl sp (0) (0) (0) (0))]) (E2 := [(ty_XO x w sp sv bu (0) le), (ty_RD q_5 bu bl sp (0) (0) (0) (0)), (rf_RW ct 0 bu 800 b)]) (n := 3) [0, 2, 1] rfl rfl (by decide))
  have hD : va_D A ([(ty_XO x w sp sv bu (0) le), (ty_RD q_5 bu bl sp (0) (0) (0) (0)), (rf_RW ct 0 bu 800 b)] ++ ws_3) := ty_permD hD (ty_ordp (E := [(ty_XO x w sp sv bu (0) le), (rf_RW ct 0 bu 800 b), (ty_RD q_5 bu bl sp (0) (0) (0) (0))]) (E2 := [(ty_XO x w sp sv bu (0) le), (ty_RD q_5 bu bl sp (0) (0) (0) (0)), (rf_RW ct 0 bu 800 b)]) (n := 3) [0, 2, 1] rfl rfl (by decide))
  refine ty_kv (wr := [(ty_XO x w sp sv bu (0) le)]) (wc := ([(ty_RD q_5 bu bl sp (0) (0) (0) (0)), (rf_RW ct 0 bu 800 b)] ++ ws_3)) (va_runVN (As := []) (rest := []) ⟨hx, hb, hml, hown, hts⟩ (r_readText l D ct S ws_3 q_5 bu sp bl b cu na pr ch nf_4 _ hT h_sp h_cu h_na h_pr h_ch hbl hby) (cm_VN 0 hts kc_X6_readText ki_RX6 kl_RX10_48 kv_X6_readText kx_X6_readText kd_X6_readText ⟨Nat.le_of_ble_eq_true rfl, Nat.le_of_ble_eq_true rfl⟩) (ty_preE (wr := [(ty_XO x w sp sv bu (0) le)]) (wc := ([(ty_RD q_5 bu bl sp (0) (0) (0) (0)), (rf_RW ct 0 bu 800 b)] ++ ws_3)) (ci := 6) (q0 := 1) hP hK hD hS hA hX rfl rfl) rfl rfl hl.1 rfl (lv_room (Nat.le_of_ble_eq_true rfl)) dX10_load_33 ⟨Nat.le_of_ble_eq_true rfl, Nat.le_of_ble_eq_true rfl⟩) hP hD hS hA (fun u H locs hw_11 hP hD hS => ?_)
  obtain ⟨ws_12, pl1_13, ws1_14, er1_15, ep1_16, cnt1_17, nc1_18, np1_19, nf1_20⟩ := u
  obtain ⟨hT, hp_21⟩ := hw_11
  have hp_21 : rp_T b bl er1_15 ep1_16 nc1_18 := hp_21
  have hP : va_P D vwCl ([(ty_XO x w sp sv bu (0) le), (ty_RD q_5 bu bl sp pl1_13 ws1_14 er1_15 ep1_16), (rf_RW ct 0 bu 800 b)] ++ ws_12) H := hP
  have hD : va_D A ([(ty_XO x w sp sv bu (0) le), (ty_RD q_5 bu bl sp pl1_13 ws1_14 er1_15 ep1_16), (rf_RW ct 0 bu 800 b)] ++ ws_12) := hD
  refine lv_aload_n hx hb dX10_load_36 rfl (lv_at hl 1 rfl) ?_
  refine lv_aload_n hx hb dX10_load_37 rfl (lv_at hl 0 rfl) ?_
  refine va_getN (v := .int er1_15) (D := D) (ci := 6) (C := RX6) (T := TX6) (N := 7) hx hb hts in_X6 hown hK hP 1 rfl rfl 5 (by decide) (hts _ kl_RX10_51) (fun _ h9 => h9) rfl dX10_load_38 ?_
  refine va_put (v := .int er1_15) (ty := .int) (D := D) (ci := 10) (C := RX10) (T := TX10) (N := 6) hx hb hts in_X10 tyX10 tyX10_ok nmX10 hown hK hP hD hS 0 rfl rfl 5 (by decide) (hts _ kl_RX10_31) (fun _ h9 => h9) rfl (by decide +kernel) rfl rfl (Nat.le_of_ble_eq_true rfl) dX10_load_41 (fun H locs hP hD hS => ?_)
  have hP : va_P D vwCl ([(ty_XO x w sp sv bu (0) er1_15), (ty_RD q_5 bu bl sp pl1_13 ws1_14 er1_15 ep1_16), (rf_RW ct 0 bu 800 b)] ++ ws_12) H := hP
  have hD : va_D A ([(ty_XO x w sp sv bu (0) er1_15), (ty_RD q_5 bu bl sp pl1_13 ws1_14 er1_15 ep1_16), (rf_RW ct 0 bu 800 b)] ++ ws_12) := hD
  refine lv_aload_n hx hb dX10_load_44 rfl (lv_at hl 0 rfl) ?_
  refine va_getN (v := .int er1_15) (D := D) (ci := 6) (C := RX6) (T := TX6) (N := 7) hx hb hts in_X6 hown hK hP 1 rfl rfl 5 (by decide) (hts _ kl_RX10_51) (fun _ h9 => h9) rfl dX10_load_45 ?_
  refine lv_if_eq (tgt := 59) hx hb dX10_load_48 (by decide) (fun hc_22 => ?_) (fun hc_22 => ?_)
  · refine lv_aload_n hx hb dX10_load_59 rfl (lv_at hl 1 rfl) ?_
    refine va_get (v := .ref sp) (D := D) (ci := 10) (C := RX10) (T := TX10) (N := 6) hx hb hts in_X10 hown hK hP 0 rfl rfl 1 (by decide) (hts _ kl_RX10_16) (fun _ h9 => h9) rfl dX10_load_60 ?_
    refine ty_kv (wr := [(ty_XO x w sp sv bu (0) er1_15), (ty_RD q_5 bu bl sp pl1_13 ws1_14 er1_15 ep1_16), (rf_RW ct 0 bu 800 b)]) (wc := ([] ++ ws_12)) (va_runVN (As := []) (rest := []) ⟨hx, hb, hml, hown, hts⟩ (t_X9_insertCells l D ct S ws_12 (rp_F sp cu na pr ch cnt1_17 nc1_18 np1_19 nf1_20) rp_xF sp _ hT h_sp rp_FC rp_F1) (cm_VN 0 hts kc_X9_insertCells ki_RX9 kl_RX10_57 kv_X9_insertCells kx_X9_insertCells kd_X9_insertCells ⟨Nat.le_of_ble_eq_true rfl, Nat.le_of_ble_eq_true rfl⟩) (ty_preV (wr := [(ty_XO x w sp sv bu (0) er1_15), (ty_RD q_5 bu bl sp pl1_13 ws1_14 er1_15 ep1_16), (rf_RW ct 0 bu 800 b)]) (E := []) (ws := ws_12) (ci := 9) hP hK hD hS hA hX hT rfl h_sp) rfl rfl hl.1 rfl (lv_room (Nat.le_of_ble_eq_true rfl)) dX10_load_63 ⟨Nat.le_of_ble_eq_true rfl, Nat.le_of_ble_eq_true rfl⟩) hP hD hS hA (fun u H locs hw_24 hP hD hS => ?_)
    obtain ⟨ws_25, rfl⟩ : ∃ z, z = u := ⟨_, rfl⟩
    have hT := hw_24
    have hP : va_P D vwCl ([(ty_XO x w sp sv bu (0) er1_15), (ty_RD q_5 bu bl sp pl1_13 ws1_14 er1_15 ep1_16), (rf_RW ct 0 bu 800 b)] ++ ws_25) H := hP
    have hD : va_D A ([(ty_XO x w sp sv bu (0) er1_15), (ty_RD q_5 bu bl sp pl1_13 ws1_14 er1_15 ep1_16), (rf_RW ct 0 bu 800 b)] ++ ws_25) := hD
    have hT : ty_V ct S (rp_Q sp cu na pr ch w nc1_18 False) ws_25 := ⟨hT.1, rp_FQ hT.2⟩
    refine lv_aload_n hx hb dX10_load_66 rfl (lv_at hl 1 rfl) ?_
    refine va_get (v := .ref w) (D := D) (ci := 10) (C := RX10) (T := TX10) (N := 6) hx hb hts in_X10 hown hK hP 0 rfl rfl 0 (by decide) (hts _ kl_RX10_10) (fun _ h9 => h9) rfl dX10_load_67 ?_
    refine lv_aload_n hx hb dX10_load_70 rfl (lv_at hl 1 rfl) ?_
    refine va_get (v := .ref sp) (D := D) (ci := 10) (C := RX10) (T := TX10) (N := 6) hx hb hts in_X10 hown hK hP 0 rfl rfl 1 (by decide) (hts _ kl_RX10_16) (fun _ h9 => h9) rfl dX10_load_71 ?_
    refine ty_kv (wr := [(ty_XO x w sp sv bu (0) er1_15), (ty_RD q_5 bu bl sp pl1_13 ws1_14 er1_15 ep1_16), (rf_RW ct 0 bu 800 b)]) (wc := ([] ++ ws_25)) (va_runVN (As := [.ref sp]) (rest := []) ⟨hx, hb, hml, hown, hts⟩ (r_copyFrom l D ct S ws_25 w sp cu na pr ch nc1_18 _ hT h_w h_sp) (cm_VN 1 hts kc_X9_copyFrom ki_RX9 kl_RX10_60 kv_X9_copyFrom kx_X9_copyFrom kd_X9_copyFrom ⟨Nat.le_of_ble_eq_true rfl, Nat.le_of_ble_eq_true rfl⟩) (ty_preV (wr := [(ty_XO x w sp sv bu (0) er1_15), (ty_RD q_5 bu bl sp pl1_13 ws1_14 er1_15 ep1_16), (rf_RW ct 0 bu 800 b)]) (E := []) (ws := ws_25) (ci := 9) hP hK hD hS hA hX hT rfl h_w) rfl rfl hl.1 rfl (lv_room (Nat.le_of_ble_eq_true rfl)) dX10_load_74 ⟨Nat.le_of_ble_eq_true rfl, Nat.le_of_ble_eq_true rfl⟩) hP hD hS hA (fun u H locs hw_27 hP hD hS => ?_)
    obtain ⟨ws_28, rfl⟩ : ∃ z, z = u := ⟨_, rfl⟩
    have hT := hw_27
    have hP : va_P D vwCl ([(ty_XO x w sp sv bu (0) er1_15), (ty_RD q_5 bu bl sp pl1_13 ws1_14 er1_15 ep1_16), (rf_RW ct 0 bu 800 b)] ++ ws_28) H := hP
    have hD : va_D A ([(ty_XO x w sp sv bu (0) er1_15), (ty_RD q_5 bu bl sp pl1_13 ws1_14 er1_15 ep1_16), (rf_RW ct 0 bu 800 b)] ++ ws_28) := hD
    refine lv_aload_n hx hb dX10_load_77 rfl (lv_at hl 1 rfl) ?_
    refine va_get (v := .ref w) (D := D) (ci := 10) (C := RX10) (T := TX10) (N := 6) hx hb hts in_X10 hown hK hP 0 rfl rfl 0 (by decide) (hts _ kl_RX10_10) (fun _ h9 => h9) rfl dX10_load_78 ?_
    refine ty_getDN (v := .int nc1_18) (E := [(ty_XO x w sp sv bu (0) er1_15), (ty_RD q_5 bu bl sp pl1_13 ws1_14 er1_15 ep1_16), (rf_RW ct 0 bu 800 b)]) (ws := ws_28) (D := D) (ci := 9) (C := RX9) (T := TX9) (N := 8) hx hb hts in_X9 hown hK hP hD hT h_w rfl 4 (by decide) (hts _ kl_RX10_64) (fun _ h9 => h9) (ty_fcd (hT.2.2.2 trivial)) dX10_load_81 ?_
    have hP : va_P D vwCl ([(ty_XO x w sp sv bu (0) er1_15), (rf_RW ct 0 bu 800 b), (ty_RD q_5 bu bl sp pl1_13 ws1_14 er1_15 ep1_16)] ++ ws_28) H := ty_permP hP (ty_ordp (E := [(ty_XO x w sp sv bu (0) er1_15), (ty_RD q_5 bu bl sp pl1_13 ws1_14 er1_15 ep1_16), (rf_RW ct 0 bu 800 b)]) (E2 := [(ty_XO x w sp sv bu (0) er1_15), (rf_RW ct 0 bu 800 b), (ty_RD q_5 bu bl sp pl1_13 ws1_14 er1_15 ep1_16)]) (n := 3) [0, 2, 1] rfl rfl (by decide))
    have hD : va_D A ([(ty_XO x w sp sv bu (0) er1_15), (rf_RW ct 0 bu 800 b), (ty_RD q_5 bu bl sp pl1_13 ws1_14 er1_15 ep1_16)] ++ ws_28) := ty_permD hD (ty_ordp (E := [(ty_XO x w sp sv bu (0) er1_15), (ty_RD q_5 bu bl sp pl1_13 ws1_14 er1_15 ep1_16), (rf_RW ct 0 bu 800 b)]) (E2 := [(ty_XO x w sp sv bu (0) er1_15), (rf_RW ct 0 bu 800 b), (ty_RD q_5 bu bl sp pl1_13 ws1_14 er1_15 ep1_16)]) (n := 3) [0, 2, 1] rfl rfl (by decide))
    have hP : va_P D vwCl ([(ty_XO x w sp sv bu (0) er1_15), (rf_RW ct 0 bu 800 b)] ++ ws_28) H := ty_subP hP (ty_dr1 (E := [(ty_XO x w sp sv bu (0) er1_15), (rf_RW ct 0 bu 800 b)]) (x := (ty_RD q_5 bu bl sp pl1_13 ws1_14 er1_15 ep1_16)))
    have hD : va_D A ([(ty_XO x w sp sv bu (0) er1_15), (rf_RW ct 0 bu 800 b)] ++ ws_28) := ty_subD hD (ty_dr1 (E := [(ty_XO x w sp sv bu (0) er1_15), (rf_RW ct 0 bu 800 b)]) (x := (ty_RD q_5 bu bl sp pl1_13 ws1_14 er1_15 ep1_16)))
    have hTf_29 : ty_V ct S (rp_S sp cu na pr ch) ws_28 := ⟨hT.1, hT.2.1⟩
    exact W.iret (v := nc1_18) hx hb hr (fun t ht hW => ⟨⟨nc1_18, (ws_28, er1_15), rfl, ⟨hTf_29, (rp_A0 hp_21 hc_22), (rp_Ke hp_21)⟩, by rw [ht]; exact hP, by rw [hAe]; exact hD⟩, hS.F ht⟩) hS.2.2 dX10_load_84
  · refine lv_bipush (v := (-100)) hx hb dX10_load_51 (by decide) ?_
    refine lv_aload_n hx hb dX10_load_53 rfl (lv_at hl 0 rfl) ?_
    refine va_getN (v := .int ep1_16) (D := D) (ci := 6) (C := RX6) (T := TX6) (N := 7) hx hb hts in_X6 hown hK hP 1 rfl rfl 6 (by decide) (hts _ kl_RX10_54) (fun _ h9 => h9) rfl dX10_load_54 ?_
    refine lv_isub hx hb dX10_load_57 ?_
    have hP : va_P D vwCl ([(ty_XO x w sp sv bu (0) er1_15), (rf_RW ct 0 bu 800 b), (ty_RD q_5 bu bl sp pl1_13 ws1_14 er1_15 ep1_16)] ++ ws_12) H := ty_permP hP (ty_ordp (E := [(ty_XO x w sp sv bu (0) er1_15), (ty_RD q_5 bu bl sp pl1_13 ws1_14 er1_15 ep1_16), (rf_RW ct 0 bu 800 b)]) (E2 := [(ty_XO x w sp sv bu (0) er1_15), (rf_RW ct 0 bu 800 b), (ty_RD q_5 bu bl sp pl1_13 ws1_14 er1_15 ep1_16)]) (n := 3) [0, 2, 1] rfl rfl (by decide))
    have hD : va_D A ([(ty_XO x w sp sv bu (0) er1_15), (rf_RW ct 0 bu 800 b), (ty_RD q_5 bu bl sp pl1_13 ws1_14 er1_15 ep1_16)] ++ ws_12) := ty_permD hD (ty_ordp (E := [(ty_XO x w sp sv bu (0) er1_15), (ty_RD q_5 bu bl sp pl1_13 ws1_14 er1_15 ep1_16), (rf_RW ct 0 bu 800 b)]) (E2 := [(ty_XO x w sp sv bu (0) er1_15), (rf_RW ct 0 bu 800 b), (ty_RD q_5 bu bl sp pl1_13 ws1_14 er1_15 ep1_16)]) (n := 3) [0, 2, 1] rfl rfl (by decide))
    have hP : va_P D vwCl ([(ty_XO x w sp sv bu (0) er1_15), (rf_RW ct 0 bu 800 b)] ++ ws_12) H := ty_subP hP (ty_dr1 (E := [(ty_XO x w sp sv bu (0) er1_15), (rf_RW ct 0 bu 800 b)]) (x := (ty_RD q_5 bu bl sp pl1_13 ws1_14 er1_15 ep1_16)))
    have hD : va_D A ([(ty_XO x w sp sv bu (0) er1_15), (rf_RW ct 0 bu 800 b)] ++ ws_12) := ty_subD hD (ty_dr1 (E := [(ty_XO x w sp sv bu (0) er1_15), (rf_RW ct 0 bu 800 b)]) (x := (ty_RD q_5 bu bl sp pl1_13 ws1_14 er1_15 ep1_16)))
    have hTf_30 : ty_V ct S (rp_S sp cu na pr ch) ws_12 := ⟨hT.1, hT.2.1⟩
    exact W.iret (v := ((-100) - ep1_16)) hx hb hr (fun t ht hW => ⟨⟨((-100) - ep1_16), (ws_12, er1_15), rfl, ⟨hTf_30, (rp_A1 hp_21 hc_22), (rp_Ke hp_21)⟩, by rw [ht]; exact hP, by rw [hAe]; exact hD⟩, hS.F ht⟩) hS.2.2 dX10_load_58
set_option maxRecDepth 100000 in
set_option maxHeartbeats 4000000 in
theorem r_put (l : Launch) (D : va_G) (ct : Nat → ClassId) (S : ty_S) (ws : va_W) (ph : va_W → Prop) (xx : Nat → Nat → Nat → Prop) (p1 : Nat) (p2 : Int32) (p3 : Int32) (b : Nat → Int32) (sz : Nat) (hT : ty_V ct S ph ws) (hph : ty_C ph xx) (hy1 : ty_y1 xx) (hix : 0 ≤ p2.toInt ∧ p2.toInt < 800) : Met l yX10_put (ws_ yX10_put cX10_put 3 none) ({ frames := 0, cells := 0, slots := 0, locals := 0 } : Room) (va_Pc [.ref p1, .int p2, .int p3] (cmP D ct sz ([(rf_RW ct 0 p1 800 b)] ++ ws))) (va_Qv (fun (u : va_W × (Nat → Int32)) => match u with | (u9, b1) => ty_V ct S ph u9 ∧ b1 = (upd b p2.toNatClampNeg p3)) (cmB D ([(rf_RW ct 0 p1 800 b)] ++ ws) sz (fun (u : va_W × (Nat → Int32)) => match u with | (u9, b1) => ([(rf_RW ct 0 p1 800 b1)] ++ u9))) (va_A ([(rf_RW ct 0 p1 800 b)] ++ ws) sz)) 0 0 (va_A ([(rf_RW ct 0 p1 800 b)] ++ ws) sz) := by
  refine Met.ofW (cc := cX10_put) (maxL := 3) (ret := none) (by decide) rfl ?_
  intro p e s m args below meth c s₁ B hml hv
  obtain ⟨rfl, hsz, hP, hK, hD0, hX⟩ := hv
  have hx := B.exec
  have hb := B.bytes
  have hr := B.returns
  have hts := ws_all (atoms_spec (ws := ws_ yX10_put cX10_put 3 none) B.pre)
  have hown : s.vm.findClass RX10 = some m.cls := findClass_of_methodNamed B.named
  have hlocks := B.notSynchronized
  subst hsz
  have hD := hD0.self (sz := s.heap.size)
  generalize hAe : va_A ([(rf_RW ct 0 p1 800 b)] ++ ws) s.heap.size = A at hD hX ⊢
  have hA : ∀ q : Nat, s.heap.size ≤ q → A q := fun q h => by rw [← hAe]; exact Or.inr h
  have hS : va_S A s.heap s.heap [] := va_S.rf
  have hl := lv_entry ([.ref p1, .int p2, .int p3]) (n := 3) (Nat.le_of_ble_eq_true rfl)
  rw [lg_entry_eq]
  generalize (lg_sl ([.ref p1, .int p2, .int p3]) ++ List.replicate (3 - (lg_sl ([.ref p1, .int p2, .int p3])).length) Slot.unset).toArray = ls at hl ⊢
  have hl : lv_has ls 3 [(0, .ref p1), (1, .int p2), (2, .int p3)] := hl
  refine lv_iload_n hx hb dX10_put_0 rfl (lv_at hl 1 rfl) ?_
  refine lv_if_lt (tgt := 14) hx hb dX10_put_1 (by decide) (fun hc => absurd hc (ty_nneg hix.1)) (fun _ => ?_)
  refine lv_iload_n hx hb dX10_put_4 rfl (lv_at hl 1 rfl) ?_
  refine lv_aload_n hx hb dX10_put_5 rfl (lv_at hl 0 rfl) ?_
  refine va_alen hx hb hK hP 0 0 rfl rfl (v := 800) (show Int32.ofNat 800 = (800 : Int32) from by decide) dX10_put_6 ?_
  refine lv_icmp_ge (tgt := 14) hx hb dX10_put_7 (by decide) (fun hc => absurd hc (fun q => rp_big q hix.2)) (fun _ => ?_)
  refine lv_aload_n hx hb dX10_put_10 rfl (lv_at hl 0 rfl) ?_
  refine lv_iload_n hx hb dX10_put_11 rfl (lv_at hl 1 rfl) ?_
  refine lv_iload_n hx hb dX10_put_12 rfl (lv_at hl 2 rfl) ?_
  refine va_iast hx hb hK hP hD hS 0 0 rfl rfl (rp_vin hix) dX10_put_13 (fun H locs hP hD hS => ?_)
  have hP : va_P D vwCl ([(rf_RW ct 0 p1 800 (upd b p2.toNatClampNeg p3))] ++ ws) H := hP
  have hD : va_D A ([(rf_RW ct 0 p1 800 (upd b p2.toNatClampNeg p3))] ++ ws) := hD
  exact W.vret hx hb hr (fun t ht hW => ⟨⟨(ws, (upd b p2.toNatClampNeg p3)), rfl, ⟨hT, rfl⟩, by rw [ht]; exact hP, by rw [hAe]; exact hD⟩, hS.F ht⟩) hS.2.2 dX10_put_14
theorem dX10_append_0 : decode cX10_append 0 = .ok (.iconst 0, 1) := by decide +kernel
theorem dX10_append_1 : decode cX10_append 1 = .ok (.istore_n 3, 1) := by decide +kernel
theorem dX10_append_2 : decode cX10_append 2 = .ok (.bipush 56, 2) := by decide +kernel
theorem dX10_append_4 : decode cX10_append 4 = .ok (.istore 4, 2) := by decide +kernel
theorem dX10_append_6 : decode cX10_append 6 = .ok (.iload 4, 2) := by decide +kernel
theorem dX10_append_8 : decode cX10_append 8 = .ok (.ifCond .lt 25, 3) := by decide +kernel
theorem dX10_append_11 : decode cX10_append 11 = .ok (.lload_n 1, 1) := by decide +kernel
theorem dX10_append_12 : decode cX10_append 12 = .ok (.iload 4, 2) := by decide +kernel
theorem dX10_append_14 : decode cX10_append 14 = .ok (.lushr, 1) := by decide +kernel
theorem dX10_append_15 : decode cX10_append 15 = .ok (.ldc2_w 34, 3) := by decide +kernel
theorem dX10_append_18 : decode cX10_append 18 = .ok (.land, 1) := by decide +kernel
theorem dX10_append_19 : decode cX10_append 19 = .ok (.lconst 0, 1) := by decide +kernel
theorem dX10_append_20 : decode cX10_append 20 = .ok (.lcmp, 1) := by decide +kernel
theorem dX10_append_21 : decode cX10_append 21 = .ok (.ifCond .eq 6, 3) := by decide +kernel
theorem dX10_append_24 : decode cX10_append 24 = .ok (.iinc 3 1, 3) := by decide +kernel
theorem dX10_append_27 : decode cX10_append 27 = .ok (.iinc 4 (-8), 3) := by decide +kernel
theorem dX10_append_30 : decode cX10_append 30 = .ok (.goto (-24), 3) := by decide +kernel
theorem dX10_append_33 : decode cX10_append 33 = .ok (.aload_n 0, 1) := by decide +kernel
theorem dX10_append_34 : decode cX10_append 34 = .ok (.getfield 27, 3) := by decide +kernel
theorem dX10_append_37 : decode cX10_append 37 = .ok (.iload_n 3, 1) := by decide +kernel
theorem dX10_append_38 : decode cX10_append 38 = .ok (.iadd, 1) := by decide +kernel
theorem dX10_append_39 : decode cX10_append 39 = .ok (.sipush 800, 3) := by decide +kernel
theorem dX10_append_42 : decode cX10_append 42 = .ok (.if_icmp .le 6, 3) := by decide +kernel
theorem dX10_append_45 : decode cX10_append 45 = .ok (.bipush (-2), 2) := by decide +kernel
theorem dX10_append_47 : decode cX10_append 47 = .ok (.ireturn, 1) := by decide +kernel
theorem dX10_append_48 : decode cX10_append 48 = .ok (.bipush 56, 2) := by decide +kernel
theorem dX10_append_50 : decode cX10_append 50 = .ok (.istore 4, 2) := by decide +kernel
theorem dX10_append_52 : decode cX10_append 52 = .ok (.iload 4, 2) := by decide +kernel
theorem dX10_append_54 : decode cX10_append 54 = .ok (.ifCond .lt 48, 3) := by decide +kernel
theorem dX10_append_57 : decode cX10_append 57 = .ok (.lload_n 1, 1) := by decide +kernel
theorem dX10_append_58 : decode cX10_append 58 = .ok (.iload 4, 2) := by decide +kernel
theorem dX10_append_60 : decode cX10_append 60 = .ok (.lushr, 1) := by decide +kernel
theorem dX10_append_61 : decode cX10_append 61 = .ok (.ldc2_w 34, 3) := by decide +kernel
theorem dX10_append_64 : decode cX10_append 64 = .ok (.land, 1) := by decide +kernel
theorem dX10_append_65 : decode cX10_append 65 = .ok (.l2i, 1) := by decide +kernel
theorem dX10_append_66 : decode cX10_append 66 = .ok (.istore 5, 2) := by decide +kernel
theorem dX10_append_68 : decode cX10_append 68 = .ok (.iload 5, 2) := by decide +kernel
theorem dX10_append_70 : decode cX10_append 70 = .ok (.ifCond .eq 26, 3) := by decide +kernel
theorem dX10_append_73 : decode cX10_append 73 = .ok (.aload_n 0, 1) := by decide +kernel
theorem dX10_append_74 : decode cX10_append 74 = .ok (.getfield 23, 3) := by decide +kernel
theorem dX10_append_77 : decode cX10_append 77 = .ok (.aload_n 0, 1) := by decide +kernel
theorem dX10_append_78 : decode cX10_append 78 = .ok (.getfield 27, 3) := by decide +kernel
theorem dX10_append_81 : decode cX10_append 81 = .ok (.iload 5, 2) := by decide +kernel
theorem dX10_append_83 : decode cX10_append 83 = .ok (.invokestatic 36, 3) := by decide +kernel
theorem dX10_append_86 : decode cX10_append 86 = .ok (.aload_n 0, 1) := by decide +kernel
theorem dX10_append_87 : decode cX10_append 87 = .ok (.dup, 1) := by decide +kernel
theorem dX10_append_88 : decode cX10_append 88 = .ok (.getfield 27, 3) := by decide +kernel
theorem dX10_append_91 : decode cX10_append 91 = .ok (.iconst 1, 1) := by decide +kernel
theorem dX10_append_92 : decode cX10_append 92 = .ok (.iadd, 1) := by decide +kernel
theorem dX10_append_93 : decode cX10_append 93 = .ok (.putfield 27, 3) := by decide +kernel
theorem dX10_append_96 : decode cX10_append 96 = .ok (.iinc 4 (-8), 3) := by decide +kernel
theorem dX10_append_99 : decode cX10_append 99 = .ok (.goto (-47), 3) := by decide +kernel
theorem dX10_append_102 : decode cX10_append 102 = .ok (.aload_n 0, 1) := by decide +kernel
theorem dX10_append_103 : decode cX10_append 103 = .ok (.getfield 27, 3) := by decide +kernel
theorem dX10_append_106 : decode cX10_append 106 = .ok (.ireturn, 1) := by decide +kernel
set_option maxRecDepth 100000 in
set_option maxHeartbeats 4000000 in
theorem r_append (l : Launch) (D : va_G) (ct : Nat → ClassId) (S : ty_S) (ws : va_W) (ph : va_W → Prop) (xx : Nat → Nat → Nat → Prop) (x : Nat) (w : Nat) (sp : Nat) (sv : Nat) (bu : Nat) (bl : Int32) (le : Int32) (b : Nat → Int32) (p1 : Int64) (sz : Nat) (hT : ty_V ct S ph ws) (hph : ty_C ph xx) (hy1 : ty_y1 xx) (hbl : 0 ≤ bl.toInt ∧ bl.toInt ≤ 800) : Met l yX10_append (ws_ yX10_append cX10_append 6 (some .int)) ({ frames := 1, cells := 0, slots := 0, locals := 22 } : Room) (va_Pc [.ref x, .long p1] (cmP D ct sz ([(ty_XO x w sp sv bu bl le), (rf_RW ct 0 bu 800 b)] ++ ws))) (va_Qi (fun (r : Int32) (u : va_W × Int32 × (Nat → Int32)) => match u with | (u9, bl1, b1) => ty_V ct S ph u9 ∧ r = ty_apr bl p1 ∧ bl1 = ty_apb bl p1 ∧ b1 = ap_f b bl p1) (cmB D ([(ty_XO x w sp sv bu bl le), (rf_RW ct 0 bu 800 b)] ++ ws) sz (fun (u : va_W × Int32 × (Nat → Int32)) => match u with | (u9, bl1, b1) => ([(ty_XO x w sp sv bu bl1 le), (rf_RW ct 0 bu 800 b1)] ++ u9))) (va_A ([(ty_XO x w sp sv bu bl le), (rf_RW ct 0 bu 800 b)] ++ ws) sz)) 0 0 (va_A ([(ty_XO x w sp sv bu bl le), (rf_RW ct 0 bu 800 b)] ++ ws) sz) := by
  refine Met.ofW (cc := cX10_append) (maxL := 6) (ret := (some .int)) (by decide) rfl ?_
  intro p e s m args below meth c s₁ B hml hv
  obtain ⟨rfl, hsz, hP, hK, hD0, hX⟩ := hv
  have hx := B.exec
  have hb := B.bytes
  have hr := B.returns
  have hts := ws_all (atoms_spec (ws := ws_ yX10_append cX10_append 6 (some .int)) B.pre)
  have hown : s.vm.findClass RX10 = some m.cls := findClass_of_methodNamed B.named
  have hlocks := B.notSynchronized
  subst hsz
  have hD := hD0.self (sz := s.heap.size)
  generalize hAe : va_A ([(ty_XO x w sp sv bu bl le), (rf_RW ct 0 bu 800 b)] ++ ws) s.heap.size = A at hD hX ⊢
  have hA : ∀ q : Nat, s.heap.size ≤ q → A q := fun q h => by rw [← hAe]; exact Or.inr h
  have hS : va_S A s.heap s.heap [] := va_S.rf
  have hl := lv_entry ([.ref x, .long p1]) (n := 6) (Nat.le_of_ble_eq_true rfl)
  rw [lg_entry_eq]
  generalize (lg_sl ([.ref x, .long p1]) ++ List.replicate (6 - (lg_sl ([.ref x, .long p1])).length) Slot.unset).toArray = ls at hl ⊢
  have hl : lv_has ls 6 [(0, .ref x), (1, .long p1)] := hl
  refine lv_iconst (v := 0) hx hb dX10_append_0 (by decide) ?_
  refine lv_istore_n (lv' := [(3, .int 0), (0, .ref x), (1, .long p1)]) hx hb dX10_append_1 rfl hl (by decide) rfl (fun ls hl => ?_)
  refine lv_bipush (v := 56) hx hb dX10_append_2 (by decide) ?_
  refine lv_istore (lv' := [(4, .int 56), (3, .int 0), (0, .ref x), (1, .long p1)]) hx hb dX10_append_4 hl (by decide) rfl (fun ls hl => ?_)
  refine ty_loop (I := fun μ H locs ls => ∃ (ws : va_W) (y_1 : Int32) (y_2 : Int32), μ = (y_2.toInt + 2147483648).toNat ∧ ty_V ct S ph ws ∧ va_P D vwCl ([(ty_XO x w sp sv bu bl le), (rf_RW ct 0 bu 800 b)] ++ ws) H ∧ va_D A ([(ty_XO x w sp sv bu bl le), (rf_RW ct 0 bu 800 b)] ++ ws) ∧ va_S A s.heap H locs ∧ lv_has ls 6 [(0, .ref x), (1, .long p1), (3, .int y_1), (4, .int y_2)] ∧ ∃ i9 : Nat, i9 ≤ 8 ∧ y_2 = cm_sh i9 ∧ y_1 = cm_cnt p1 i9) ⟨_, ws, (0 : Int32), (56 : Int32), rfl, hT, hP, hD, hS, (lv_sub hl [2, 3, 1, 0] rfl), ⟨0, by decide, rfl, rfl⟩⟩ (fun μ H locs ls hI ih_6 => ?_)
  obtain ⟨ws, y_1, y_2, rfl, hT, hP, hD, hS, hl, hex_6⟩ := hI
  refine lv_iload hx hb dX10_append_6 (lv_at hl 3 rfl) ?_
  refine lv_if_lt (tgt := 33) hx hb dX10_append_8 (by decide) (fun hc_3 => ?_) (fun hc_3 => ?_)
  · obtain rfl := ty_ap3 hex_6 hc_3
    have hl : lv_has ls 6 [(0, .ref x), (1, .long p1), (3, .int (cm_cnt p1 8)), (4, .int y_2)] := hl
    refine lv_aload_n hx hb dX10_append_33 rfl (lv_at hl 0 rfl) ?_
    refine va_get (v := .int bl) (D := D) (ci := 10) (C := RX10) (T := TX10) (N := 6) hx hb hts in_X10 hown hK hP 0 rfl rfl 4 (by decide) (hts _ kl_RX10_27) (fun _ h9 => h9) rfl dX10_append_34 ?_
    refine lv_iload_n hx hb dX10_append_37 rfl (lv_at hl 2 rfl) ?_
    refine lv_iadd hx hb dX10_append_38 ?_
    refine lv_sipush (v := 800) hx hb dX10_append_39 (by decide) ?_
    refine lv_icmp_le (tgt := 48) hx hb dX10_append_42 (by decide) (fun hc_4 => ?_) (fun hc_4 => ?_)
    · refine lv_bipush (v := 56) hx hb dX10_append_48 (by decide) ?_
      refine lv_istore (lv' := [(4, .int 56), (0, .ref x), (1, .long p1), (3, .int (cm_cnt p1 8))]) hx hb dX10_append_50 hl (by decide) rfl (fun ls hl => ?_)
      refine ty_loop (I := fun μ H locs ls => ∃ (ws : va_W) (y_5 : Int32) (y_6 : Int32) (g_7 : Nat → Int32), μ = (y_5.toInt + 2147483648).toNat ∧ ty_V ct S ph ws ∧ va_P D vwCl ([(ty_XO x w sp sv bu y_6 le), (rf_RW ct 0 bu 800 g_7)] ++ ws) H ∧ va_D A ([(ty_XO x w sp sv bu y_6 le), (rf_RW ct 0 bu 800 g_7)] ++ ws) ∧ va_S A s.heap H locs ∧ lv_has ls 6 [(0, .ref x), (1, .long p1), (3, .int (cm_cnt p1 8)), (4, .int y_5)] ∧ ∃ i9 : Nat, i9 ≤ 8 ∧ y_5 = cm_sh i9 ∧ y_6 = bl + cm_cn2 p1 i9 ∧ g_7 = cm_bu b bl p1 i9) ⟨_, ws, (56 : Int32), bl, b, rfl, hT, hP, hD, hS, (lv_sub hl [1, 2, 3, 0] rfl), ⟨0, by decide, rfl, (Int32.add_zero _).symm, rfl⟩⟩ (fun μ H locs ls hI ih_52 => ?_)
      obtain ⟨ws, y_5, y_6, g_7, rfl, hT, hP, hD, hS, hl, hex_52⟩ := hI
      refine lv_iload hx hb dX10_append_52 (lv_at hl 3 rfl) ?_
      refine lv_if_lt (tgt := 102) hx hb dX10_append_54 (by decide) (fun hc_8 => ?_) (fun hc_8 => ?_)
      · obtain ⟨rfl, rfl⟩ := ap_6 hex_52 hc_8
        have hP : va_P D vwCl ([(ty_XO x w sp sv bu (bl + cm_cn2 p1 8) le), (rf_RW ct 0 bu 800 (cm_bu b bl p1 8))] ++ ws) H := hP
        have hD : va_D A ([(ty_XO x w sp sv bu (bl + cm_cn2 p1 8) le), (rf_RW ct 0 bu 800 (cm_bu b bl p1 8))] ++ ws) := hD
        refine lv_aload_n hx hb dX10_append_102 rfl (lv_at hl 0 rfl) ?_
        refine va_get (v := .int (bl + cm_cn2 p1 8)) (D := D) (ci := 10) (C := RX10) (T := TX10) (N := 6) hx hb hts in_X10 hown hK hP 0 rfl rfl 4 (by decide) (hts _ kl_RX10_27) (fun _ h9 => h9) rfl dX10_append_103 ?_
        exact W.iret (v := (bl + cm_cn2 p1 8)) hx hb hr (fun t ht hW => ⟨⟨(bl + cm_cn2 p1 8), (ws, (bl + cm_cn2 p1 8), (cm_bu b bl p1 8)), rfl, ⟨hT, ⟨(ty_ap7 hc_4).1, (ty_ap7 hc_4).2, ap_7 hc_4⟩⟩, by rw [ht]; exact hP, by rw [hAe]; exact hD⟩, hS.F ht⟩) hS.2.2 dX10_append_106
      · refine lv_lload_n hx hb dX10_append_57 rfl (lv_at hl 1 rfl) ?_
        refine lv_iload hx hb dX10_append_58 (lv_at hl 3 rfl) ?_
        refine lv_lushr (v := (p1.toUInt64 >>> (y_5.toInt64.toUInt64 &&& Int64.toUInt64 63)).toInt64) hx hb dX10_append_60 rfl ?_
        refine lv_ldc2 hx hb hown (hts _ kl_RX10_34) dX10_append_61 ?_
        refine lv_land hx hb dX10_append_64 ?_
        refine cm_cstl (y := (cm_byte p1 y_5)) rfl ?_
        refine lv_l2i hx hb dX10_append_65 rfl ?_
        refine lv_istore (lv' := [(5, .int ((cm_byte p1 y_5).toInt32)), (0, .ref x), (1, .long p1), (3, .int (cm_cnt p1 8)), (4, .int y_5)]) hx hb dX10_append_66 hl (by decide) rfl (fun ls hl => ?_)
        refine lv_iload hx hb dX10_append_68 (lv_at hl 0 rfl) ?_
        refine lv_if_eq (tgt := 96) hx hb dX10_append_70 (by decide) (fun hc_9 => ?_) (fun hc_9 => ?_)
        · refine lv_iinc (v := (y_5 + Int32.ofInt (-8))) (lv' := [(4, .int (y_5 + Int32.ofInt (-8))), (5, .int ((cm_byte p1 y_5).toInt32)), (0, .ref x), (1, .long p1), (3, .int (cm_cnt p1 8))]) hx hb dX10_append_96 hl (k := 4) rfl rfl (by decide) rfl (fun ls hl => ?_)
          refine lv_goto (tgt := 52) hx hb dX10_append_99 (by decide) ?_
          exact ih_52 _ _ _ _ (ty_decn hc_8) ⟨ws, (y_5 + Int32.ofInt (-8)), y_6, g_7, rfl, hT, hP, hD, hS, (lv_sub hl [2, 3, 4, 0] rfl), (ap_4 hex_52 hc_8 hc_9)⟩
        · refine lv_aload_n hx hb dX10_append_73 rfl (lv_at hl 1 rfl) ?_
          refine va_get (v := .ref bu) (D := D) (ci := 10) (C := RX10) (T := TX10) (N := 6) hx hb hts in_X10 hown hK hP 0 rfl rfl 3 (by decide) (hts _ kl_RX10_23) (fun _ h9 => h9) rfl dX10_append_74 ?_
          refine lv_aload_n hx hb dX10_append_77 rfl (lv_at hl 1 rfl) ?_
          refine va_get (v := .int y_6) (D := D) (ci := 10) (C := RX10) (T := TX10) (N := 6) hx hb hts in_X10 hown hK hP 0 rfl rfl 4 (by decide) (hts _ kl_RX10_27) (fun _ h9 => h9) rfl dX10_append_78 ?_
          refine lv_iload hx hb dX10_append_81 (lv_at hl 0 rfl) ?_
          have hP : va_P D vwCl (([(ty_XO x w sp sv bu y_6 le)] ++ ws) ++ ([(rf_RW ct 0 bu 800 g_7)] ++ ([] : va_W))) H := ty_permP (w1 := (([(ty_XO x w sp sv bu y_6 le)] ++ [(rf_RW ct 0 bu 800 g_7)]) ++ ws)) hP ty_mv2
          have hD : va_D A (([(ty_XO x w sp sv bu y_6 le)] ++ ws) ++ ([(rf_RW ct 0 bu 800 g_7)] ++ ([] : va_W))) := ty_permD (w1 := (([(ty_XO x w sp sv bu y_6 le)] ++ [(rf_RW ct 0 bu 800 g_7)]) ++ ws)) hD ty_mv2
          refine ty_kv (wr := ([(ty_XO x w sp sv bu y_6 le)] ++ ws)) (wc := ([(rf_RW ct 0 bu 800 g_7)] ++ ([] : va_W))) (va_runS (As := [.ref bu, .int y_6, .int ((cm_byte p1 y_5).toInt32)]) (rest := []) ⟨hx, hb, hml, hown, hts⟩ (r_put l D ct (fun _ => none) [] (fun _ => True) (fun _ _ _ => True) bu y_6 ((cm_byte p1 y_5).toInt32) g_7 _ ty_V0 ty_C0 ty_y10 (ap_r (rf_api hbl hc_4 (ap_x hex_52) hc_8 hc_9))) (cm_S 3 hts kc_X10_put ki_RX10 kl_RX10_36 ks_X10_put kd_X10_put ⟨Nat.le_of_ble_eq_true rfl, Nat.le_of_ble_eq_true rfl⟩) (ty_preS (wr := ([(ty_XO x w sp sv bu y_6 le)] ++ ws)) (wc := ([(rf_RW ct 0 bu 800 g_7)] ++ ([] : va_W))) hP hK hD hS hA hX) rfl rfl hl.1 rfl (lv_room (Nat.le_of_ble_eq_true rfl)) dX10_append_83 ⟨Nat.le_of_ble_eq_true rfl, Nat.le_of_ble_eq_true rfl⟩) hP hD hS hA (fun u H locs hw_11 hP hD hS => ?_)
          obtain ⟨ws_12, b1_13⟩ := u
          obtain ⟨hT9_14, hp_15⟩ := hw_11
          have hp_15 : b1_13 = (upd g_7 y_6.toNatClampNeg ((cm_byte p1 y_5).toInt32)) := hp_15
          have hP : va_P D vwCl ([(ty_XO x w sp sv bu y_6 le), (rf_RW ct 0 bu 800 b1_13)] ++ ws) H := ty_bkP hP
          have hD : va_D A ([(ty_XO x w sp sv bu y_6 le), (rf_RW ct 0 bu 800 b1_13)] ++ ws) := ty_bkD hD
          obtain rfl := hp_15
          refine lv_aload_n hx hb dX10_append_86 rfl (lv_at hl 1 rfl) ?_
          refine lv_dup hx hb dX10_append_87 rfl ?_
          refine va_get (v := .int y_6) (D := D) (ci := 10) (C := RX10) (T := TX10) (N := 6) hx hb hts in_X10 hown hK hP 0 rfl rfl 4 (by decide) (hts _ kl_RX10_27) (fun _ h9 => h9) rfl dX10_append_88 ?_
          refine lv_iconst (v := 1) hx hb dX10_append_91 (by decide) ?_
          refine lv_iadd hx hb dX10_append_92 ?_
          refine va_put (v := .int (y_6 + 1)) (ty := .int) (D := D) (ci := 10) (C := RX10) (T := TX10) (N := 6) hx hb hts in_X10 tyX10 tyX10_ok nmX10 hown hK hP hD hS 0 rfl rfl 4 (by decide) (hts _ kl_RX10_27) (fun _ h9 => h9) rfl (by decide +kernel) rfl rfl (Nat.le_of_ble_eq_true rfl) dX10_append_93 (fun H locs hP hD hS => ?_)
          have hP : va_P D vwCl ([(ty_XO x w sp sv bu (y_6 + 1) le), (rf_RW ct 0 bu 800 (upd g_7 y_6.toNatClampNeg ((cm_byte p1 y_5).toInt32)))] ++ ws) H := hP
          have hD : va_D A ([(ty_XO x w sp sv bu (y_6 + 1) le), (rf_RW ct 0 bu 800 (upd g_7 y_6.toNatClampNeg ((cm_byte p1 y_5).toInt32)))] ++ ws) := hD
          refine lv_iinc (v := (y_5 + Int32.ofInt (-8))) (lv' := [(4, .int (y_5 + Int32.ofInt (-8))), (5, .int ((cm_byte p1 y_5).toInt32)), (0, .ref x), (1, .long p1), (3, .int (cm_cnt p1 8))]) hx hb dX10_append_96 hl (k := 4) rfl rfl (by decide) rfl (fun ls hl => ?_)
          refine lv_goto (tgt := 52) hx hb dX10_append_99 (by decide) ?_
          exact ih_52 _ _ _ _ (ty_decn hc_8) ⟨ws, (y_5 + Int32.ofInt (-8)), (y_6 + 1), (upd g_7 y_6.toNatClampNeg ((cm_byte p1 y_5).toInt32)), rfl, hT, hP, hD, hS, (lv_sub hl [2, 3, 4, 0] rfl), (ap_5 hex_52 hc_8 hc_9)⟩
    · refine lv_bipush (v := (-2)) hx hb dX10_append_45 (by decide) ?_
      exact W.iret (v := (-2)) hx hb hr (fun t ht hW => ⟨⟨(-2), (ws, bl, b), rfl, ⟨hT, ⟨(ty_ap8 hc_4).1, (ty_ap8 hc_4).2, ap_8 hc_4⟩⟩, by rw [ht]; exact hP, by rw [hAe]; exact hD⟩, hS.F ht⟩) hS.2.2 dX10_append_47
  · refine lv_lload_n hx hb dX10_append_11 rfl (lv_at hl 1 rfl) ?_
    refine lv_iload hx hb dX10_append_12 (lv_at hl 3 rfl) ?_
    refine lv_lushr (v := (p1.toUInt64 >>> (y_2.toInt64.toUInt64 &&& Int64.toUInt64 63)).toInt64) hx hb dX10_append_14 rfl ?_
    refine lv_ldc2 hx hb hown (hts _ kl_RX10_34) dX10_append_15 ?_
    refine lv_land hx hb dX10_append_18 ?_
    refine cm_cstl (y := (cm_byte p1 y_2)) rfl ?_
    refine lv_lconst (v := 0) hx hb dX10_append_19 (by decide) ?_
    refine W.lcmp hx hb dX10_append_20 ?_
    refine lv_if_eq (tgt := 27) hx hb dX10_append_21 (by decide) (fun hc_17 => ?_) (fun hc_17 => ?_)
    · refine lv_iinc (v := (y_2 + Int32.ofInt (-8))) (lv' := [(4, .int (y_2 + Int32.ofInt (-8))), (0, .ref x), (1, .long p1), (3, .int y_1)]) hx hb dX10_append_27 hl (k := 3) rfl rfl (by decide) rfl (fun ls hl => ?_)
      refine lv_goto (tgt := 6) hx hb dX10_append_30 (by decide) ?_
      exact ih_6 _ _ _ _ (ty_decn hc_3) ⟨ws, y_1, (y_2 + Int32.ofInt (-8)), rfl, hT, hP, hD, hS, (lv_sub hl [1, 2, 3, 0] rfl), (ty_ap1 hex_6 hc_3 hc_17)⟩
    · refine lv_iinc (v := (y_1 + Int32.ofInt 1)) (lv' := [(3, .int (y_1 + Int32.ofInt 1)), (0, .ref x), (1, .long p1), (4, .int y_2)]) hx hb dX10_append_24 hl (k := 2) rfl rfl (by decide) rfl (fun ls hl => ?_)
      refine lv_iinc (v := (y_2 + Int32.ofInt (-8))) (lv' := [(4, .int (y_2 + Int32.ofInt (-8))), (3, .int (y_1 + Int32.ofInt 1)), (0, .ref x), (1, .long p1)]) hx hb dX10_append_27 hl (k := 3) rfl rfl (by decide) rfl (fun ls hl => ?_)
      refine lv_goto (tgt := 6) hx hb dX10_append_30 (by decide) ?_
      exact ih_6 _ _ _ _ (ty_decn hc_3) ⟨ws, (y_1 + Int32.ofInt 1), (y_2 + Int32.ofInt (-8)), rfl, hT, hP, hD, hS, (lv_sub hl [2, 3, 1, 0] rfl), (ty_ap2 hex_6 hc_3 hc_17)⟩
theorem dX10_curveNamed_0 : decode cX10_curveNamed 0 = .ok (.aload_n 0, 1) := by decide +kernel
theorem dX10_curveNamed_1 : decode cX10_curveNamed 1 = .ok (.getfield 27, 3) := by decide +kernel
theorem dX10_curveNamed_4 : decode cX10_curveNamed 4 = .ok (.istore_n 1, 1) := by decide +kernel
theorem dX10_curveNamed_5 : decode cX10_curveNamed 5 = .ok (.aload_n 0, 1) := by decide +kernel
theorem dX10_curveNamed_6 : decode cX10_curveNamed 6 = .ok (.iconst 0, 1) := by decide +kernel
theorem dX10_curveNamed_7 : decode cX10_curveNamed 7 = .ok (.putfield 27, 3) := by decide +kernel
theorem dX10_curveNamed_10 : decode cX10_curveNamed 10 = .ok (.iload_n 1, 1) := by decide +kernel
theorem dX10_curveNamed_11 : decode cX10_curveNamed 11 = .ok (.iconst 1, 1) := by decide +kernel
theorem dX10_curveNamed_12 : decode cX10_curveNamed 12 = .ok (.if_icmp .lt 9, 3) := by decide +kernel
theorem dX10_curveNamed_15 : decode cX10_curveNamed 15 = .ok (.iload_n 1, 1) := by decide +kernel
theorem dX10_curveNamed_16 : decode cX10_curveNamed 16 = .ok (.bipush 6, 2) := by decide +kernel
theorem dX10_curveNamed_18 : decode cX10_curveNamed 18 = .ok (.if_icmp .le 5, 3) := by decide +kernel
theorem dX10_curveNamed_21 : decode cX10_curveNamed 21 = .ok (.iconst (-1), 1) := by decide +kernel
theorem dX10_curveNamed_22 : decode cX10_curveNamed 22 = .ok (.ireturn, 1) := by decide +kernel
theorem dX10_curveNamed_23 : decode cX10_curveNamed 23 = .ok (.aload_n 0, 1) := by decide +kernel
theorem dX10_curveNamed_24 : decode cX10_curveNamed 24 = .ok (.getfield 10, 3) := by decide +kernel
theorem dX10_curveNamed_27 : decode cX10_curveNamed 27 = .ok (.getfield 67, 3) := by decide +kernel
theorem dX10_curveNamed_30 : decode cX10_curveNamed 30 = .ok (.aload_n 0, 1) := by decide +kernel
theorem dX10_curveNamed_31 : decode cX10_curveNamed 31 = .ok (.getfield 23, 3) := by decide +kernel
theorem dX10_curveNamed_34 : decode cX10_curveNamed 34 = .ok (.iconst 0, 1) := by decide +kernel
theorem dX10_curveNamed_35 : decode cX10_curveNamed 35 = .ok (.iload_n 1, 1) := by decide +kernel
theorem dX10_curveNamed_36 : decode cX10_curveNamed 36 = .ok (.invokestatic 71, 3) := by decide +kernel
theorem dX10_curveNamed_39 : decode cX10_curveNamed 39 = .ok (.invokevirtual 75, 3) := by decide +kernel
theorem dX10_curveNamed_42 : decode cX10_curveNamed 42 = .ok (.ireturn, 1) := by decide +kernel
set_option maxRecDepth 100000 in
set_option maxHeartbeats 4000000 in
theorem r_curveNamed (l : Launch) (D : va_G) (ct : Nat → ClassId) (S : ty_S) (ws : va_W) (ph : va_W → Prop) (xx : Nat → Nat → Nat → Prop) (x : Nat) (w : Nat) (sp : Nat) (sv : Nat) (bu : Nat) (bl : Int32) (le : Int32) (b : Nat → Int32) (ns : Nat) (sz : Nat) (hT : ty_V ct S ph ws) (h_w : S w = some (.inl 9)) (h_sp : S sp = some (.inl 9)) (h_sv : S sv = some (.inr (4, ns))) (hph : ty_C ph xx) (hy1 : ty_y1 xx) (hbl : 0 ≤ bl.toInt ∧ bl.toInt ≤ 800) : Met l yX10_curveNamed (ws_ yX10_curveNamed cX10_curveNamed 2 (some .int)) ({ frames := 2, cells := 0, slots := 0, locals := 46 } : Room) (va_Pc [.ref x] (cmP D ct sz ([(ty_XO x w sp sv bu bl le), (rf_RW ct 0 bu 800 b)] ++ ws))) (va_Qi (fun (r : Int32) (u9 : va_W) => ty_V ct S ph u9) (cmB D ([(ty_XO x w sp sv bu bl le), (rf_RW ct 0 bu 800 b)] ++ ws) sz (fun (u9 : va_W) => ([(ty_XO x w sp sv bu (0) le), (rf_RW ct 0 bu 800 b)] ++ u9))) (va_A ([(ty_XO x w sp sv bu bl le), (rf_RW ct 0 bu 800 b)] ++ ws) sz)) 0 0 (va_A ([(ty_XO x w sp sv bu bl le), (rf_RW ct 0 bu 800 b)] ++ ws) sz) := by
  refine Met.ofW (cc := cX10_curveNamed) (maxL := 2) (ret := (some .int)) (by decide) rfl ?_
  intro p e s m args below meth c s₁ B hml hv
  obtain ⟨rfl, hsz, hP, hK, hD0, hX⟩ := hv
  have hx := B.exec
  have hb := B.bytes
  have hr := B.returns
  have hts := ws_all (atoms_spec (ws := ws_ yX10_curveNamed cX10_curveNamed 2 (some .int)) B.pre)
  have hown : s.vm.findClass RX10 = some m.cls := findClass_of_methodNamed B.named
  have hlocks := B.notSynchronized
  subst hsz
  have hD := hD0.self (sz := s.heap.size)
  generalize hAe : va_A ([(ty_XO x w sp sv bu bl le), (rf_RW ct 0 bu 800 b)] ++ ws) s.heap.size = A at hD hX ⊢
  have hA : ∀ q : Nat, s.heap.size ≤ q → A q := fun q h => by rw [← hAe]; exact Or.inr h
  have hS : va_S A s.heap s.heap [] := va_S.rf
  have hl := lv_entry ([.ref x]) (n := 2) (Nat.le_of_ble_eq_true rfl)
  rw [lg_entry_eq]
  generalize (lg_sl ([.ref x]) ++ List.replicate (2 - (lg_sl ([.ref x])).length) Slot.unset).toArray = ls at hl ⊢
  have hl : lv_has ls 2 [(0, .ref x)] := hl
  refine lv_aload_n hx hb dX10_curveNamed_0 rfl (lv_at hl 0 rfl) ?_
  refine va_get (v := .int bl) (D := D) (ci := 10) (C := RX10) (T := TX10) (N := 6) hx hb hts in_X10 hown hK hP 0 rfl rfl 4 (by decide) (hts _ kl_RX10_27) (fun _ h9 => h9) rfl dX10_curveNamed_1 ?_
  refine lv_istore_n (lv' := [(1, .int bl), (0, .ref x)]) hx hb dX10_curveNamed_4 rfl hl (by decide) rfl (fun ls hl => ?_)
  refine lv_aload_n hx hb dX10_curveNamed_5 rfl (lv_at hl 1 rfl) ?_
  refine lv_iconst (v := 0) hx hb dX10_curveNamed_6 (by decide) ?_
  refine va_put (v := .int 0) (ty := .int) (D := D) (ci := 10) (C := RX10) (T := TX10) (N := 6) hx hb hts in_X10 tyX10 tyX10_ok nmX10 hown hK hP hD hS 0 rfl rfl 4 (by decide) (hts _ kl_RX10_27) (fun _ h9 => h9) rfl (by decide +kernel) rfl rfl (Nat.le_of_ble_eq_true rfl) dX10_curveNamed_7 (fun H locs hP hD hS => ?_)
  have hP : va_P D vwCl ([(ty_XO x w sp sv bu (0) le), (rf_RW ct 0 bu 800 b)] ++ ws) H := hP
  have hD : va_D A ([(ty_XO x w sp sv bu (0) le), (rf_RW ct 0 bu 800 b)] ++ ws) := hD
  refine lv_iload_n hx hb dX10_curveNamed_10 rfl (lv_at hl 0 rfl) ?_
  refine lv_iconst (v := 1) hx hb dX10_curveNamed_11 (by decide) ?_
  refine lv_icmp_lt (tgt := 21) hx hb dX10_curveNamed_12 (by decide) (fun hc_1 => ?_) (fun hc_1 => ?_)
  · refine lv_iconst (v := (-1)) hx hb dX10_curveNamed_21 (by decide) ?_
    exact W.iret (v := (-1)) hx hb hr (fun t ht hW => ⟨⟨(-1), ws, rfl, hT, by rw [ht]; exact hP, by rw [hAe]; exact hD⟩, hS.F ht⟩) hS.2.2 dX10_curveNamed_22
  · refine lv_iload_n hx hb dX10_curveNamed_15 rfl (lv_at hl 0 rfl) ?_
    refine lv_bipush (v := 6) hx hb dX10_curveNamed_16 (by decide) ?_
    refine lv_icmp_le (tgt := 23) hx hb dX10_curveNamed_18 (by decide) (fun hc_2 => ?_) (fun hc_2 => ?_)
    · refine lv_aload_n hx hb dX10_curveNamed_23 rfl (lv_at hl 1 rfl) ?_
      refine va_get (v := .ref w) (D := D) (ci := 10) (C := RX10) (T := TX10) (N := 6) hx hb hts in_X10 hown hK hP 0 rfl rfl 0 (by decide) (hts _ kl_RX10_10) (fun _ h9 => h9) rfl dX10_curveNamed_24 ?_
      refine ty_getN (E := [(ty_XO x w sp sv bu (0) le), (rf_RW ct 0 bu 800 b)]) (ws := ws) (D := D) (ci := 9) (C := RX9) (T := TX9) (N := 8) hx hb hts in_X9 hown hK hP hT h_w rfl 2 (by decide) (hts _ kl_RX10_67) (fun _ h9 => h9) rfl dX10_curveNamed_27 (fun _ hv_3 hf_4 => ?_)
      obtain ⟨a_5, rfl, ha_6⟩ := hv_3
      refine lv_aload_n hx hb dX10_curveNamed_30 rfl (lv_at hl 1 rfl) ?_
      refine va_get (v := .ref bu) (D := D) (ci := 10) (C := RX10) (T := TX10) (N := 6) hx hb hts in_X10 hown hK hP 0 rfl rfl 3 (by decide) (hts _ kl_RX10_23) (fun _ h9 => h9) rfl dX10_curveNamed_31 ?_
      refine lv_iconst (v := 0) hx hb dX10_curveNamed_34 (by decide) ?_
      refine lv_iload_n hx hb dX10_curveNamed_35 rfl (lv_at hl 0 rfl) ?_
      have hP : va_P D vwCl (([(ty_XO x w sp sv bu (0) le)] ++ ws) ++ ([(rf_RW ct 0 bu 800 b)] ++ ([] : va_W))) H := ty_permP (w1 := (([(ty_XO x w sp sv bu (0) le)] ++ [(rf_RW ct 0 bu 800 b)]) ++ ws)) hP ty_mv2
      have hD : va_D A (([(ty_XO x w sp sv bu (0) le)] ++ ws) ++ ([(rf_RW ct 0 bu 800 b)] ++ ([] : va_W))) := ty_permD (w1 := (([(ty_XO x w sp sv bu (0) le)] ++ [(rf_RW ct 0 bu 800 b)]) ++ ws)) hD ty_mv2
      refine ty_kl (wr := ([(ty_XO x w sp sv bu (0) le)] ++ ws)) (wc := ([(rf_RW ct 0 bu 800 b)] ++ ([] : va_W))) (va_runS (As := [.ref bu, .int 0, .int bl]) (rest := [.ref a_5]) ⟨hx, hb, hml, hown, hts⟩ (r_nameCode l D ct (fun _ => none) [] (fun _ => True) (fun _ _ _ => True) bu (0 : Int32) bl b _ ty_V0 ty_C0 ty_y10 (by have z : (0 : Int32).toInt = 0 := (by decide); omega)) (cm_S 3 hts kc_X10_nameCode ki_RX10 kl_RX10_71 ks_X10_nameCode kd_X10_nameCode ⟨Nat.le_of_ble_eq_true rfl, Nat.le_of_ble_eq_true rfl⟩) (ty_preS (wr := ([(ty_XO x w sp sv bu (0) le)] ++ ws)) (wc := ([(rf_RW ct 0 bu 800 b)] ++ ([] : va_W))) hP hK hD hS hA hX) rfl rfl hl.1 rfl (lv_room (Nat.le_of_ble_eq_true rfl)) dX10_curveNamed_36 ⟨Nat.le_of_ble_eq_true rfl, Nat.le_of_ble_eq_true rfl⟩) hP hD hS hA (fun r_7 u H locs hw_8 hP hD hS => ?_)
      obtain ⟨ws_9, rfl⟩ : ∃ z, z = u := ⟨_, rfl⟩
      obtain ⟨hT9_10, rfl⟩ := hw_8
      have hP : va_P D vwCl ([(ty_XO x w sp sv bu (0) le), (rf_RW ct 0 bu 800 b)] ++ ws) H := ty_bkP hP
      have hD : va_D A ([(ty_XO x w sp sv bu (0) le), (rf_RW ct 0 bu 800 b)] ++ ws) := ty_bkD hD
      refine ty_ki (wr := [(ty_XO x w sp sv bu (0) le), (rf_RW ct 0 bu 800 b)]) (wc := ([] ++ ws)) (va_runVN (As := [.long (rp_cd (rp_wd b 0 bl))]) (rest := []) ⟨hx, hb, hml, hown, hts⟩ (t_X2_find l D ct S ws ph xx a_5 (rp_cd (rp_wd b 0 bl)) _ hT ha_6 hph hy1) (cm_VN 1 hts kc_X2_find ki_RX2 kl_RX10_75 kv_X2_find kx_X2_find kd_X2_find ⟨Nat.le_of_ble_eq_true rfl, Nat.le_of_ble_eq_true rfl⟩) (ty_preV (wr := [(ty_XO x w sp sv bu (0) le), (rf_RW ct 0 bu 800 b)]) (E := []) (ws := ws) (ci := 2) hP hK hD hS hA hX hT rfl ha_6) rfl rfl hl.1 rfl (lv_room (Nat.le_of_ble_eq_true rfl)) dX10_curveNamed_39 ⟨Nat.le_of_ble_eq_true rfl, Nat.le_of_ble_eq_true rfl⟩) hP hD hS hA (fun r_11 u H locs hw_12 hP hD hS => ?_)
      obtain ⟨ws_13, rfl⟩ : ∃ z, z = u := ⟨_, rfl⟩
      have hT := hw_12
      have hP : va_P D vwCl ([(ty_XO x w sp sv bu (0) le), (rf_RW ct 0 bu 800 b)] ++ ws_13) H := hP
      have hD : va_D A ([(ty_XO x w sp sv bu (0) le), (rf_RW ct 0 bu 800 b)] ++ ws_13) := hD
      exact W.iret (v := r_11) hx hb hr (fun t ht hW => ⟨⟨r_11, ws_13, rfl, hT, by rw [ht]; exact hP, by rw [hAe]; exact hD⟩, hS.F ht⟩) hS.2.2 dX10_curveNamed_42
    · refine lv_iconst (v := (-1)) hx hb dX10_curveNamed_21 (by decide) ?_
      exact W.iret (v := (-1)) hx hb hr (fun t ht hW => ⟨⟨(-1), ws, rfl, hT, by rw [ht]; exact hP, by rw [hAe]; exact hD⟩, hS.F ht⟩) hS.2.2 dX10_curveNamed_22
set_option maxRecDepth 100000 in
set_option maxHeartbeats 4000000 in
theorem r_loadError (l : Launch) (D : va_G) (ct : Nat → ClassId) (S : ty_S) (ws : va_W) (ph : va_W → Prop) (xx : Nat → Nat → Nat → Prop) (x : Nat) (w : Nat) (sp : Nat) (sv : Nat) (bu : Nat) (bl : Int32) (le : Int32) (sz : Nat) (hT : ty_V ct S ph ws) (hph : ty_C ph xx) (hy1 : ty_y1 xx) : Met l yX10_loadError (ws_ yX10_loadError cX10_loadError 1 (some .int)) ({ frames := 0, cells := 0, slots := 0, locals := 0 } : Room) (va_Pc [.ref x] (cmP D ct sz ([(ty_XO x w sp sv bu bl le)] ++ ws))) (va_Qi (fun (r : Int32) (u9 : va_W) => ty_V ct S ph u9 ∧ r = le) (cmB D ([(ty_XO x w sp sv bu bl le)] ++ ws) sz (fun (u9 : va_W) => ([(ty_XO x w sp sv bu bl le)] ++ u9))) (va_A ([(ty_XO x w sp sv bu bl le)] ++ ws) sz)) 0 0 (va_A ([(ty_XO x w sp sv bu bl le)] ++ ws) sz) := by
  refine Met.ofW (cc := cX10_loadError) (maxL := 1) (ret := (some .int)) (by decide) rfl ?_
  intro p e s m args below meth c s₁ B hml hv
  obtain ⟨rfl, hsz, hP, hK, hD0, hX⟩ := hv
  have hx := B.exec
  have hb := B.bytes
  have hr := B.returns
  have hts := ws_all (atoms_spec (ws := ws_ yX10_loadError cX10_loadError 1 (some .int)) B.pre)
  have hown : s.vm.findClass RX10 = some m.cls := findClass_of_methodNamed B.named
  have hlocks := B.notSynchronized
  subst hsz
  have hD := hD0.self (sz := s.heap.size)
  generalize hAe : va_A ([(ty_XO x w sp sv bu bl le)] ++ ws) s.heap.size = A at hD hX ⊢
  have hA : ∀ q : Nat, s.heap.size ≤ q → A q := fun q h => by rw [← hAe]; exact Or.inr h
  have hS : va_S A s.heap s.heap [] := va_S.rf
  have hl := lv_entry ([.ref x]) (n := 1) (Nat.le_of_ble_eq_true rfl)
  rw [lg_entry_eq]
  generalize (lg_sl ([.ref x]) ++ List.replicate (1 - (lg_sl ([.ref x])).length) Slot.unset).toArray = ls at hl ⊢
  have hl : lv_has ls 1 [(0, .ref x)] := hl
  refine lv_aload_n hx hb dX10_loadError_0 rfl (lv_at hl 0 rfl) ?_
  refine va_get (v := .int le) (D := D) (ci := 10) (C := RX10) (T := TX10) (N := 6) hx hb hts in_X10 hown hK hP 0 rfl rfl 5 (by decide) (hts _ kl_RX10_31) (fun _ h9 => h9) rfl dX10_loadError_1 ?_
  exact W.iret (v := le) hx hb hr (fun t ht hW => ⟨⟨le, ws, rfl, ⟨hT, rfl⟩, by rw [ht]; exact hP, by rw [hAe]; exact hD⟩, hS.F ht⟩) hS.2.2 dX10_loadError_4
