set_option maxRecDepth 100000 in
set_option maxHeartbeats 4000000 in
theorem m_X11_readStep (l : Launch) (D : va_G) (ct : Nat → ClassId) (S : ty_S) (ws : va_W) (ph : va_W → Prop) (xx : Nat → Nat → Nat → Prop) (mo : Nat) (mw : Nat) (ma : Nat) (mf : Nat) (m0 : Nat) (m1 : Nat) (mu : Nat) (mv : Nat) (u0 : Nat) (u1 : Nat) (iz : Nat) (mb : Nat) (th : Int32) (mn : Int32) (mpt : Int32) (mbg : Int32) (mwr : Int32) (mlf : Int32) (men : Int32) (b : Nat → Int32) (p1 : Int32) (p2 : Int32) (g : Nat → Int32) (sz : Nat) (hT : ty_V ct S ph ws) (hph : ty_C ph xx) (hy1 : ty_y1 xx) (hmn : 0 ≤ mn.toInt ∧ mn.toInt ≤ 800) (hpt : 0 ≤ mpt.toInt ∧ mpt.toInt ≤ mn.toInt) (hb2 : mpt.toInt ≤ mbg.toInt ∧ mbg.toInt ≤ mn.toInt) (hL : rf_L g) (hn4 : (g 10).toInt < 4) (hp3 : p1.toInt = 97 + 37 * (g 10).toInt + 3 * p2.toInt) (hk2 : 0 ≤ p2.toInt ∧ p2.toInt ≤ 12) : Met l yX11_readStep (ws_ yX11_readStep cX11_readStep 5 (some .boolean)) ({ frames := 5, cells := 0, slots := 0, locals := 109 } : Room) (va_Pc [.ref mo, .int p1, .int p2] (cmP D ct sz ([(rf_MO mo mw ma mf m0 m1 mu mv u0 u1 iz th mb mn mpt mbg mwr (0) mlf men), (rf_RW ct 0 mb 800 b), (rf_RW ct 0 mf 958 g)] ++ ws))) (va_Qi (fun (r : Int32) (u : va_W × Int32 × Int32 × Int32 × Int32 × (Nat → Int32)) => match u with | (u9, mpt1, mbg1, mwr1, mwk1, g1) => ty_V ct S ph u9 ∧ ((mpt.toInt ≤ mpt1.toInt ∧ mpt1.toInt ≤ mn.toInt) ∧ 0 ≤ mbg1.toInt ∧ mbg1.toInt ≤ mn.toInt) ∧ ((r = 0 ∧ ((p2 = 12 ∧ mwk1 = 1 ∧ mwr1 = mbg) ∨ (¬ p2 = 12 ∧ rm_f (rp_stk b mn p2.toInt mbg) (rp_stp b mn p2.toInt mbg) mwk1 mwr1))) ∨ (r = 1 ∧ (rp_stk b mn p2.toInt mbg) = 0 ∧ mwk1 = 0 ∧ mpt1 = (rp_stp b mn p2.toInt mbg) ∧ p2.toInt ≤ 11 ∧ rf_sp g g1 p1.toInt.toNat p2 ∧ g1 = rq_step b mn p2.toInt mbg p1.toInt.toNat g))) (cmB D ([(rf_MO mo mw ma mf m0 m1 mu mv u0 u1 iz th mb mn mpt mbg mwr (0) mlf men), (rf_RW ct 0 mb 800 b), (rf_RW ct 0 mf 958 g)] ++ ws) sz (fun (u : va_W × Int32 × Int32 × Int32 × Int32 × (Nat → Int32)) => match u with | (u9, mpt1, mbg1, mwr1, mwk1, g1) => ([(rf_MO mo mw ma mf m0 m1 mu mv u0 u1 iz th mb mn mpt1 mbg1 mwr1 mwk1 mlf men), (rf_RW ct 0 mb 800 b), (rf_RW ct 0 mf 958 g1)] ++ u9))) (va_A ([(rf_MO mo mw ma mf m0 m1 mu mv u0 u1 iz th mb mn mpt mbg mwr (0) mlf men), (rf_RW ct 0 mb 800 b), (rf_RW ct 0 mf 958 g)] ++ ws) sz)) 0 0 (va_A ([(rf_MO mo mw ma mf m0 m1 mu mv u0 u1 iz th mb mn mpt mbg mwr (0) mlf men), (rf_RW ct 0 mb 800 b), (rf_RW ct 0 mf 958 g)] ++ ws) sz) := by
  refine Met.ofW (cc := cX11_readStep) (maxL := 5) (ret := (some .boolean)) (by decide) rfl ?_
  intro p e s m args below meth c s₁ B hml hv
  obtain ⟨rfl, hsz, hP, hK, hD0, hX⟩ := hv
  have hx := B.exec
  have hb := B.bytes
  have hr := B.returns
  have hts := ws_all (atoms_spec (ws := ws_ yX11_readStep cX11_readStep 5 (some .boolean)) B.pre)
  have hown : s.vm.findClass RX11 = some m.cls := findClass_of_methodNamed B.named
  have hlocks := B.notSynchronized
  subst hsz
  have hD := hD0.self (sz := s.heap.size)
  generalize hAe : va_A ([(rf_MO mo mw ma mf m0 m1 mu mv u0 u1 iz th mb mn mpt mbg mwr (0) mlf men), (rf_RW ct 0 mb 800 b), (rf_RW ct 0 mf 958 g)] ++ ws) s.heap.size = A at hD hX ⊢
  have hA : ∀ q : Nat, s.heap.size ≤ q → A q := fun q h => by rw [← hAe]; exact Or.inr h
  have hS : va_S A s.heap s.heap [] := va_S.rf
  have hl := lv_entry ([.ref mo, .int p1, .int p2]) (n := 5) (Nat.le_of_ble_eq_true rfl)
  rw [lg_entry_eq]
  generalize (lg_sl ([.ref mo, .int p1, .int p2]) ++ List.replicate (5 - (lg_sl ([.ref mo, .int p1, .int p2])).length) Slot.unset).toArray = ls at hl ⊢
  have hl : lv_has ls 5 [(0, .ref mo), (1, .int p1), (2, .int p2)] := hl
  refine lv_aload_n hx hb dX11_readStep_0 rfl (lv_at hl 0 rfl) ?_
  obtain ⟨sa_1, sv_2, hsr_3, hss_4⟩ := hX.2.2.2.1 ("CellCyclerModel", 144, "charge", [99, 104, 97, 114, 103, 101]) (by decide +kernel)
  refine va_ldcS hx hb hown hsr_3 dX11_readStep_1 ?_
  obtain ⟨hP, hD⟩ := ty_opPD (E1 := [(rf_RW ct 0 mf 958 g)]) (E2 := [(rf_MO mo mw ma mf m0 m1 mu mv u0 u1 iz th mb mn mpt mbg mwr (0) mlf men), (rf_RW ct 0 mb 800 b)]) (n := 3) [2, 0, 1] hP hD rfl rfl (by decide +kernel) ty_mva
  refine ty_Ki hP hD hS hA (va_runV (As := [.ref sa_1]) (rest := []) ⟨hx, hb, hml, hown, hts⟩ (m_X11_isWord l D ct S ws ph xx mo mw ma mf m0 m1 mu mv u0 u1 iz mb th mn mpt mbg mwr (0 : Int32) mlf men b sa_1 ("CellCyclerModel", 144, "charge", [99, 104, 97, 114, 103, 101]) _ hT hph hy1 hmn (by omega) (by decide +kernel)) (cm_V 1 hts kc_X11_isWord ki_RX11 kl_RX11_146 kv_X11_isWord kx_X11_isWord kd_X11_isWord ⟨Nat.le_of_ble_eq_true rfl, Nat.le_of_ble_eq_true rfl⟩) (cm_preVs (ty_preE (ci := 11) (q0 := 1) hP hK hD hS hA hX rfl rfl) hsr_3) rfl rfl hl.1 rfl (lv_room (Nat.le_of_ble_eq_true rfl)) dX11_readStep_3 ⟨Nat.le_of_ble_eq_true rfl, Nat.le_of_ble_eq_true rfl⟩) (fun r_5 u H locs hw_6 hP hD hS => ?_)
  obtain ⟨ws_7, rfl⟩ : ∃ z, z = u := ⟨_, rfl⟩
  obtain ⟨hT, hp_8⟩ := hw_6
  have hp_8 : ((r_5 = 0 ∧ ¬ rp_w b mn mbg = ("CellCyclerModel", 144, "charge", [99, 104, 97, 114, 103, 101]).2.2.2) ∨ (r_5 = 1 ∧ rp_w b mn mbg = ("CellCyclerModel", 144, "charge", [99, 104, 97, 114, 103, 101]).2.2.2)) := hp_8
  obtain ⟨hP, hD⟩ := ty_shPD (w2 := ([(rf_RW ct 0 mf 958 g), (rf_MO mo mw ma mf m0 m1 mu mv u0 u1 iz th mb mn mpt mbg mwr (0) mlf men), (rf_RW ct 0 mb 800 b)] ++ ws_7)) hP hD rfl
  rcases hp_8 with ⟨rfl, hz_9⟩ | ⟨rfl, hz_10⟩
  · refine lv_if_eq (tgt := 13) hx hb dX11_readStep_6 (by decide) (fun _ => ?_) (fun hc => absurd (by decide) hc)
    refine lv_aload_n hx hb dX11_readStep_13 rfl (lv_at hl 0 rfl) ?_
    obtain ⟨sa_11, sv_12, hsr_13, hss_14⟩ := hX.2.2.2.1 ("CellCyclerModel", 150, "hold", [104, 111, 108, 100]) (by decide +kernel)
    refine va_ldcS hx hb hown hsr_13 dX11_readStep_14 ?_
    obtain ⟨hP, hD⟩ := ty_ipPD (E1 := [(rf_RW ct 0 mf 958 g)]) (E2 := [(rf_MO mo mw ma mf m0 m1 mu mv u0 u1 iz th mb mn mpt mbg mwr (0) mlf men), (rf_RW ct 0 mb 800 b)]) hP hD rfl ty_mva
    refine ty_Ki hP hD hS hA (va_runV (As := [.ref sa_11]) (rest := []) ⟨hx, hb, hml, hown, hts⟩ (m_X11_isWord l D ct S ws_7 ph xx mo mw ma mf m0 m1 mu mv u0 u1 iz mb th mn mpt mbg mwr (0 : Int32) mlf men b sa_11 ("CellCyclerModel", 150, "hold", [104, 111, 108, 100]) _ hT hph hy1 hmn (by omega) (by decide +kernel)) (cm_V 1 hts kc_X11_isWord ki_RX11 kl_RX11_146 kv_X11_isWord kx_X11_isWord kd_X11_isWord ⟨Nat.le_of_ble_eq_true rfl, Nat.le_of_ble_eq_true rfl⟩) (cm_preVs (ty_preE (ci := 11) (q0 := 1) hP hK hD hS hA hX rfl rfl) hsr_13) rfl rfl hl.1 rfl (lv_room (Nat.le_of_ble_eq_true rfl)) dX11_readStep_16 ⟨Nat.le_of_ble_eq_true rfl, Nat.le_of_ble_eq_true rfl⟩) (fun r_15 u H locs hw_16 hP hD hS => ?_)
    obtain ⟨ws_17, rfl⟩ : ∃ z, z = u := ⟨_, rfl⟩
    obtain ⟨hT, hp_18⟩ := hw_16
    have hp_18 : ((r_15 = 0 ∧ ¬ rp_w b mn mbg = ("CellCyclerModel", 150, "hold", [104, 111, 108, 100]).2.2.2) ∨ (r_15 = 1 ∧ rp_w b mn mbg = ("CellCyclerModel", 150, "hold", [104, 111, 108, 100]).2.2.2)) := hp_18
    obtain ⟨hP, hD⟩ := ty_shPD (w2 := ([(rf_RW ct 0 mf 958 g), (rf_MO mo mw ma mf m0 m1 mu mv u0 u1 iz th mb mn mpt mbg mwr (0) mlf men), (rf_RW ct 0 mb 800 b)] ++ ws_17)) hP hD rfl
    rcases hp_18 with ⟨rfl, hz_19⟩ | ⟨rfl, hz_20⟩
    · refine lv_if_eq (tgt := 26) hx hb dX11_readStep_19 (by decide) (fun _ => ?_) (fun hc => absurd (by decide) hc)
      refine lv_aload_n hx hb dX11_readStep_26 rfl (lv_at hl 0 rfl) ?_
      obtain ⟨sa_21, sv_22, hsr_23, hss_24⟩ := hX.2.2.2.1 ("CellCyclerModel", 152, "discharge", [100, 105, 115, 99, 104, 97, 114, 103, 101]) (by decide +kernel)
      refine va_ldcS hx hb hown hsr_23 dX11_readStep_27 ?_
      obtain ⟨hP, hD⟩ := ty_ipPD (E1 := [(rf_RW ct 0 mf 958 g)]) (E2 := [(rf_MO mo mw ma mf m0 m1 mu mv u0 u1 iz th mb mn mpt mbg mwr (0) mlf men), (rf_RW ct 0 mb 800 b)]) hP hD rfl ty_mva
      refine ty_Ki hP hD hS hA (va_runV (As := [.ref sa_21]) (rest := []) ⟨hx, hb, hml, hown, hts⟩ (m_X11_isWord l D ct S ws_17 ph xx mo mw ma mf m0 m1 mu mv u0 u1 iz mb th mn mpt mbg mwr (0 : Int32) mlf men b sa_21 ("CellCyclerModel", 152, "discharge", [100, 105, 115, 99, 104, 97, 114, 103, 101]) _ hT hph hy1 hmn (by omega) (by decide +kernel)) (cm_V 1 hts kc_X11_isWord ki_RX11 kl_RX11_146 kv_X11_isWord kx_X11_isWord kd_X11_isWord ⟨Nat.le_of_ble_eq_true rfl, Nat.le_of_ble_eq_true rfl⟩) (cm_preVs (ty_preE (ci := 11) (q0 := 1) hP hK hD hS hA hX rfl rfl) hsr_23) rfl rfl hl.1 rfl (lv_room (Nat.le_of_ble_eq_true rfl)) dX11_readStep_29 ⟨Nat.le_of_ble_eq_true rfl, Nat.le_of_ble_eq_true rfl⟩) (fun r_25 u H locs hw_26 hP hD hS => ?_)
      obtain ⟨ws_27, rfl⟩ : ∃ z, z = u := ⟨_, rfl⟩
      obtain ⟨hT, hp_28⟩ := hw_26
      have hp_28 : ((r_25 = 0 ∧ ¬ rp_w b mn mbg = ("CellCyclerModel", 152, "discharge", [100, 105, 115, 99, 104, 97, 114, 103, 101]).2.2.2) ∨ (r_25 = 1 ∧ rp_w b mn mbg = ("CellCyclerModel", 152, "discharge", [100, 105, 115, 99, 104, 97, 114, 103, 101]).2.2.2)) := hp_28
      obtain ⟨hP, hD⟩ := ty_shPD (w2 := ([(rf_RW ct 0 mf 958 g), (rf_MO mo mw ma mf m0 m1 mu mv u0 u1 iz th mb mn mpt mbg mwr (0) mlf men), (rf_RW ct 0 mb 800 b)] ++ ws_27)) hP hD rfl
      rcases hp_28 with ⟨rfl, hz_29⟩ | ⟨rfl, hz_30⟩
      · refine lv_if_eq (tgt := 39) hx hb dX11_readStep_32 (by decide) (fun _ => ?_) (fun hc => absurd (by decide) hc)
        refine lv_aload_n hx hb dX11_readStep_39 rfl (lv_at hl 0 rfl) ?_
        obtain ⟨sa_31, sv_32, hsr_33, hss_34⟩ := hX.2.2.2.1 ("CellCyclerModel", 154, "rest", [114, 101, 115, 116]) (by decide +kernel)
        refine va_ldcS hx hb hown hsr_33 dX11_readStep_40 ?_
        obtain ⟨hP, hD⟩ := ty_ipPD (E1 := [(rf_RW ct 0 mf 958 g)]) (E2 := [(rf_MO mo mw ma mf m0 m1 mu mv u0 u1 iz th mb mn mpt mbg mwr (0) mlf men), (rf_RW ct 0 mb 800 b)]) hP hD rfl ty_mva
        refine ty_Ki hP hD hS hA (va_runV (As := [.ref sa_31]) (rest := []) ⟨hx, hb, hml, hown, hts⟩ (m_X11_isWord l D ct S ws_27 ph xx mo mw ma mf m0 m1 mu mv u0 u1 iz mb th mn mpt mbg mwr (0 : Int32) mlf men b sa_31 ("CellCyclerModel", 154, "rest", [114, 101, 115, 116]) _ hT hph hy1 hmn (by omega) (by decide +kernel)) (cm_V 1 hts kc_X11_isWord ki_RX11 kl_RX11_146 kv_X11_isWord kx_X11_isWord kd_X11_isWord ⟨Nat.le_of_ble_eq_true rfl, Nat.le_of_ble_eq_true rfl⟩) (cm_preVs (ty_preE (ci := 11) (q0 := 1) hP hK hD hS hA hX rfl rfl) hsr_33) rfl rfl hl.1 rfl (lv_room (Nat.le_of_ble_eq_true rfl)) dX11_readStep_42 ⟨Nat.le_of_ble_eq_true rfl, Nat.le_of_ble_eq_true rfl⟩) (fun r_35 u H locs hw_36 hP hD hS => ?_)
        obtain ⟨ws_37, rfl⟩ : ∃ z, z = u := ⟨_, rfl⟩
        obtain ⟨hT, hp_38⟩ := hw_36
        have hp_38 : ((r_35 = 0 ∧ ¬ rp_w b mn mbg = ("CellCyclerModel", 154, "rest", [114, 101, 115, 116]).2.2.2) ∨ (r_35 = 1 ∧ rp_w b mn mbg = ("CellCyclerModel", 154, "rest", [114, 101, 115, 116]).2.2.2)) := hp_38
        obtain ⟨hP, hD⟩ := ty_shPD (w2 := ([(rf_RW ct 0 mf 958 g), (rf_MO mo mw ma mf m0 m1 mu mv u0 u1 iz th mb mn mpt mbg mwr (0) mlf men), (rf_RW ct 0 mb 800 b)] ++ ws_37)) hP hD rfl
        rcases hp_38 with ⟨rfl, hz_39⟩ | ⟨rfl, hz_40⟩
        · refine lv_if_eq (tgt := 52) hx hb dX11_readStep_45 (by decide) (fun _ => ?_) (fun hc => absurd (by decide) hc)
          refine lv_aload_n hx hb dX11_readStep_52 rfl (lv_at hl 0 rfl) ?_
          obtain ⟨sa_41, sv_42, hsr_43, hss_44⟩ := hX.2.2.2.1 ("CellCyclerModel", 156, "repeat", [114, 101, 112, 101, 97, 116]) (by decide +kernel)
          refine va_ldcS hx hb hown hsr_43 dX11_readStep_53 ?_
          obtain ⟨hP, hD⟩ := ty_ipPD (E1 := [(rf_RW ct 0 mf 958 g)]) (E2 := [(rf_MO mo mw ma mf m0 m1 mu mv u0 u1 iz th mb mn mpt mbg mwr (0) mlf men), (rf_RW ct 0 mb 800 b)]) hP hD rfl ty_mva
          refine ty_Ki hP hD hS hA (va_runV (As := [.ref sa_41]) (rest := []) ⟨hx, hb, hml, hown, hts⟩ (m_X11_isWord l D ct S ws_37 ph xx mo mw ma mf m0 m1 mu mv u0 u1 iz mb th mn mpt mbg mwr (0 : Int32) mlf men b sa_41 ("CellCyclerModel", 156, "repeat", [114, 101, 112, 101, 97, 116]) _ hT hph hy1 hmn (by omega) (by decide +kernel)) (cm_V 1 hts kc_X11_isWord ki_RX11 kl_RX11_146 kv_X11_isWord kx_X11_isWord kd_X11_isWord ⟨Nat.le_of_ble_eq_true rfl, Nat.le_of_ble_eq_true rfl⟩) (cm_preVs (ty_preE (ci := 11) (q0 := 1) hP hK hD hS hA hX rfl rfl) hsr_43) rfl rfl hl.1 rfl (lv_room (Nat.le_of_ble_eq_true rfl)) dX11_readStep_55 ⟨Nat.le_of_ble_eq_true rfl, Nat.le_of_ble_eq_true rfl⟩) (fun r_45 u H locs hw_46 hP hD hS => ?_)
          obtain ⟨ws_47, rfl⟩ : ∃ z, z = u := ⟨_, rfl⟩
          obtain ⟨hT, hp_48⟩ := hw_46
          have hp_48 : ((r_45 = 0 ∧ ¬ rp_w b mn mbg = ("CellCyclerModel", 156, "repeat", [114, 101, 112, 101, 97, 116]).2.2.2) ∨ (r_45 = 1 ∧ rp_w b mn mbg = ("CellCyclerModel", 156, "repeat", [114, 101, 112, 101, 97, 116]).2.2.2)) := hp_48
          obtain ⟨hP, hD⟩ := ty_shPD (w2 := ([(rf_RW ct 0 mf 958 g), (rf_MO mo mw ma mf m0 m1 mu mv u0 u1 iz th mb mn mpt mbg mwr (0) mlf men), (rf_RW ct 0 mb 800 b)] ++ ws_47)) hP hD rfl
          rcases hp_48 with ⟨rfl, hz_49⟩ | ⟨rfl, hz_50⟩
          · refine lv_if_eq (tgt := 65) hx hb dX11_readStep_58 (by decide) (fun _ => ?_) (fun hc => absurd (by decide) hc)
            refine lv_iconst (v := (-1)) hx hb dX11_readStep_65 (by decide) ?_
            refine lv_istore_n (lv' := [(3, .int (-1)), (0, .ref mo), (1, .int p1), (2, .int p2)]) hx hb dX11_readStep_66 rfl hl (by decide) rfl (fun ls hl => ?_)
            refine lv_iload_n hx hb dX11_readStep_67 rfl (lv_at hl 0 rfl) ?_
            refine lv_iconst (v := (-1)) hx hb dX11_readStep_68 (by decide) ?_
            refine lv_icmp_eq (tgt := 78) hx hb dX11_readStep_69 (by decide) (fun _ => ?_) (fun hc => absurd (by decide) hc)
            refine lv_aload_n hx hb dX11_readStep_78 rfl (lv_at hl 1 rfl) ?_
            refine lv_iconst (v := 1) hx hb dX11_readStep_79 (by decide) ?_
            obtain ⟨hP, hD⟩ := ty_opPD (E1 := [(rf_RW ct 0 mf 958 g), (rf_RW ct 0 mb 800 b)]) (E2 := [(rf_MO mo mw ma mf m0 m1 mu mv u0 u1 iz th mb mn mpt mbg mwr (0) mlf men)]) (n := 3) [0, 2, 1] hP hD rfl rfl (by decide +kernel) ty_mva
            refine ty_Ki hP hD hS hA (va_runV (As := [.int 1]) (rest := []) ⟨hx, hb, hml, hown, hts⟩ (m_X11_fails l D ct S ws_47 ph xx mo mw ma mf m0 m1 mu mv u0 u1 iz mb th mn mpt mbg mwr mlf men (1 : Int32) _ hT hph hy1) (cm_V 1 hts kc_X11_fails ki_RX11 kl_RX11_112 kv_X11_fails kx_X11_fails kd_X11_fails ⟨Nat.le_of_ble_eq_true rfl, Nat.le_of_ble_eq_true rfl⟩) (ty_preE (ci := 11) (q0 := 2) hP hK hD hS hA hX rfl rfl) rfl rfl hl.1 rfl (lv_room (Nat.le_of_ble_eq_true rfl)) dX11_readStep_80 ⟨Nat.le_of_ble_eq_true rfl, Nat.le_of_ble_eq_true rfl⟩) (fun r_51 u H locs hw_52 hP hD hS => ?_)
            obtain ⟨ws_53, rfl⟩ : ∃ z, z = u := ⟨_, rfl⟩
            obtain ⟨hT, rfl⟩ := hw_52
            obtain ⟨hP, hD⟩ := ty_shPD (w2 := ([(rf_RW ct 0 mf 958 g), (rf_RW ct 0 mb 800 b), (rf_MO mo mw ma mf m0 m1 mu mv u0 u1 iz th mb mn mpt mbg mbg (1) mlf men)] ++ ws_53)) hP hD rfl
            obtain ⟨hP, hD⟩ := ty_ordPD (E2 := [(rf_MO mo mw ma mf m0 m1 mu mv u0 u1 iz th mb mn mpt mbg mbg (1) mlf men), (rf_RW ct 0 mb 800 b), (rf_RW ct 0 mf 958 g)]) (n := 3) [2, 1, 0] hP hD rfl rfl (by decide +kernel)
            exact W.zret (v := 0) hx hb hr (by decide) (fun t ht hW => ⟨⟨0, (ws_53, mpt, mbg, mbg, (1 : Int32), g), rfl, ⟨hT, ⟨by omega, Or.inl ⟨rfl, (if h12 : p2 = 12 then Or.inl ⟨h12, rfl, rfl⟩ else Or.inr ⟨h12, by simp only [rp_stk, rp_stp, if_neg hz_9, if_neg hz_19, if_neg hz_29, if_neg hz_39, if_neg hz_49]; exact ⟨by decide, rfl, rfl⟩⟩)⟩⟩⟩, by rw [ht]; exact hP, by rw [hAe]; exact hD⟩, hS.F ht⟩) hS.2.2 dX11_readStep_83
          · refine lv_if_eq (tgt := 65) hx hb dX11_readStep_58 (by decide) (fun hc => absurd hc (by decide)) (fun _ => ?_)
            refine lv_iconst (v := 4) hx hb dX11_readStep_61 (by decide) ?_
            refine lv_goto (tgt := 66) hx hb dX11_readStep_62 (by decide) ?_
            refine lv_istore_n (lv' := [(3, .int 4), (0, .ref mo), (1, .int p1), (2, .int p2)]) hx hb dX11_readStep_66 rfl hl (by decide) rfl (fun ls hl => ?_)
            refine lv_iload_n hx hb dX11_readStep_67 rfl (lv_at hl 0 rfl) ?_
            refine lv_iconst (v := (-1)) hx hb dX11_readStep_68 (by decide) ?_
            refine lv_icmp_eq (tgt := 78) hx hb dX11_readStep_69 (by decide) (fun hc => absurd hc (by decide)) (fun _ => ?_)
            refine lv_iload_n hx hb dX11_readStep_72 rfl (lv_at hl 3 rfl) ?_
            refine lv_bipush (v := 12) hx hb dX11_readStep_73 (by decide) ?_
            refine lv_icmp_ne (tgt := 84) hx hb dX11_readStep_75 (by decide) (fun hc_54 => ?_) (fun hc_54 => ?_)
            · refine lv_aload_n hx hb dX11_readStep_84 rfl (lv_at hl 1 rfl) ?_
              obtain ⟨hP, hD⟩ := ty_ipPD (E1 := [(rf_RW ct 0 mf 958 g)]) (E2 := [(rf_MO mo mw ma mf m0 m1 mu mv u0 u1 iz th mb mn mpt mbg mwr (0) mlf men), (rf_RW ct 0 mb 800 b)]) hP hD rfl ty_mva
              refine ty_Ki hP hD hS hA (va_runV (As := []) (rest := []) ⟨hx, hb, hml, hown, hts⟩ (m_X11_passes l D ct S ws_47 ph xx mo mw ma mf m0 m1 mu mv u0 u1 iz mb th mn mpt mbg mwr (0 : Int32) mlf men b _ hT hph hy1 hmn (by omega)) (cm_V 0 hts kc_X11_passes ki_RX11 kl_RX11_133 kv_X11_passes kx_X11_passes kd_X11_passes ⟨Nat.le_of_ble_eq_true rfl, Nat.le_of_ble_eq_true rfl⟩) (ty_preE (ci := 11) (q0 := 1) hP hK hD hS hA hX rfl rfl) rfl rfl hl.1 rfl (lv_room (Nat.le_of_ble_eq_true rfl)) dX11_readStep_85 ⟨Nat.le_of_ble_eq_true rfl, Nat.le_of_ble_eq_true rfl⟩) (fun r_55 u H locs hw_56 hP hD hS => ?_)
              obtain ⟨ws_57, rfl⟩ : ∃ z, z = u := ⟨_, rfl⟩
              obtain ⟨hT, rfl⟩ := hw_56
              obtain ⟨hP, hD⟩ := ty_shPD (w2 := ([(rf_RW ct 0 mf 958 g), (rf_MO mo mw ma mf m0 m1 mu mv u0 u1 iz th mb mn (rp_we b mn mbg) mbg mwr (0) mlf men), (rf_RW ct 0 mb 800 b)] ++ ws_57)) hP hD rfl
              have hs_58 := rp_we_b (b := b) (p := mbg) hmn.2 (by omega)
              refine lv_pop hx hb dX11_readStep_88 rfl ?_
              refine lv_aload_n hx hb dX11_readStep_89 rfl (lv_at hl 1 rfl) ?_
              refine va_get (v := .ref mf) (D := D) (ci := 11) (C := RX11) (T := TX11) (N := 19) hx hb hts in_X11 hown hK hP 1 rfl rfl 2 (by decide) (hts _ kl_RX11_16) (fun _ h9 => h9) rfl dX11_readStep_90 ?_
              refine lv_iload_n hx hb dX11_readStep_93 rfl (lv_at hl 2 rfl) ?_
              refine lv_iload_n hx hb dX11_readStep_94 rfl (lv_at hl 0 rfl) ?_
              refine va_iast hx hb hK hP hD hS 0 0 rfl rfl (rf_vin (by have := rf_ne9 (K := 12) hc_54 (by decide); have := (rf_Ls hL).2.1; have e51 := rf_pk (x := p1) (k := 1) (K := 1) (by decide) (by omega) (by omega); have e52 := rf_pk (x := p1) (k := 2) (K := 2) (by decide) (by omega) (by omega); omega)) dX11_readStep_95 (fun H locs hP hD hS => ?_)
              have hP : va_P D vwCl ([(rf_RW ct 0 mf 958 (upd g p1.toNatClampNeg 4)), (rf_MO mo mw ma mf m0 m1 mu mv u0 u1 iz th mb mn (rp_we b mn mbg) mbg mwr (0) mlf men), (rf_RW ct 0 mb 800 b)] ++ ws_57) H := hP
              have hD : va_D A ([(rf_RW ct 0 mf 958 (upd g p1.toNatClampNeg 4)), (rf_MO mo mw ma mf m0 m1 mu mv u0 u1 iz th mb mn (rp_we b mn mbg) mbg mwr (0) mlf men), (rf_RW ct 0 mb 800 b)] ++ ws_57) := hD
              refine lv_aload_n hx hb dX11_readStep_96 rfl (lv_at hl 1 rfl) ?_
              refine va_get (v := .ref mf) (D := D) (ci := 11) (C := RX11) (T := TX11) (N := 19) hx hb hts in_X11 hown hK hP 1 rfl rfl 2 (by decide) (hts _ kl_RX11_16) (fun _ h9 => h9) rfl dX11_readStep_97 ?_
              refine lv_iload_n hx hb dX11_readStep_100 rfl (lv_at hl 2 rfl) ?_
              refine lv_iconst (v := 2) hx hb dX11_readStep_101 (by decide) ?_
              refine lv_iadd hx hb dX11_readStep_102 ?_
              refine lv_iconst (v := 0) hx hb dX11_readStep_103 (by decide) ?_
              refine va_iast hx hb hK hP hD hS 0 0 rfl rfl (rf_vin (by have := rf_ne9 (K := 12) hc_54 (by decide); have := (rf_Ls hL).2.1; have e51 := rf_pk (x := p1) (k := 1) (K := 1) (by decide) (by omega) (by omega); have e52 := rf_pk (x := p1) (k := 2) (K := 2) (by decide) (by omega) (by omega); omega)) dX11_readStep_104 (fun H locs hP hD hS => ?_)
              have hP : va_P D vwCl ([(rf_RW ct 0 mf 958 (upd (upd g p1.toNatClampNeg 4) (p1 + 2).toNatClampNeg 0)), (rf_MO mo mw ma mf m0 m1 mu mv u0 u1 iz th mb mn (rp_we b mn mbg) mbg mwr (0) mlf men), (rf_RW ct 0 mb 800 b)] ++ ws_57) H := hP
              have hD : va_D A ([(rf_RW ct 0 mf 958 (upd (upd g p1.toNatClampNeg 4) (p1 + 2).toNatClampNeg 0)), (rf_MO mo mw ma mf m0 m1 mu mv u0 u1 iz th mb mn (rp_we b mn mbg) mbg mwr (0) mlf men), (rf_RW ct 0 mb 800 b)] ++ ws_57) := hD
              refine lv_iload_n hx hb dX11_readStep_105 rfl (lv_at hl 0 rfl) ?_
              refine lv_iconst (v := 3) hx hb dX11_readStep_106 (by decide) ?_
              refine lv_icmp_ne (tgt := 122) hx hb dX11_readStep_107 (by decide) (fun _ => ?_) (fun hc => absurd hc (by decide))
              refine lv_iload_n hx hb dX11_readStep_122 rfl (lv_at hl 0 rfl) ?_
              refine lv_iconst (v := 4) hx hb dX11_readStep_123 (by decide) ?_
              refine lv_icmp_ne (tgt := 160) hx hb dX11_readStep_124 (by decide) (fun hc => absurd (by decide) hc) (fun _ => ?_)
              refine lv_aload_n hx hb dX11_readStep_127 rfl (lv_at hl 1 rfl) ?_
              refine lv_iload_n hx hb dX11_readStep_128 rfl (lv_at hl 2 rfl) ?_
              refine lv_iconst (v := 1) hx hb dX11_readStep_129 (by decide) ?_
              refine lv_iadd hx hb dX11_readStep_130 ?_
              refine lv_iconst (v := 0) hx hb dX11_readStep_131 (by decide) ?_
              refine lv_iload_n hx hb dX11_readStep_132 rfl (lv_at hl 3 rfl) ?_
              refine lv_iconst (v := 1) hx hb dX11_readStep_133 (by decide) ?_
              refine lv_isub hx hb dX11_readStep_134 ?_
              obtain ⟨hP, hD⟩ := ty_opPD (E1 := []) (E2 := [(rf_MO mo mw ma mf m0 m1 mu mv u0 u1 iz th mb mn (rp_we b mn mbg) mbg mwr (0) mlf men), (rf_RW ct 0 mb 800 b), (rf_RW ct 0 mf 958 (upd (upd g p1.toNatClampNeg 4) (p1 + 2).toNatClampNeg 0))]) (n := 3) [1, 2, 0] hP hD rfl rfl (by decide +kernel) ty_mva
              refine ty_Ki hP hD hS hA (va_runV (As := [.int (p1 + 1), .int 0, .int (p2 - 1)]) (rest := []) ⟨hx, hb, hml, hown, hts⟩ (m_X11_reads l D ct S ws_57 ph xx mo mw ma mf m0 m1 mu mv u0 u1 iz mb th mn (rp_we b mn mbg) mbg mwr mlf men b (p1 + 1) (0 : Int32) (p2 - 1) (upd (upd g p1.toNatClampNeg 4) (p1 + 2).toNatClampNeg 0) 0 (p2.toInt - 1) _ hT hph hy1 hmn (by omega) (by have := rf_ne9 (K := 12) hc_54 (by decide); have := (rf_Ls hL).2.1; have e51 := rf_pk (x := p1) (k := 1) (K := 1) (by decide) (by omega) (by omega); have e52 := rf_pk (x := p1) (k := 2) (K := 2) (by decide) (by omega) (by omega); omega) (by decide) (rf_m1 (by omega))) (cm_V 3 hts kc_X11_reads ki_RX11 kl_RX11_140 kv_X11_reads kx_X11_reads kd_X11_reads ⟨Nat.le_of_ble_eq_true rfl, Nat.le_of_ble_eq_true rfl⟩) (ty_preE (ci := 11) (q0 := 0) hP hK hD hS hA hX rfl rfl) rfl rfl hl.1 rfl (lv_room (Nat.le_of_ble_eq_true rfl)) dX11_readStep_135 ⟨Nat.le_of_ble_eq_true rfl, Nat.le_of_ble_eq_true rfl⟩) (fun r_59 u H locs hw_60 hP hD hS => ?_)
              obtain ⟨ws_61, mpt1_62, mwr1_63, mwk1_64, g1_65⟩ := u
              obtain ⟨hT, hp_66⟩ := hw_60
              have hp_66 : ((rp_we b mn mbg).toInt ≤ mpt1_62.toInt ∧ mpt1_62.toInt ≤ mn.toInt) ∧ ((r_59 = 0 ∧ rm_f (rp_rk b mn 0 (p2.toInt - 1) (rp_we b mn mbg)) (rp_rp b mn 0 (p2.toInt - 1) (rp_we b mn mbg)) mwk1_64 mwr1_63) ∨ (r_59 = 1 ∧ (rp_rk b mn 0 (p2.toInt - 1) (rp_we b mn mbg) = 0 ∧ mwk1_64 = 0 ∧ mpt1_62 = rp_rp b mn 0 (p2.toInt - 1) (rp_we b mn mbg)) ∧ ∃ v : Int32, (0 ≤ v.toInt ∧ v.toInt ≤ (p2.toInt - 1)) ∧ v.toInt = rp_rv b mn (rp_we b mn mbg) ∧ g1_65 = upd (upd (upd g p1.toNatClampNeg 4) (p1 + 2).toNatClampNeg 0) (p1 + 1).toInt.toNat v)) := hp_66
              obtain ⟨hP, hD⟩ := ty_shPD (w2 := ([(rf_MO mo mw ma mf m0 m1 mu mv u0 u1 iz th mb mn mpt1_62 (rp_sk b mn (rp_we b mn mbg)) mwr1_63 mwk1_64 mlf men), (rf_RW ct 0 mb 800 b), (rf_RW ct 0 mf 958 g1_65)] ++ ws_61)) hP hD rfl
              obtain ⟨hb_67, hc_68⟩ := hp_66
              have hs_69 := rp_sk_b (b := b) (p := (rp_we b mn mbg)) hmn.2 (by omega)
              rcases hc_68 with ⟨rfl, hz_70⟩ | ⟨rfl, hz_71⟩
              · refine lv_if_eq (tgt := 158) hx hb dX11_readStep_138 (by decide) (fun _ => ?_) (fun hc => absurd (by decide) hc)
                refine lv_iconst (v := 0) hx hb dX11_readStep_158 (by decide) ?_
                exact W.zret (v := 0) hx hb hr (by decide) (fun t ht hW => ⟨⟨0, (ws_61, mpt1_62, (rp_sk b mn (rp_we b mn mbg)), mwr1_63, mwk1_64, g1_65), rfl, ⟨hT, ⟨by omega, Or.inl ⟨rfl, (Or.inr ⟨hc_54, by simp only [rp_stk, rp_stp, if_neg hz_9, if_neg hz_19, if_neg hz_29, if_neg hz_39, if_pos hz_50]; exact rm_f2 hz_70⟩)⟩⟩⟩, by rw [ht]; exact hP, by rw [hAe]; exact hD⟩, hS.F ht⟩) hS.2.2 dX11_readStep_159
              · obtain ⟨⟨hk_72, hwk_73, hpt_74⟩, v_75, hv_76, hvv_77, hg_78⟩ := hz_71
                have hb_79 := hb_67
                subst hwk_73
                subst hpt_74
                refine lv_if_eq (tgt := 158) hx hb dX11_readStep_138 (by decide) (fun hc => absurd hc (by decide)) (fun _ => ?_)
                refine lv_aload_n hx hb dX11_readStep_141 rfl (lv_at hl 1 rfl) ?_
                refine lv_iload_n hx hb dX11_readStep_142 rfl (lv_at hl 2 rfl) ?_
                refine lv_iconst (v := 2) hx hb dX11_readStep_143 (by decide) ?_
                refine lv_iadd hx hb dX11_readStep_144 ?_
                refine lv_iconst (v := 1) hx hb dX11_readStep_145 (by decide) ?_
                refine lv_bipush (v := 50) hx hb dX11_readStep_146 (by decide) ?_
                obtain ⟨hP, hD⟩ := ty_ipPD (E1 := []) (E2 := [(rf_MO mo mw ma mf m0 m1 mu mv u0 u1 iz th mb mn (rp_rp b mn 0 (p2.toInt - 1) (rp_we b mn mbg)) (rp_sk b mn (rp_we b mn mbg)) mwr1_63 (0) mlf men), (rf_RW ct 0 mb 800 b), (rf_RW ct 0 mf 958 g1_65)]) hP hD rfl ty_mva
                refine ty_Ki hP hD hS hA (va_runV (As := [.int (p1 + 2), .int 1, .int 50]) (rest := []) ⟨hx, hb, hml, hown, hts⟩ (m_X11_reads l D ct S ws_61 ph xx mo mw ma mf m0 m1 mu mv u0 u1 iz mb th mn (rp_rp b mn 0 (p2.toInt - 1) (rp_we b mn mbg)) (rp_sk b mn (rp_we b mn mbg)) mwr1_63 mlf men b (p1 + 2) (1 : Int32) (50 : Int32) g1_65 1 50 _ hT hph hy1 hmn (by omega) (by have := rf_ne9 (K := 12) hc_54 (by decide); have := (rf_Ls hL).2.1; have e51 := rf_pk (x := p1) (k := 1) (K := 1) (by decide) (by omega) (by omega); have e52 := rf_pk (x := p1) (k := 2) (K := 2) (by decide) (by omega) (by omega); omega) (by decide) (by decide)) (cm_V 3 hts kc_X11_reads ki_RX11 kl_RX11_140 kv_X11_reads kx_X11_reads kd_X11_reads ⟨Nat.le_of_ble_eq_true rfl, Nat.le_of_ble_eq_true rfl⟩) (ty_preE (ci := 11) (q0 := 0) hP hK hD hS hA hX rfl rfl) rfl rfl hl.1 rfl (lv_room (Nat.le_of_ble_eq_true rfl)) dX11_readStep_148 ⟨Nat.le_of_ble_eq_true rfl, Nat.le_of_ble_eq_true rfl⟩) (fun r_80 u H locs hw_81 hP hD hS => ?_)
                obtain ⟨ws_82, mpt1_83, mwr1_84, mwk1_85, g1_86⟩ := u
                obtain ⟨hT, hp_87⟩ := hw_81
                have hp_87 : ((rp_rp b mn 0 (p2.toInt - 1) (rp_we b mn mbg)).toInt ≤ mpt1_83.toInt ∧ mpt1_83.toInt ≤ mn.toInt) ∧ ((r_80 = 0 ∧ rm_f (rp_rk b mn 1 50 (rp_rp b mn 0 (p2.toInt - 1) (rp_we b mn mbg))) (rp_rp b mn 1 50 (rp_rp b mn 0 (p2.toInt - 1) (rp_we b mn mbg))) mwk1_85 mwr1_84) ∨ (r_80 = 1 ∧ (rp_rk b mn 1 50 (rp_rp b mn 0 (p2.toInt - 1) (rp_we b mn mbg)) = 0 ∧ mwk1_85 = 0 ∧ mpt1_83 = rp_rp b mn 1 50 (rp_rp b mn 0 (p2.toInt - 1) (rp_we b mn mbg))) ∧ ∃ v : Int32, (1 ≤ v.toInt ∧ v.toInt ≤ 50) ∧ v.toInt = rp_rv b mn (rp_rp b mn 0 (p2.toInt - 1) (rp_we b mn mbg)) ∧ g1_86 = upd g1_65 (p1 + 2).toInt.toNat v)) := hp_87
                obtain ⟨hP, hD⟩ := ty_shPD (w2 := ([(rf_MO mo mw ma mf m0 m1 mu mv u0 u1 iz th mb mn mpt1_83 (rp_sk b mn (rp_rp b mn 0 (p2.toInt - 1) (rp_we b mn mbg))) mwr1_84 mwk1_85 mlf men), (rf_RW ct 0 mb 800 b), (rf_RW ct 0 mf 958 g1_86)] ++ ws_82)) hP hD rfl
                obtain ⟨hb_88, hc_89⟩ := hp_87
                have hs_90 := rp_sk_b (b := b) (p := (rp_rp b mn 0 (p2.toInt - 1) (rp_we b mn mbg))) hmn.2 (by omega)
                rcases hc_89 with ⟨rfl, hz_91⟩ | ⟨rfl, hz_92⟩
                · refine lv_if_eq (tgt := 158) hx hb dX11_readStep_151 (by decide) (fun _ => ?_) (fun hc => absurd (by decide) hc)
                  refine lv_iconst (v := 0) hx hb dX11_readStep_158 (by decide) ?_
                  exact W.zret (v := 0) hx hb hr (by decide) (fun t ht hW => ⟨⟨0, (ws_82, mpt1_83, (rp_sk b mn (rp_rp b mn 0 (p2.toInt - 1) (rp_we b mn mbg))), mwr1_84, mwk1_85, g1_86), rfl, ⟨hT, ⟨by omega, Or.inl ⟨rfl, (Or.inr ⟨hc_54, by simp only [rp_stk, rp_stp, if_neg hz_9, if_neg hz_19, if_neg hz_29, if_neg hz_39, if_pos hz_50]; exact rm_f3 hk_72 hz_91⟩)⟩⟩⟩, by rw [ht]; exact hP, by rw [hAe]; exact hD⟩, hS.F ht⟩) hS.2.2 dX11_readStep_159
                · obtain ⟨⟨hk_93, hwk_94, hpt_95⟩, v_96, hv_97, hvv_98, hg_99⟩ := hz_92
                  have hb_100 := hb_88
                  subst hwk_94
                  subst hpt_95
                  refine lv_if_eq (tgt := 158) hx hb dX11_readStep_151 (by decide) (fun hc => absurd hc (by decide)) (fun _ => ?_)
                  refine lv_iconst (v := 1) hx hb dX11_readStep_154 (by decide) ?_
                  refine lv_goto (tgt := 159) hx hb dX11_readStep_155 (by decide) ?_
                  exact W.zret (v := 1) hx hb hr (by decide) (fun t ht hW => ⟨⟨1, (ws_82, (rp_rp b mn 1 50 (rp_rp b mn 0 (p2.toInt - 1) (rp_we b mn mbg))), (rp_sk b mn (rp_rp b mn 0 (p2.toInt - 1) (rp_we b mn mbg))), mwr1_84, (0 : Int32), g1_86), rfl, ⟨hT, ⟨by omega, Or.inr ⟨rfl, (by simp only [rp_stk, rp_stp, if_neg hz_9, if_neg hz_19, if_neg hz_29, if_neg hz_39, if_pos hz_50]; exact (rm_g3 hk_72 hk_93).1), rfl, (by simp only [rp_stk, rp_stp, if_neg hz_9, if_neg hz_19, if_neg hz_29, if_neg hz_39, if_pos hz_50]; exact (rm_g3 hk_72 hk_93).2), (by have := rf_ne9 (K := 12) hc_54 (by decide); have := (rf_Ls hL).2.1; omega), (rf_spr ⟨(rf_Ls hL).2.1.1, hn4⟩ hp3 (by have := rf_ne9 (K := 12) hc_54 (by decide); have := (rf_Ls hL).2.1; omega) (by have := hv_97; omega) (rf_spq hL hn4 hp3 (by have := rf_ne9 (K := 12) hc_54 (by decide); have := (rf_Ls hL).2.1; omega) (by decide) (by have := rf_ne9 (K := 12) hc_54 (by decide); have := (rf_Ls hL).2.1; have := hv_76; have := rf_m1 (x := p2) (by omega); omega) (fun _ => by have := rf_m1 (x := p2) (by omega); have := hv_76; omega) hg_78) hg_99), ((rq_st2 (by have := rf_ne9 (K := 12) hc_54 (by decide); have := (rf_Ls hL).2.1; omega) (rq_st1 (by have := rf_ne9 (K := 12) hc_54 (by decide); have := (rf_Ls hL).2.1; omega) hg_78 hvv_77) hg_99 hvv_98)).trans (rq_step_rpt hz_50).symm⟩⟩⟩, by rw [ht]; exact hP, by rw [hAe]; exact hD⟩, hS.F ht⟩) hS.2.2 dX11_readStep_159
            · refine lv_aload_n hx hb dX11_readStep_78 rfl (lv_at hl 1 rfl) ?_
              refine lv_iconst (v := 1) hx hb dX11_readStep_79 (by decide) ?_
              obtain ⟨hP, hD⟩ := ty_opPD (E1 := [(rf_RW ct 0 mf 958 g), (rf_RW ct 0 mb 800 b)]) (E2 := [(rf_MO mo mw ma mf m0 m1 mu mv u0 u1 iz th mb mn mpt mbg mwr (0) mlf men)]) (n := 3) [0, 2, 1] hP hD rfl rfl (by decide +kernel) ty_mva
              refine ty_Ki hP hD hS hA (va_runV (As := [.int 1]) (rest := []) ⟨hx, hb, hml, hown, hts⟩ (m_X11_fails l D ct S ws_47 ph xx mo mw ma mf m0 m1 mu mv u0 u1 iz mb th mn mpt mbg mwr mlf men (1 : Int32) _ hT hph hy1) (cm_V 1 hts kc_X11_fails ki_RX11 kl_RX11_112 kv_X11_fails kx_X11_fails kd_X11_fails ⟨Nat.le_of_ble_eq_true rfl, Nat.le_of_ble_eq_true rfl⟩) (ty_preE (ci := 11) (q0 := 2) hP hK hD hS hA hX rfl rfl) rfl rfl hl.1 rfl (lv_room (Nat.le_of_ble_eq_true rfl)) dX11_readStep_80 ⟨Nat.le_of_ble_eq_true rfl, Nat.le_of_ble_eq_true rfl⟩) (fun r_101 u H locs hw_102 hP hD hS => ?_)
              obtain ⟨ws_103, rfl⟩ : ∃ z, z = u := ⟨_, rfl⟩
              obtain ⟨hT, rfl⟩ := hw_102
              obtain ⟨hP, hD⟩ := ty_shPD (w2 := ([(rf_RW ct 0 mf 958 g), (rf_RW ct 0 mb 800 b), (rf_MO mo mw ma mf m0 m1 mu mv u0 u1 iz th mb mn mpt mbg mbg (1) mlf men)] ++ ws_103)) hP hD rfl
              obtain ⟨hP, hD⟩ := ty_ordPD (E2 := [(rf_MO mo mw ma mf m0 m1 mu mv u0 u1 iz th mb mn mpt mbg mbg (1) mlf men), (rf_RW ct 0 mb 800 b), (rf_RW ct 0 mf 958 g)]) (n := 3) [2, 1, 0] hP hD rfl rfl (by decide +kernel)
              exact W.zret (v := 0) hx hb hr (by decide) (fun t ht hW => ⟨⟨0, (ws_103, mpt, mbg, mbg, (1 : Int32), g), rfl, ⟨hT, ⟨by omega, Or.inl ⟨rfl, (Or.inl ⟨hc_54, rfl, rfl⟩)⟩⟩⟩, by rw [ht]; exact hP, by rw [hAe]; exact hD⟩, hS.F ht⟩) hS.2.2 dX11_readStep_83
        · refine lv_if_eq (tgt := 52) hx hb dX11_readStep_45 (by decide) (fun hc => absurd hc (by decide)) (fun _ => ?_)
          refine lv_iconst (v := 3) hx hb dX11_readStep_48 (by decide) ?_
          refine lv_goto (tgt := 66) hx hb dX11_readStep_49 (by decide) ?_
          refine lv_istore_n (lv' := [(3, .int 3), (0, .ref mo), (1, .int p1), (2, .int p2)]) hx hb dX11_readStep_66 rfl hl (by decide) rfl (fun ls hl => ?_)
          refine lv_iload_n hx hb dX11_readStep_67 rfl (lv_at hl 0 rfl) ?_
          refine lv_iconst (v := (-1)) hx hb dX11_readStep_68 (by decide) ?_
          refine lv_icmp_eq (tgt := 78) hx hb dX11_readStep_69 (by decide) (fun hc => absurd hc (by decide)) (fun _ => ?_)
          refine lv_iload_n hx hb dX11_readStep_72 rfl (lv_at hl 3 rfl) ?_
          refine lv_bipush (v := 12) hx hb dX11_readStep_73 (by decide) ?_
          refine lv_icmp_ne (tgt := 84) hx hb dX11_readStep_75 (by decide) (fun hc_104 => ?_) (fun hc_104 => ?_)
          · refine lv_aload_n hx hb dX11_readStep_84 rfl (lv_at hl 1 rfl) ?_
            obtain ⟨hP, hD⟩ := ty_ipPD (E1 := [(rf_RW ct 0 mf 958 g)]) (E2 := [(rf_MO mo mw ma mf m0 m1 mu mv u0 u1 iz th mb mn mpt mbg mwr (0) mlf men), (rf_RW ct 0 mb 800 b)]) hP hD rfl ty_mva
            refine ty_Ki hP hD hS hA (va_runV (As := []) (rest := []) ⟨hx, hb, hml, hown, hts⟩ (m_X11_passes l D ct S ws_37 ph xx mo mw ma mf m0 m1 mu mv u0 u1 iz mb th mn mpt mbg mwr (0 : Int32) mlf men b _ hT hph hy1 hmn (by omega)) (cm_V 0 hts kc_X11_passes ki_RX11 kl_RX11_133 kv_X11_passes kx_X11_passes kd_X11_passes ⟨Nat.le_of_ble_eq_true rfl, Nat.le_of_ble_eq_true rfl⟩) (ty_preE (ci := 11) (q0 := 1) hP hK hD hS hA hX rfl rfl) rfl rfl hl.1 rfl (lv_room (Nat.le_of_ble_eq_true rfl)) dX11_readStep_85 ⟨Nat.le_of_ble_eq_true rfl, Nat.le_of_ble_eq_true rfl⟩) (fun r_105 u H locs hw_106 hP hD hS => ?_)
            obtain ⟨ws_107, rfl⟩ : ∃ z, z = u := ⟨_, rfl⟩
            obtain ⟨hT, rfl⟩ := hw_106
            obtain ⟨hP, hD⟩ := ty_shPD (w2 := ([(rf_RW ct 0 mf 958 g), (rf_MO mo mw ma mf m0 m1 mu mv u0 u1 iz th mb mn (rp_we b mn mbg) mbg mwr (0) mlf men), (rf_RW ct 0 mb 800 b)] ++ ws_107)) hP hD rfl
            have hs_108 := rp_we_b (b := b) (p := mbg) hmn.2 (by omega)
            refine lv_pop hx hb dX11_readStep_88 rfl ?_
            refine lv_aload_n hx hb dX11_readStep_89 rfl (lv_at hl 1 rfl) ?_
            refine va_get (v := .ref mf) (D := D) (ci := 11) (C := RX11) (T := TX11) (N := 19) hx hb hts in_X11 hown hK hP 1 rfl rfl 2 (by decide) (hts _ kl_RX11_16) (fun _ h9 => h9) rfl dX11_readStep_90 ?_
            refine lv_iload_n hx hb dX11_readStep_93 rfl (lv_at hl 2 rfl) ?_
            refine lv_iload_n hx hb dX11_readStep_94 rfl (lv_at hl 0 rfl) ?_
            refine va_iast hx hb hK hP hD hS 0 0 rfl rfl (rf_vin (by have := rf_ne9 (K := 12) hc_104 (by decide); have := (rf_Ls hL).2.1; have e51 := rf_pk (x := p1) (k := 1) (K := 1) (by decide) (by omega) (by omega); have e52 := rf_pk (x := p1) (k := 2) (K := 2) (by decide) (by omega) (by omega); omega)) dX11_readStep_95 (fun H locs hP hD hS => ?_)
            have hP : va_P D vwCl ([(rf_RW ct 0 mf 958 (upd g p1.toNatClampNeg 3)), (rf_MO mo mw ma mf m0 m1 mu mv u0 u1 iz th mb mn (rp_we b mn mbg) mbg mwr (0) mlf men), (rf_RW ct 0 mb 800 b)] ++ ws_107) H := hP
            have hD : va_D A ([(rf_RW ct 0 mf 958 (upd g p1.toNatClampNeg 3)), (rf_MO mo mw ma mf m0 m1 mu mv u0 u1 iz th mb mn (rp_we b mn mbg) mbg mwr (0) mlf men), (rf_RW ct 0 mb 800 b)] ++ ws_107) := hD
            refine lv_aload_n hx hb dX11_readStep_96 rfl (lv_at hl 1 rfl) ?_
            refine va_get (v := .ref mf) (D := D) (ci := 11) (C := RX11) (T := TX11) (N := 19) hx hb hts in_X11 hown hK hP 1 rfl rfl 2 (by decide) (hts _ kl_RX11_16) (fun _ h9 => h9) rfl dX11_readStep_97 ?_
            refine lv_iload_n hx hb dX11_readStep_100 rfl (lv_at hl 2 rfl) ?_
            refine lv_iconst (v := 2) hx hb dX11_readStep_101 (by decide) ?_
            refine lv_iadd hx hb dX11_readStep_102 ?_
            refine lv_iconst (v := 0) hx hb dX11_readStep_103 (by decide) ?_
            refine va_iast hx hb hK hP hD hS 0 0 rfl rfl (rf_vin (by have := rf_ne9 (K := 12) hc_104 (by decide); have := (rf_Ls hL).2.1; have e51 := rf_pk (x := p1) (k := 1) (K := 1) (by decide) (by omega) (by omega); have e52 := rf_pk (x := p1) (k := 2) (K := 2) (by decide) (by omega) (by omega); omega)) dX11_readStep_104 (fun H locs hP hD hS => ?_)
            have hP : va_P D vwCl ([(rf_RW ct 0 mf 958 (upd (upd g p1.toNatClampNeg 3) (p1 + 2).toNatClampNeg 0)), (rf_MO mo mw ma mf m0 m1 mu mv u0 u1 iz th mb mn (rp_we b mn mbg) mbg mwr (0) mlf men), (rf_RW ct 0 mb 800 b)] ++ ws_107) H := hP
            have hD : va_D A ([(rf_RW ct 0 mf 958 (upd (upd g p1.toNatClampNeg 3) (p1 + 2).toNatClampNeg 0)), (rf_MO mo mw ma mf m0 m1 mu mv u0 u1 iz th mb mn (rp_we b mn mbg) mbg mwr (0) mlf men), (rf_RW ct 0 mb 800 b)] ++ ws_107) := hD
            refine lv_iload_n hx hb dX11_readStep_105 rfl (lv_at hl 0 rfl) ?_
            refine lv_iconst (v := 3) hx hb dX11_readStep_106 (by decide) ?_
            refine lv_icmp_ne (tgt := 122) hx hb dX11_readStep_107 (by decide) (fun hc => absurd (by decide) hc) (fun _ => ?_)
            refine lv_aload_n hx hb dX11_readStep_110 rfl (lv_at hl 1 rfl) ?_
            refine lv_iload_n hx hb dX11_readStep_111 rfl (lv_at hl 2 rfl) ?_
            refine lv_iconst (v := 1) hx hb dX11_readStep_112 (by decide) ?_
            refine lv_iadd hx hb dX11_readStep_113 ?_
            refine lv_iconst (v := 1) hx hb dX11_readStep_114 (by decide) ?_
            refine lv_sipush (v := 5000) hx hb dX11_readStep_115 (by decide) ?_
            obtain ⟨hP, hD⟩ := ty_opPD (E1 := []) (E2 := [(rf_MO mo mw ma mf m0 m1 mu mv u0 u1 iz th mb mn (rp_we b mn mbg) mbg mwr (0) mlf men), (rf_RW ct 0 mb 800 b), (rf_RW ct 0 mf 958 (upd (upd g p1.toNatClampNeg 3) (p1 + 2).toNatClampNeg 0))]) (n := 3) [1, 2, 0] hP hD rfl rfl (by decide +kernel) ty_mva
            refine ty_Ki hP hD hS hA (va_runV (As := [.int (p1 + 1), .int 1, .int 5000]) (rest := []) ⟨hx, hb, hml, hown, hts⟩ (m_X11_reads l D ct S ws_107 ph xx mo mw ma mf m0 m1 mu mv u0 u1 iz mb th mn (rp_we b mn mbg) mbg mwr mlf men b (p1 + 1) (1 : Int32) (5000 : Int32) (upd (upd g p1.toNatClampNeg 3) (p1 + 2).toNatClampNeg 0) 1 5000 _ hT hph hy1 hmn (by omega) (by have := rf_ne9 (K := 12) hc_104 (by decide); have := (rf_Ls hL).2.1; have e51 := rf_pk (x := p1) (k := 1) (K := 1) (by decide) (by omega) (by omega); have e52 := rf_pk (x := p1) (k := 2) (K := 2) (by decide) (by omega) (by omega); omega) (by decide) (by decide)) (cm_V 3 hts kc_X11_reads ki_RX11 kl_RX11_140 kv_X11_reads kx_X11_reads kd_X11_reads ⟨Nat.le_of_ble_eq_true rfl, Nat.le_of_ble_eq_true rfl⟩) (ty_preE (ci := 11) (q0 := 0) hP hK hD hS hA hX rfl rfl) rfl rfl hl.1 rfl (lv_room (Nat.le_of_ble_eq_true rfl)) dX11_readStep_118 ⟨Nat.le_of_ble_eq_true rfl, Nat.le_of_ble_eq_true rfl⟩) (fun r_109 u H locs hw_110 hP hD hS => ?_)
            obtain ⟨ws_111, mpt1_112, mwr1_113, mwk1_114, g1_115⟩ := u
            obtain ⟨hT, hp_116⟩ := hw_110
            have hp_116 : ((rp_we b mn mbg).toInt ≤ mpt1_112.toInt ∧ mpt1_112.toInt ≤ mn.toInt) ∧ ((r_109 = 0 ∧ rm_f (rp_rk b mn 1 5000 (rp_we b mn mbg)) (rp_rp b mn 1 5000 (rp_we b mn mbg)) mwk1_114 mwr1_113) ∨ (r_109 = 1 ∧ (rp_rk b mn 1 5000 (rp_we b mn mbg) = 0 ∧ mwk1_114 = 0 ∧ mpt1_112 = rp_rp b mn 1 5000 (rp_we b mn mbg)) ∧ ∃ v : Int32, (1 ≤ v.toInt ∧ v.toInt ≤ 5000) ∧ v.toInt = rp_rv b mn (rp_we b mn mbg) ∧ g1_115 = upd (upd (upd g p1.toNatClampNeg 3) (p1 + 2).toNatClampNeg 0) (p1 + 1).toInt.toNat v)) := hp_116
            obtain ⟨hP, hD⟩ := ty_shPD (w2 := ([(rf_MO mo mw ma mf m0 m1 mu mv u0 u1 iz th mb mn mpt1_112 (rp_sk b mn (rp_we b mn mbg)) mwr1_113 mwk1_114 mlf men), (rf_RW ct 0 mb 800 b), (rf_RW ct 0 mf 958 g1_115)] ++ ws_111)) hP hD rfl
            obtain ⟨hb_117, hc_118⟩ := hp_116
            have hs_119 := rp_sk_b (b := b) (p := (rp_we b mn mbg)) hmn.2 (by omega)
            rcases hc_118 with ⟨rfl, hz_120⟩ | ⟨rfl, hz_121⟩
            · exact W.zret (v := 0) hx hb hr (by decide) (fun t ht hW => ⟨⟨0, (ws_111, mpt1_112, (rp_sk b mn (rp_we b mn mbg)), mwr1_113, mwk1_114, g1_115), rfl, ⟨hT, ⟨by omega, Or.inl ⟨rfl, (Or.inr ⟨hc_104, by simp only [rp_stk, rp_stp, if_neg hz_9, if_neg hz_19, if_neg hz_29, if_pos hz_40]; exact hz_120⟩)⟩⟩⟩, by rw [ht]; exact hP, by rw [hAe]; exact hD⟩, hS.F ht⟩) hS.2.2 dX11_readStep_121
            · obtain ⟨⟨hk_122, hwk_123, hpt_124⟩, v_125, hv_126, hvv_127, hg_128⟩ := hz_121
              have hb_129 := hb_117
              subst hwk_123
              subst hpt_124
              exact W.zret (v := 1) hx hb hr (by decide) (fun t ht hW => ⟨⟨1, (ws_111, (rp_rp b mn 1 5000 (rp_we b mn mbg)), (rp_sk b mn (rp_we b mn mbg)), mwr1_113, (0 : Int32), g1_115), rfl, ⟨hT, ⟨by omega, Or.inr ⟨rfl, (by simp only [rp_stk, rp_stp, if_neg hz_9, if_neg hz_19, if_neg hz_29, if_pos hz_40]; exact hk_122), rfl, (by simp only [rp_stk, rp_stp, if_neg hz_9, if_neg hz_19, if_neg hz_29, if_pos hz_40]), (by have := rf_ne9 (K := 12) hc_104 (by decide); have := (rf_Ls hL).2.1; omega), (rf_spq hL hn4 hp3 (by have := rf_ne9 (K := 12) hc_104 (by decide); have := (rf_Ls hL).2.1; omega) (by decide) (by have := rf_ne9 (K := 12) hc_104 (by decide); have := (rf_Ls hL).2.1; have := hv_126; omega) (fun q => absurd q (by decide)) hg_128), ((rq_st1 (by have := rf_ne9 (K := 12) hc_104 (by decide); have := (rf_Ls hL).2.1; omega) hg_128 hvv_127)).trans (rq_step_rst hz_40).symm⟩⟩⟩, by rw [ht]; exact hP, by rw [hAe]; exact hD⟩, hS.F ht⟩) hS.2.2 dX11_readStep_121
          · refine lv_aload_n hx hb dX11_readStep_78 rfl (lv_at hl 1 rfl) ?_
            refine lv_iconst (v := 1) hx hb dX11_readStep_79 (by decide) ?_
            obtain ⟨hP, hD⟩ := ty_opPD (E1 := [(rf_RW ct 0 mf 958 g), (rf_RW ct 0 mb 800 b)]) (E2 := [(rf_MO mo mw ma mf m0 m1 mu mv u0 u1 iz th mb mn mpt mbg mwr (0) mlf men)]) (n := 3) [0, 2, 1] hP hD rfl rfl (by decide +kernel) ty_mva
            refine ty_Ki hP hD hS hA (va_runV (As := [.int 1]) (rest := []) ⟨hx, hb, hml, hown, hts⟩ (m_X11_fails l D ct S ws_37 ph xx mo mw ma mf m0 m1 mu mv u0 u1 iz mb th mn mpt mbg mwr mlf men (1 : Int32) _ hT hph hy1) (cm_V 1 hts kc_X11_fails ki_RX11 kl_RX11_112 kv_X11_fails kx_X11_fails kd_X11_fails ⟨Nat.le_of_ble_eq_true rfl, Nat.le_of_ble_eq_true rfl⟩) (ty_preE (ci := 11) (q0 := 2) hP hK hD hS hA hX rfl rfl) rfl rfl hl.1 rfl (lv_room (Nat.le_of_ble_eq_true rfl)) dX11_readStep_80 ⟨Nat.le_of_ble_eq_true rfl, Nat.le_of_ble_eq_true rfl⟩) (fun r_130 u H locs hw_131 hP hD hS => ?_)
            obtain ⟨ws_132, rfl⟩ : ∃ z, z = u := ⟨_, rfl⟩
            obtain ⟨hT, rfl⟩ := hw_131
            obtain ⟨hP, hD⟩ := ty_shPD (w2 := ([(rf_RW ct 0 mf 958 g), (rf_RW ct 0 mb 800 b), (rf_MO mo mw ma mf m0 m1 mu mv u0 u1 iz th mb mn mpt mbg mbg (1) mlf men)] ++ ws_132)) hP hD rfl
            obtain ⟨hP, hD⟩ := ty_ordPD (E2 := [(rf_MO mo mw ma mf m0 m1 mu mv u0 u1 iz th mb mn mpt mbg mbg (1) mlf men), (rf_RW ct 0 mb 800 b), (rf_RW ct 0 mf 958 g)]) (n := 3) [2, 1, 0] hP hD rfl rfl (by decide +kernel)
            exact W.zret (v := 0) hx hb hr (by decide) (fun t ht hW => ⟨⟨0, (ws_132, mpt, mbg, mbg, (1 : Int32), g), rfl, ⟨hT, ⟨by omega, Or.inl ⟨rfl, (Or.inl ⟨hc_104, rfl, rfl⟩)⟩⟩⟩, by rw [ht]; exact hP, by rw [hAe]; exact hD⟩, hS.F ht⟩) hS.2.2 dX11_readStep_83
      · refine lv_if_eq (tgt := 39) hx hb dX11_readStep_32 (by decide) (fun hc => absurd hc (by decide)) (fun _ => ?_)
        refine lv_iconst (v := 2) hx hb dX11_readStep_35 (by decide) ?_
        refine lv_goto (tgt := 66) hx hb dX11_readStep_36 (by decide) ?_
        refine lv_istore_n (lv' := [(3, .int 2), (0, .ref mo), (1, .int p1), (2, .int p2)]) hx hb dX11_readStep_66 rfl hl (by decide) rfl (fun ls hl => ?_)
        refine lv_iload_n hx hb dX11_readStep_67 rfl (lv_at hl 0 rfl) ?_
        refine lv_iconst (v := (-1)) hx hb dX11_readStep_68 (by decide) ?_
        refine lv_icmp_eq (tgt := 78) hx hb dX11_readStep_69 (by decide) (fun hc => absurd hc (by decide)) (fun _ => ?_)
        refine lv_iload_n hx hb dX11_readStep_72 rfl (lv_at hl 3 rfl) ?_
        refine lv_bipush (v := 12) hx hb dX11_readStep_73 (by decide) ?_
        refine lv_icmp_ne (tgt := 84) hx hb dX11_readStep_75 (by decide) (fun hc_133 => ?_) (fun hc_133 => ?_)
        · refine lv_aload_n hx hb dX11_readStep_84 rfl (lv_at hl 1 rfl) ?_
          obtain ⟨hP, hD⟩ := ty_ipPD (E1 := [(rf_RW ct 0 mf 958 g)]) (E2 := [(rf_MO mo mw ma mf m0 m1 mu mv u0 u1 iz th mb mn mpt mbg mwr (0) mlf men), (rf_RW ct 0 mb 800 b)]) hP hD rfl ty_mva
          refine ty_Ki hP hD hS hA (va_runV (As := []) (rest := []) ⟨hx, hb, hml, hown, hts⟩ (m_X11_passes l D ct S ws_27 ph xx mo mw ma mf m0 m1 mu mv u0 u1 iz mb th mn mpt mbg mwr (0 : Int32) mlf men b _ hT hph hy1 hmn (by omega)) (cm_V 0 hts kc_X11_passes ki_RX11 kl_RX11_133 kv_X11_passes kx_X11_passes kd_X11_passes ⟨Nat.le_of_ble_eq_true rfl, Nat.le_of_ble_eq_true rfl⟩) (ty_preE (ci := 11) (q0 := 1) hP hK hD hS hA hX rfl rfl) rfl rfl hl.1 rfl (lv_room (Nat.le_of_ble_eq_true rfl)) dX11_readStep_85 ⟨Nat.le_of_ble_eq_true rfl, Nat.le_of_ble_eq_true rfl⟩) (fun r_134 u H locs hw_135 hP hD hS => ?_)
          obtain ⟨ws_136, rfl⟩ : ∃ z, z = u := ⟨_, rfl⟩
          obtain ⟨hT, rfl⟩ := hw_135
          obtain ⟨hP, hD⟩ := ty_shPD (w2 := ([(rf_RW ct 0 mf 958 g), (rf_MO mo mw ma mf m0 m1 mu mv u0 u1 iz th mb mn (rp_we b mn mbg) mbg mwr (0) mlf men), (rf_RW ct 0 mb 800 b)] ++ ws_136)) hP hD rfl
          have hs_137 := rp_we_b (b := b) (p := mbg) hmn.2 (by omega)
          refine lv_pop hx hb dX11_readStep_88 rfl ?_
          refine lv_aload_n hx hb dX11_readStep_89 rfl (lv_at hl 1 rfl) ?_
          refine va_get (v := .ref mf) (D := D) (ci := 11) (C := RX11) (T := TX11) (N := 19) hx hb hts in_X11 hown hK hP 1 rfl rfl 2 (by decide) (hts _ kl_RX11_16) (fun _ h9 => h9) rfl dX11_readStep_90 ?_
          refine lv_iload_n hx hb dX11_readStep_93 rfl (lv_at hl 2 rfl) ?_
          refine lv_iload_n hx hb dX11_readStep_94 rfl (lv_at hl 0 rfl) ?_
          refine va_iast hx hb hK hP hD hS 0 0 rfl rfl (rf_vin (by have := rf_ne9 (K := 12) hc_133 (by decide); have := (rf_Ls hL).2.1; have e51 := rf_pk (x := p1) (k := 1) (K := 1) (by decide) (by omega) (by omega); have e52 := rf_pk (x := p1) (k := 2) (K := 2) (by decide) (by omega) (by omega); omega)) dX11_readStep_95 (fun H locs hP hD hS => ?_)
          have hP : va_P D vwCl ([(rf_RW ct 0 mf 958 (upd g p1.toNatClampNeg 2)), (rf_MO mo mw ma mf m0 m1 mu mv u0 u1 iz th mb mn (rp_we b mn mbg) mbg mwr (0) mlf men), (rf_RW ct 0 mb 800 b)] ++ ws_136) H := hP
          have hD : va_D A ([(rf_RW ct 0 mf 958 (upd g p1.toNatClampNeg 2)), (rf_MO mo mw ma mf m0 m1 mu mv u0 u1 iz th mb mn (rp_we b mn mbg) mbg mwr (0) mlf men), (rf_RW ct 0 mb 800 b)] ++ ws_136) := hD
          refine lv_aload_n hx hb dX11_readStep_96 rfl (lv_at hl 1 rfl) ?_
          refine va_get (v := .ref mf) (D := D) (ci := 11) (C := RX11) (T := TX11) (N := 19) hx hb hts in_X11 hown hK hP 1 rfl rfl 2 (by decide) (hts _ kl_RX11_16) (fun _ h9 => h9) rfl dX11_readStep_97 ?_
          refine lv_iload_n hx hb dX11_readStep_100 rfl (lv_at hl 2 rfl) ?_
          refine lv_iconst (v := 2) hx hb dX11_readStep_101 (by decide) ?_
          refine lv_iadd hx hb dX11_readStep_102 ?_
          refine lv_iconst (v := 0) hx hb dX11_readStep_103 (by decide) ?_
          refine va_iast hx hb hK hP hD hS 0 0 rfl rfl (rf_vin (by have := rf_ne9 (K := 12) hc_133 (by decide); have := (rf_Ls hL).2.1; have e51 := rf_pk (x := p1) (k := 1) (K := 1) (by decide) (by omega) (by omega); have e52 := rf_pk (x := p1) (k := 2) (K := 2) (by decide) (by omega) (by omega); omega)) dX11_readStep_104 (fun H locs hP hD hS => ?_)
          have hP : va_P D vwCl ([(rf_RW ct 0 mf 958 (upd (upd g p1.toNatClampNeg 2) (p1 + 2).toNatClampNeg 0)), (rf_MO mo mw ma mf m0 m1 mu mv u0 u1 iz th mb mn (rp_we b mn mbg) mbg mwr (0) mlf men), (rf_RW ct 0 mb 800 b)] ++ ws_136) H := hP
          have hD : va_D A ([(rf_RW ct 0 mf 958 (upd (upd g p1.toNatClampNeg 2) (p1 + 2).toNatClampNeg 0)), (rf_MO mo mw ma mf m0 m1 mu mv u0 u1 iz th mb mn (rp_we b mn mbg) mbg mwr (0) mlf men), (rf_RW ct 0 mb 800 b)] ++ ws_136) := hD
          refine lv_iload_n hx hb dX11_readStep_105 rfl (lv_at hl 0 rfl) ?_
          refine lv_iconst (v := 3) hx hb dX11_readStep_106 (by decide) ?_
          refine lv_icmp_ne (tgt := 122) hx hb dX11_readStep_107 (by decide) (fun _ => ?_) (fun hc => absurd hc (by decide))
          refine lv_iload_n hx hb dX11_readStep_122 rfl (lv_at hl 0 rfl) ?_
          refine lv_iconst (v := 4) hx hb dX11_readStep_123 (by decide) ?_
          refine lv_icmp_ne (tgt := 160) hx hb dX11_readStep_124 (by decide) (fun _ => ?_) (fun hc => absurd hc (by decide))
          refine lv_iload_n hx hb dX11_readStep_160 rfl (lv_at hl 0 rfl) ?_
          refine lv_iconst (v := 1) hx hb dX11_readStep_161 (by decide) ?_
          refine lv_icmp_ne (tgt := 169) hx hb dX11_readStep_162 (by decide) (fun _ => ?_) (fun hc => absurd hc (by decide))
          refine lv_iconst (v := 0) hx hb dX11_readStep_169 (by decide) ?_
          refine lv_istore (lv' := [(4, .int 0), (3, .int 2), (0, .ref mo), (1, .int p1), (2, .int p2)]) hx hb dX11_readStep_170 hl (by decide) rfl (fun ls hl => ?_)
          refine lv_aload_n hx hb dX11_readStep_172 rfl (lv_at hl 2 rfl) ?_
          refine lv_iload_n hx hb dX11_readStep_173 rfl (lv_at hl 3 rfl) ?_
          refine lv_iconst (v := 1) hx hb dX11_readStep_174 (by decide) ?_
          refine lv_iadd hx hb dX11_readStep_175 ?_
          refine lv_iload hx hb dX11_readStep_176 (lv_at hl 0 rfl) ?_
          refine lv_if_eq (tgt := 185) hx hb dX11_readStep_178 (by decide) (fun _ => ?_) (fun hc => absurd (by decide) hc)
          refine lv_iconst (v := 1) hx hb dX11_readStep_185 (by decide) ?_
          refine lv_sipush (v := 5000) hx hb dX11_readStep_186 (by decide) ?_
          obtain ⟨hP, hD⟩ := ty_opPD (E1 := []) (E2 := [(rf_MO mo mw ma mf m0 m1 mu mv u0 u1 iz th mb mn (rp_we b mn mbg) mbg mwr (0) mlf men), (rf_RW ct 0 mb 800 b), (rf_RW ct 0 mf 958 (upd (upd g p1.toNatClampNeg 2) (p1 + 2).toNatClampNeg 0))]) (n := 3) [1, 2, 0] hP hD rfl rfl (by decide +kernel) ty_mva
          refine ty_Ki hP hD hS hA (va_runV (As := [.int (p1 + 1), .int 1, .int 5000]) (rest := []) ⟨hx, hb, hml, hown, hts⟩ (m_X11_reads l D ct S ws_136 ph xx mo mw ma mf m0 m1 mu mv u0 u1 iz mb th mn (rp_we b mn mbg) mbg mwr mlf men b (p1 + 1) (1 : Int32) (5000 : Int32) (upd (upd g p1.toNatClampNeg 2) (p1 + 2).toNatClampNeg 0) 1 5000 _ hT hph hy1 hmn (by omega) (by have := rf_ne9 (K := 12) hc_133 (by decide); have := (rf_Ls hL).2.1; have e51 := rf_pk (x := p1) (k := 1) (K := 1) (by decide) (by omega) (by omega); have e52 := rf_pk (x := p1) (k := 2) (K := 2) (by decide) (by omega) (by omega); omega) (by decide) (by decide)) (cm_V 3 hts kc_X11_reads ki_RX11 kl_RX11_140 kv_X11_reads kx_X11_reads kd_X11_reads ⟨Nat.le_of_ble_eq_true rfl, Nat.le_of_ble_eq_true rfl⟩) (ty_preE (ci := 11) (q0 := 0) hP hK hD hS hA hX rfl rfl) rfl rfl hl.1 rfl (lv_room (Nat.le_of_ble_eq_true rfl)) dX11_readStep_189 ⟨Nat.le_of_ble_eq_true rfl, Nat.le_of_ble_eq_true rfl⟩) (fun r_138 u H locs hw_139 hP hD hS => ?_)
          obtain ⟨ws_140, mpt1_141, mwr1_142, mwk1_143, g1_144⟩ := u
          obtain ⟨hT, hp_145⟩ := hw_139
          have hp_145 : ((rp_we b mn mbg).toInt ≤ mpt1_141.toInt ∧ mpt1_141.toInt ≤ mn.toInt) ∧ ((r_138 = 0 ∧ rm_f (rp_rk b mn 1 5000 (rp_we b mn mbg)) (rp_rp b mn 1 5000 (rp_we b mn mbg)) mwk1_143 mwr1_142) ∨ (r_138 = 1 ∧ (rp_rk b mn 1 5000 (rp_we b mn mbg) = 0 ∧ mwk1_143 = 0 ∧ mpt1_141 = rp_rp b mn 1 5000 (rp_we b mn mbg)) ∧ ∃ v : Int32, (1 ≤ v.toInt ∧ v.toInt ≤ 5000) ∧ v.toInt = rp_rv b mn (rp_we b mn mbg) ∧ g1_144 = upd (upd (upd g p1.toNatClampNeg 2) (p1 + 2).toNatClampNeg 0) (p1 + 1).toInt.toNat v)) := hp_145
          obtain ⟨hP, hD⟩ := ty_shPD (w2 := ([(rf_MO mo mw ma mf m0 m1 mu mv u0 u1 iz th mb mn mpt1_141 (rp_sk b mn (rp_we b mn mbg)) mwr1_142 mwk1_143 mlf men), (rf_RW ct 0 mb 800 b), (rf_RW ct 0 mf 958 g1_144)] ++ ws_140)) hP hD rfl
          obtain ⟨hb_146, hc_147⟩ := hp_145
          have hs_148 := rp_sk_b (b := b) (p := (rp_we b mn mbg)) hmn.2 (by omega)
          rcases hc_147 with ⟨rfl, hz_149⟩ | ⟨rfl, hz_150⟩
          · refine lv_if_eq (tgt := 222) hx hb dX11_readStep_192 (by decide) (fun _ => ?_) (fun hc => absurd (by decide) hc)
            refine lv_iconst (v := 0) hx hb dX11_readStep_222 (by decide) ?_
            exact W.zret (v := 0) hx hb hr (by decide) (fun t ht hW => ⟨⟨0, (ws_140, mpt1_141, (rp_sk b mn (rp_we b mn mbg)), mwr1_142, mwk1_143, g1_144), rfl, ⟨hT, ⟨by omega, Or.inl ⟨rfl, (Or.inr ⟨hc_133, by simp only [rp_stk, rp_stp, if_neg hz_9, if_neg hz_19, if_pos hz_30]; exact rm_f2 hz_149⟩)⟩⟩⟩, by rw [ht]; exact hP, by rw [hAe]; exact hD⟩, hS.F ht⟩) hS.2.2 dX11_readStep_223
          · obtain ⟨⟨hk_151, hwk_152, hpt_153⟩, v_154, hv_155, hvv_156, hg_157⟩ := hz_150
            have hb_158 := hb_146
            subst hwk_152
            subst hpt_153
            refine lv_if_eq (tgt := 222) hx hb dX11_readStep_192 (by decide) (fun hc => absurd hc (by decide)) (fun _ => ?_)
            refine lv_aload_n hx hb dX11_readStep_195 rfl (lv_at hl 2 rfl) ?_
            refine lv_iload_n hx hb dX11_readStep_196 rfl (lv_at hl 3 rfl) ?_
            refine lv_iconst (v := 2) hx hb dX11_readStep_197 (by decide) ?_
            refine lv_iadd hx hb dX11_readStep_198 ?_
            refine lv_iload hx hb dX11_readStep_199 (lv_at hl 0 rfl) ?_
            refine lv_if_eq (tgt := 208) hx hb dX11_readStep_201 (by decide) (fun _ => ?_) (fun hc => absurd (by decide) hc)
            refine lv_iconst (v := 0) hx hb dX11_readStep_208 (by decide) ?_
            refine lv_sipush (v := 5000) hx hb dX11_readStep_209 (by decide) ?_
            obtain ⟨hP, hD⟩ := ty_ipPD (E1 := []) (E2 := [(rf_MO mo mw ma mf m0 m1 mu mv u0 u1 iz th mb mn (rp_rp b mn 1 5000 (rp_we b mn mbg)) (rp_sk b mn (rp_we b mn mbg)) mwr1_142 (0) mlf men), (rf_RW ct 0 mb 800 b), (rf_RW ct 0 mf 958 g1_144)]) hP hD rfl ty_mva
            refine ty_Ki hP hD hS hA (va_runV (As := [.int (p1 + 2), .int 0, .int 5000]) (rest := []) ⟨hx, hb, hml, hown, hts⟩ (m_X11_reads l D ct S ws_140 ph xx mo mw ma mf m0 m1 mu mv u0 u1 iz mb th mn (rp_rp b mn 1 5000 (rp_we b mn mbg)) (rp_sk b mn (rp_we b mn mbg)) mwr1_142 mlf men b (p1 + 2) (0 : Int32) (5000 : Int32) g1_144 0 5000 _ hT hph hy1 hmn (by omega) (by have := rf_ne9 (K := 12) hc_133 (by decide); have := (rf_Ls hL).2.1; have e51 := rf_pk (x := p1) (k := 1) (K := 1) (by decide) (by omega) (by omega); have e52 := rf_pk (x := p1) (k := 2) (K := 2) (by decide) (by omega) (by omega); omega) (by decide) (by decide)) (cm_V 3 hts kc_X11_reads ki_RX11 kl_RX11_140 kv_X11_reads kx_X11_reads kd_X11_reads ⟨Nat.le_of_ble_eq_true rfl, Nat.le_of_ble_eq_true rfl⟩) (ty_preE (ci := 11) (q0 := 0) hP hK hD hS hA hX rfl rfl) rfl rfl hl.1 rfl (lv_room (Nat.le_of_ble_eq_true rfl)) dX11_readStep_212 ⟨Nat.le_of_ble_eq_true rfl, Nat.le_of_ble_eq_true rfl⟩) (fun r_159 u H locs hw_160 hP hD hS => ?_)
            obtain ⟨ws_161, mpt1_162, mwr1_163, mwk1_164, g1_165⟩ := u
            obtain ⟨hT, hp_166⟩ := hw_160
            have hp_166 : ((rp_rp b mn 1 5000 (rp_we b mn mbg)).toInt ≤ mpt1_162.toInt ∧ mpt1_162.toInt ≤ mn.toInt) ∧ ((r_159 = 0 ∧ rm_f (rp_rk b mn 0 5000 (rp_rp b mn 1 5000 (rp_we b mn mbg))) (rp_rp b mn 0 5000 (rp_rp b mn 1 5000 (rp_we b mn mbg))) mwk1_164 mwr1_163) ∨ (r_159 = 1 ∧ (rp_rk b mn 0 5000 (rp_rp b mn 1 5000 (rp_we b mn mbg)) = 0 ∧ mwk1_164 = 0 ∧ mpt1_162 = rp_rp b mn 0 5000 (rp_rp b mn 1 5000 (rp_we b mn mbg))) ∧ ∃ v : Int32, (0 ≤ v.toInt ∧ v.toInt ≤ 5000) ∧ v.toInt = rp_rv b mn (rp_rp b mn 1 5000 (rp_we b mn mbg)) ∧ g1_165 = upd g1_144 (p1 + 2).toInt.toNat v)) := hp_166
            obtain ⟨hP, hD⟩ := ty_shPD (w2 := ([(rf_MO mo mw ma mf m0 m1 mu mv u0 u1 iz th mb mn mpt1_162 (rp_sk b mn (rp_rp b mn 1 5000 (rp_we b mn mbg))) mwr1_163 mwk1_164 mlf men), (rf_RW ct 0 mb 800 b), (rf_RW ct 0 mf 958 g1_165)] ++ ws_161)) hP hD rfl
            obtain ⟨hb_167, hc_168⟩ := hp_166
            have hs_169 := rp_sk_b (b := b) (p := (rp_rp b mn 1 5000 (rp_we b mn mbg))) hmn.2 (by omega)
            rcases hc_168 with ⟨rfl, hz_170⟩ | ⟨rfl, hz_171⟩
            · refine lv_if_eq (tgt := 222) hx hb dX11_readStep_215 (by decide) (fun _ => ?_) (fun hc => absurd (by decide) hc)
              refine lv_iconst (v := 0) hx hb dX11_readStep_222 (by decide) ?_
              exact W.zret (v := 0) hx hb hr (by decide) (fun t ht hW => ⟨⟨0, (ws_161, mpt1_162, (rp_sk b mn (rp_rp b mn 1 5000 (rp_we b mn mbg))), mwr1_163, mwk1_164, g1_165), rfl, ⟨hT, ⟨by omega, Or.inl ⟨rfl, (Or.inr ⟨hc_133, by simp only [rp_stk, rp_stp, if_neg hz_9, if_neg hz_19, if_pos hz_30]; exact rm_f3 hk_151 hz_170⟩)⟩⟩⟩, by rw [ht]; exact hP, by rw [hAe]; exact hD⟩, hS.F ht⟩) hS.2.2 dX11_readStep_223
            · obtain ⟨⟨hk_172, hwk_173, hpt_174⟩, v_175, hv_176, hvv_177, hg_178⟩ := hz_171
              have hb_179 := hb_167
              subst hwk_173
              subst hpt_174
              refine lv_if_eq (tgt := 222) hx hb dX11_readStep_215 (by decide) (fun hc => absurd hc (by decide)) (fun _ => ?_)
              refine lv_iconst (v := 1) hx hb dX11_readStep_218 (by decide) ?_
              refine lv_goto (tgt := 223) hx hb dX11_readStep_219 (by decide) ?_
              exact W.zret (v := 1) hx hb hr (by decide) (fun t ht hW => ⟨⟨1, (ws_161, (rp_rp b mn 0 5000 (rp_rp b mn 1 5000 (rp_we b mn mbg))), (rp_sk b mn (rp_rp b mn 1 5000 (rp_we b mn mbg))), mwr1_163, (0 : Int32), g1_165), rfl, ⟨hT, ⟨by omega, Or.inr ⟨rfl, (by simp only [rp_stk, rp_stp, if_neg hz_9, if_neg hz_19, if_pos hz_30]; exact (rm_g3 hk_151 hk_172).1), rfl, (by simp only [rp_stk, rp_stp, if_neg hz_9, if_neg hz_19, if_pos hz_30]; exact (rm_g3 hk_151 hk_172).2), (by have := rf_ne9 (K := 12) hc_133 (by decide); have := (rf_Ls hL).2.1; omega), (rf_spr ⟨(rf_Ls hL).2.1.1, hn4⟩ hp3 (by have := rf_ne9 (K := 12) hc_133 (by decide); have := (rf_Ls hL).2.1; omega) (by have := hv_176; omega) (rf_spq hL hn4 hp3 (by have := rf_ne9 (K := 12) hc_133 (by decide); have := (rf_Ls hL).2.1; omega) (by decide) (by have := rf_ne9 (K := 12) hc_133 (by decide); have := (rf_Ls hL).2.1; have := hv_155; omega) (fun q => absurd q (by decide)) hg_157) hg_178), ((rq_st2 (by have := rf_ne9 (K := 12) hc_133 (by decide); have := (rf_Ls hL).2.1; omega) (rq_st1 (by have := rf_ne9 (K := 12) hc_133 (by decide); have := (rf_Ls hL).2.1; omega) hg_157 hvv_156) hg_178 hvv_177)).trans (rq_step_dis hz_30).symm⟩⟩⟩, by rw [ht]; exact hP, by rw [hAe]; exact hD⟩, hS.F ht⟩) hS.2.2 dX11_readStep_223
        · refine lv_aload_n hx hb dX11_readStep_78 rfl (lv_at hl 1 rfl) ?_
          refine lv_iconst (v := 1) hx hb dX11_readStep_79 (by decide) ?_
          obtain ⟨hP, hD⟩ := ty_opPD (E1 := [(rf_RW ct 0 mf 958 g), (rf_RW ct 0 mb 800 b)]) (E2 := [(rf_MO mo mw ma mf m0 m1 mu mv u0 u1 iz th mb mn mpt mbg mwr (0) mlf men)]) (n := 3) [0, 2, 1] hP hD rfl rfl (by decide +kernel) ty_mva
          refine ty_Ki hP hD hS hA (va_runV (As := [.int 1]) (rest := []) ⟨hx, hb, hml, hown, hts⟩ (m_X11_fails l D ct S ws_27 ph xx mo mw ma mf m0 m1 mu mv u0 u1 iz mb th mn mpt mbg mwr mlf men (1 : Int32) _ hT hph hy1) (cm_V 1 hts kc_X11_fails ki_RX11 kl_RX11_112 kv_X11_fails kx_X11_fails kd_X11_fails ⟨Nat.le_of_ble_eq_true rfl, Nat.le_of_ble_eq_true rfl⟩) (ty_preE (ci := 11) (q0 := 2) hP hK hD hS hA hX rfl rfl) rfl rfl hl.1 rfl (lv_room (Nat.le_of_ble_eq_true rfl)) dX11_readStep_80 ⟨Nat.le_of_ble_eq_true rfl, Nat.le_of_ble_eq_true rfl⟩) (fun r_180 u H locs hw_181 hP hD hS => ?_)
          obtain ⟨ws_182, rfl⟩ : ∃ z, z = u := ⟨_, rfl⟩
          obtain ⟨hT, rfl⟩ := hw_181
          obtain ⟨hP, hD⟩ := ty_shPD (w2 := ([(rf_RW ct 0 mf 958 g), (rf_RW ct 0 mb 800 b), (rf_MO mo mw ma mf m0 m1 mu mv u0 u1 iz th mb mn mpt mbg mbg (1) mlf men)] ++ ws_182)) hP hD rfl
          obtain ⟨hP, hD⟩ := ty_ordPD (E2 := [(rf_MO mo mw ma mf m0 m1 mu mv u0 u1 iz th mb mn mpt mbg mbg (1) mlf men), (rf_RW ct 0 mb 800 b), (rf_RW ct 0 mf 958 g)]) (n := 3) [2, 1, 0] hP hD rfl rfl (by decide +kernel)
          exact W.zret (v := 0) hx hb hr (by decide) (fun t ht hW => ⟨⟨0, (ws_182, mpt, mbg, mbg, (1 : Int32), g), rfl, ⟨hT, ⟨by omega, Or.inl ⟨rfl, (Or.inl ⟨hc_133, rfl, rfl⟩)⟩⟩⟩, by rw [ht]; exact hP, by rw [hAe]; exact hD⟩, hS.F ht⟩) hS.2.2 dX11_readStep_83
    · refine lv_if_eq (tgt := 26) hx hb dX11_readStep_19 (by decide) (fun hc => absurd hc (by decide)) (fun _ => ?_)
      refine lv_iconst (v := 1) hx hb dX11_readStep_22 (by decide) ?_
      refine lv_goto (tgt := 66) hx hb dX11_readStep_23 (by decide) ?_
      refine lv_istore_n (lv' := [(3, .int 1), (0, .ref mo), (1, .int p1), (2, .int p2)]) hx hb dX11_readStep_66 rfl hl (by decide) rfl (fun ls hl => ?_)
      refine lv_iload_n hx hb dX11_readStep_67 rfl (lv_at hl 0 rfl) ?_
      refine lv_iconst (v := (-1)) hx hb dX11_readStep_68 (by decide) ?_
      refine lv_icmp_eq (tgt := 78) hx hb dX11_readStep_69 (by decide) (fun hc => absurd hc (by decide)) (fun _ => ?_)
      refine lv_iload_n hx hb dX11_readStep_72 rfl (lv_at hl 3 rfl) ?_
      refine lv_bipush (v := 12) hx hb dX11_readStep_73 (by decide) ?_
      refine lv_icmp_ne (tgt := 84) hx hb dX11_readStep_75 (by decide) (fun hc_183 => ?_) (fun hc_183 => ?_)
      · refine lv_aload_n hx hb dX11_readStep_84 rfl (lv_at hl 1 rfl) ?_
        obtain ⟨hP, hD⟩ := ty_ipPD (E1 := [(rf_RW ct 0 mf 958 g)]) (E2 := [(rf_MO mo mw ma mf m0 m1 mu mv u0 u1 iz th mb mn mpt mbg mwr (0) mlf men), (rf_RW ct 0 mb 800 b)]) hP hD rfl ty_mva
        refine ty_Ki hP hD hS hA (va_runV (As := []) (rest := []) ⟨hx, hb, hml, hown, hts⟩ (m_X11_passes l D ct S ws_17 ph xx mo mw ma mf m0 m1 mu mv u0 u1 iz mb th mn mpt mbg mwr (0 : Int32) mlf men b _ hT hph hy1 hmn (by omega)) (cm_V 0 hts kc_X11_passes ki_RX11 kl_RX11_133 kv_X11_passes kx_X11_passes kd_X11_passes ⟨Nat.le_of_ble_eq_true rfl, Nat.le_of_ble_eq_true rfl⟩) (ty_preE (ci := 11) (q0 := 1) hP hK hD hS hA hX rfl rfl) rfl rfl hl.1 rfl (lv_room (Nat.le_of_ble_eq_true rfl)) dX11_readStep_85 ⟨Nat.le_of_ble_eq_true rfl, Nat.le_of_ble_eq_true rfl⟩) (fun r_184 u H locs hw_185 hP hD hS => ?_)
        obtain ⟨ws_186, rfl⟩ : ∃ z, z = u := ⟨_, rfl⟩
        obtain ⟨hT, rfl⟩ := hw_185
        obtain ⟨hP, hD⟩ := ty_shPD (w2 := ([(rf_RW ct 0 mf 958 g), (rf_MO mo mw ma mf m0 m1 mu mv u0 u1 iz th mb mn (rp_we b mn mbg) mbg mwr (0) mlf men), (rf_RW ct 0 mb 800 b)] ++ ws_186)) hP hD rfl
        have hs_187 := rp_we_b (b := b) (p := mbg) hmn.2 (by omega)
        refine lv_pop hx hb dX11_readStep_88 rfl ?_
        refine lv_aload_n hx hb dX11_readStep_89 rfl (lv_at hl 1 rfl) ?_
        refine va_get (v := .ref mf) (D := D) (ci := 11) (C := RX11) (T := TX11) (N := 19) hx hb hts in_X11 hown hK hP 1 rfl rfl 2 (by decide) (hts _ kl_RX11_16) (fun _ h9 => h9) rfl dX11_readStep_90 ?_
        refine lv_iload_n hx hb dX11_readStep_93 rfl (lv_at hl 2 rfl) ?_
        refine lv_iload_n hx hb dX11_readStep_94 rfl (lv_at hl 0 rfl) ?_
        refine va_iast hx hb hK hP hD hS 0 0 rfl rfl (rf_vin (by have := rf_ne9 (K := 12) hc_183 (by decide); have := (rf_Ls hL).2.1; have e51 := rf_pk (x := p1) (k := 1) (K := 1) (by decide) (by omega) (by omega); have e52 := rf_pk (x := p1) (k := 2) (K := 2) (by decide) (by omega) (by omega); omega)) dX11_readStep_95 (fun H locs hP hD hS => ?_)
        have hP : va_P D vwCl ([(rf_RW ct 0 mf 958 (upd g p1.toNatClampNeg 1)), (rf_MO mo mw ma mf m0 m1 mu mv u0 u1 iz th mb mn (rp_we b mn mbg) mbg mwr (0) mlf men), (rf_RW ct 0 mb 800 b)] ++ ws_186) H := hP
        have hD : va_D A ([(rf_RW ct 0 mf 958 (upd g p1.toNatClampNeg 1)), (rf_MO mo mw ma mf m0 m1 mu mv u0 u1 iz th mb mn (rp_we b mn mbg) mbg mwr (0) mlf men), (rf_RW ct 0 mb 800 b)] ++ ws_186) := hD
        refine lv_aload_n hx hb dX11_readStep_96 rfl (lv_at hl 1 rfl) ?_
        refine va_get (v := .ref mf) (D := D) (ci := 11) (C := RX11) (T := TX11) (N := 19) hx hb hts in_X11 hown hK hP 1 rfl rfl 2 (by decide) (hts _ kl_RX11_16) (fun _ h9 => h9) rfl dX11_readStep_97 ?_
        refine lv_iload_n hx hb dX11_readStep_100 rfl (lv_at hl 2 rfl) ?_
        refine lv_iconst (v := 2) hx hb dX11_readStep_101 (by decide) ?_
        refine lv_iadd hx hb dX11_readStep_102 ?_
        refine lv_iconst (v := 0) hx hb dX11_readStep_103 (by decide) ?_
        refine va_iast hx hb hK hP hD hS 0 0 rfl rfl (rf_vin (by have := rf_ne9 (K := 12) hc_183 (by decide); have := (rf_Ls hL).2.1; have e51 := rf_pk (x := p1) (k := 1) (K := 1) (by decide) (by omega) (by omega); have e52 := rf_pk (x := p1) (k := 2) (K := 2) (by decide) (by omega) (by omega); omega)) dX11_readStep_104 (fun H locs hP hD hS => ?_)
        have hP : va_P D vwCl ([(rf_RW ct 0 mf 958 (upd (upd g p1.toNatClampNeg 1) (p1 + 2).toNatClampNeg 0)), (rf_MO mo mw ma mf m0 m1 mu mv u0 u1 iz th mb mn (rp_we b mn mbg) mbg mwr (0) mlf men), (rf_RW ct 0 mb 800 b)] ++ ws_186) H := hP
        have hD : va_D A ([(rf_RW ct 0 mf 958 (upd (upd g p1.toNatClampNeg 1) (p1 + 2).toNatClampNeg 0)), (rf_MO mo mw ma mf m0 m1 mu mv u0 u1 iz th mb mn (rp_we b mn mbg) mbg mwr (0) mlf men), (rf_RW ct 0 mb 800 b)] ++ ws_186) := hD
        refine lv_iload_n hx hb dX11_readStep_105 rfl (lv_at hl 0 rfl) ?_
        refine lv_iconst (v := 3) hx hb dX11_readStep_106 (by decide) ?_
        refine lv_icmp_ne (tgt := 122) hx hb dX11_readStep_107 (by decide) (fun _ => ?_) (fun hc => absurd hc (by decide))
        refine lv_iload_n hx hb dX11_readStep_122 rfl (lv_at hl 0 rfl) ?_
        refine lv_iconst (v := 4) hx hb dX11_readStep_123 (by decide) ?_
        refine lv_icmp_ne (tgt := 160) hx hb dX11_readStep_124 (by decide) (fun _ => ?_) (fun hc => absurd hc (by decide))
        refine lv_iload_n hx hb dX11_readStep_160 rfl (lv_at hl 0 rfl) ?_
        refine lv_iconst (v := 1) hx hb dX11_readStep_161 (by decide) ?_
        refine lv_icmp_ne (tgt := 169) hx hb dX11_readStep_162 (by decide) (fun hc => absurd (by decide) hc) (fun _ => ?_)
        refine lv_iconst (v := 1) hx hb dX11_readStep_165 (by decide) ?_
        refine lv_goto (tgt := 170) hx hb dX11_readStep_166 (by decide) ?_
        refine lv_istore (lv' := [(4, .int 1), (3, .int 1), (0, .ref mo), (1, .int p1), (2, .int p2)]) hx hb dX11_readStep_170 hl (by decide) rfl (fun ls hl => ?_)
        refine lv_aload_n hx hb dX11_readStep_172 rfl (lv_at hl 2 rfl) ?_
        refine lv_iload_n hx hb dX11_readStep_173 rfl (lv_at hl 3 rfl) ?_
        refine lv_iconst (v := 1) hx hb dX11_readStep_174 (by decide) ?_
        refine lv_iadd hx hb dX11_readStep_175 ?_
        refine lv_iload hx hb dX11_readStep_176 (lv_at hl 0 rfl) ?_
        refine lv_if_eq (tgt := 185) hx hb dX11_readStep_178 (by decide) (fun hc => absurd hc (by decide)) (fun _ => ?_)
        refine lv_iconst (v := 0) hx hb dX11_readStep_181 (by decide) ?_
        refine lv_goto (tgt := 186) hx hb dX11_readStep_182 (by decide) ?_
        refine lv_sipush (v := 5000) hx hb dX11_readStep_186 (by decide) ?_
        obtain ⟨hP, hD⟩ := ty_opPD (E1 := []) (E2 := [(rf_MO mo mw ma mf m0 m1 mu mv u0 u1 iz th mb mn (rp_we b mn mbg) mbg mwr (0) mlf men), (rf_RW ct 0 mb 800 b), (rf_RW ct 0 mf 958 (upd (upd g p1.toNatClampNeg 1) (p1 + 2).toNatClampNeg 0))]) (n := 3) [1, 2, 0] hP hD rfl rfl (by decide +kernel) ty_mva
        refine ty_Ki hP hD hS hA (va_runV (As := [.int (p1 + 1), .int 0, .int 5000]) (rest := []) ⟨hx, hb, hml, hown, hts⟩ (m_X11_reads l D ct S ws_186 ph xx mo mw ma mf m0 m1 mu mv u0 u1 iz mb th mn (rp_we b mn mbg) mbg mwr mlf men b (p1 + 1) (0 : Int32) (5000 : Int32) (upd (upd g p1.toNatClampNeg 1) (p1 + 2).toNatClampNeg 0) 0 5000 _ hT hph hy1 hmn (by omega) (by have := rf_ne9 (K := 12) hc_183 (by decide); have := (rf_Ls hL).2.1; have e51 := rf_pk (x := p1) (k := 1) (K := 1) (by decide) (by omega) (by omega); have e52 := rf_pk (x := p1) (k := 2) (K := 2) (by decide) (by omega) (by omega); omega) (by decide) (by decide)) (cm_V 3 hts kc_X11_reads ki_RX11 kl_RX11_140 kv_X11_reads kx_X11_reads kd_X11_reads ⟨Nat.le_of_ble_eq_true rfl, Nat.le_of_ble_eq_true rfl⟩) (ty_preE (ci := 11) (q0 := 0) hP hK hD hS hA hX rfl rfl) rfl rfl hl.1 rfl (lv_room (Nat.le_of_ble_eq_true rfl)) dX11_readStep_189 ⟨Nat.le_of_ble_eq_true rfl, Nat.le_of_ble_eq_true rfl⟩) (fun r_188 u H locs hw_189 hP hD hS => ?_)
        obtain ⟨ws_190, mpt1_191, mwr1_192, mwk1_193, g1_194⟩ := u
        obtain ⟨hT, hp_195⟩ := hw_189
        have hp_195 : ((rp_we b mn mbg).toInt ≤ mpt1_191.toInt ∧ mpt1_191.toInt ≤ mn.toInt) ∧ ((r_188 = 0 ∧ rm_f (rp_rk b mn 0 5000 (rp_we b mn mbg)) (rp_rp b mn 0 5000 (rp_we b mn mbg)) mwk1_193 mwr1_192) ∨ (r_188 = 1 ∧ (rp_rk b mn 0 5000 (rp_we b mn mbg) = 0 ∧ mwk1_193 = 0 ∧ mpt1_191 = rp_rp b mn 0 5000 (rp_we b mn mbg)) ∧ ∃ v : Int32, (0 ≤ v.toInt ∧ v.toInt ≤ 5000) ∧ v.toInt = rp_rv b mn (rp_we b mn mbg) ∧ g1_194 = upd (upd (upd g p1.toNatClampNeg 1) (p1 + 2).toNatClampNeg 0) (p1 + 1).toInt.toNat v)) := hp_195
        obtain ⟨hP, hD⟩ := ty_shPD (w2 := ([(rf_MO mo mw ma mf m0 m1 mu mv u0 u1 iz th mb mn mpt1_191 (rp_sk b mn (rp_we b mn mbg)) mwr1_192 mwk1_193 mlf men), (rf_RW ct 0 mb 800 b), (rf_RW ct 0 mf 958 g1_194)] ++ ws_190)) hP hD rfl
        obtain ⟨hb_196, hc_197⟩ := hp_195
        have hs_198 := rp_sk_b (b := b) (p := (rp_we b mn mbg)) hmn.2 (by omega)
        rcases hc_197 with ⟨rfl, hz_199⟩ | ⟨rfl, hz_200⟩
        · refine lv_if_eq (tgt := 222) hx hb dX11_readStep_192 (by decide) (fun _ => ?_) (fun hc => absurd (by decide) hc)
          refine lv_iconst (v := 0) hx hb dX11_readStep_222 (by decide) ?_
          exact W.zret (v := 0) hx hb hr (by decide) (fun t ht hW => ⟨⟨0, (ws_190, mpt1_191, (rp_sk b mn (rp_we b mn mbg)), mwr1_192, mwk1_193, g1_194), rfl, ⟨hT, ⟨by omega, Or.inl ⟨rfl, (Or.inr ⟨hc_183, by simp only [rp_stk, rp_stp, if_neg hz_9, if_pos hz_20]; exact rm_f2 hz_199⟩)⟩⟩⟩, by rw [ht]; exact hP, by rw [hAe]; exact hD⟩, hS.F ht⟩) hS.2.2 dX11_readStep_223
        · obtain ⟨⟨hk_201, hwk_202, hpt_203⟩, v_204, hv_205, hvv_206, hg_207⟩ := hz_200
          have hb_208 := hb_196
          subst hwk_202
          subst hpt_203
          refine lv_if_eq (tgt := 222) hx hb dX11_readStep_192 (by decide) (fun hc => absurd hc (by decide)) (fun _ => ?_)
          refine lv_aload_n hx hb dX11_readStep_195 rfl (lv_at hl 2 rfl) ?_
          refine lv_iload_n hx hb dX11_readStep_196 rfl (lv_at hl 3 rfl) ?_
          refine lv_iconst (v := 2) hx hb dX11_readStep_197 (by decide) ?_
          refine lv_iadd hx hb dX11_readStep_198 ?_
          refine lv_iload hx hb dX11_readStep_199 (lv_at hl 0 rfl) ?_
          refine lv_if_eq (tgt := 208) hx hb dX11_readStep_201 (by decide) (fun hc => absurd hc (by decide)) (fun _ => ?_)
          refine lv_iconst (v := 1) hx hb dX11_readStep_204 (by decide) ?_
          refine lv_goto (tgt := 209) hx hb dX11_readStep_205 (by decide) ?_
          refine lv_sipush (v := 5000) hx hb dX11_readStep_209 (by decide) ?_
          obtain ⟨hP, hD⟩ := ty_ipPD (E1 := []) (E2 := [(rf_MO mo mw ma mf m0 m1 mu mv u0 u1 iz th mb mn (rp_rp b mn 0 5000 (rp_we b mn mbg)) (rp_sk b mn (rp_we b mn mbg)) mwr1_192 (0) mlf men), (rf_RW ct 0 mb 800 b), (rf_RW ct 0 mf 958 g1_194)]) hP hD rfl ty_mva
          refine ty_Ki hP hD hS hA (va_runV (As := [.int (p1 + 2), .int 1, .int 5000]) (rest := []) ⟨hx, hb, hml, hown, hts⟩ (m_X11_reads l D ct S ws_190 ph xx mo mw ma mf m0 m1 mu mv u0 u1 iz mb th mn (rp_rp b mn 0 5000 (rp_we b mn mbg)) (rp_sk b mn (rp_we b mn mbg)) mwr1_192 mlf men b (p1 + 2) (1 : Int32) (5000 : Int32) g1_194 1 5000 _ hT hph hy1 hmn (by omega) (by have := rf_ne9 (K := 12) hc_183 (by decide); have := (rf_Ls hL).2.1; have e51 := rf_pk (x := p1) (k := 1) (K := 1) (by decide) (by omega) (by omega); have e52 := rf_pk (x := p1) (k := 2) (K := 2) (by decide) (by omega) (by omega); omega) (by decide) (by decide)) (cm_V 3 hts kc_X11_reads ki_RX11 kl_RX11_140 kv_X11_reads kx_X11_reads kd_X11_reads ⟨Nat.le_of_ble_eq_true rfl, Nat.le_of_ble_eq_true rfl⟩) (ty_preE (ci := 11) (q0 := 0) hP hK hD hS hA hX rfl rfl) rfl rfl hl.1 rfl (lv_room (Nat.le_of_ble_eq_true rfl)) dX11_readStep_212 ⟨Nat.le_of_ble_eq_true rfl, Nat.le_of_ble_eq_true rfl⟩) (fun r_209 u H locs hw_210 hP hD hS => ?_)
          obtain ⟨ws_211, mpt1_212, mwr1_213, mwk1_214, g1_215⟩ := u
          obtain ⟨hT, hp_216⟩ := hw_210
          have hp_216 : ((rp_rp b mn 0 5000 (rp_we b mn mbg)).toInt ≤ mpt1_212.toInt ∧ mpt1_212.toInt ≤ mn.toInt) ∧ ((r_209 = 0 ∧ rm_f (rp_rk b mn 1 5000 (rp_rp b mn 0 5000 (rp_we b mn mbg))) (rp_rp b mn 1 5000 (rp_rp b mn 0 5000 (rp_we b mn mbg))) mwk1_214 mwr1_213) ∨ (r_209 = 1 ∧ (rp_rk b mn 1 5000 (rp_rp b mn 0 5000 (rp_we b mn mbg)) = 0 ∧ mwk1_214 = 0 ∧ mpt1_212 = rp_rp b mn 1 5000 (rp_rp b mn 0 5000 (rp_we b mn mbg))) ∧ ∃ v : Int32, (1 ≤ v.toInt ∧ v.toInt ≤ 5000) ∧ v.toInt = rp_rv b mn (rp_rp b mn 0 5000 (rp_we b mn mbg)) ∧ g1_215 = upd g1_194 (p1 + 2).toInt.toNat v)) := hp_216
          obtain ⟨hP, hD⟩ := ty_shPD (w2 := ([(rf_MO mo mw ma mf m0 m1 mu mv u0 u1 iz th mb mn mpt1_212 (rp_sk b mn (rp_rp b mn 0 5000 (rp_we b mn mbg))) mwr1_213 mwk1_214 mlf men), (rf_RW ct 0 mb 800 b), (rf_RW ct 0 mf 958 g1_215)] ++ ws_211)) hP hD rfl
          obtain ⟨hb_217, hc_218⟩ := hp_216
          have hs_219 := rp_sk_b (b := b) (p := (rp_rp b mn 0 5000 (rp_we b mn mbg))) hmn.2 (by omega)
          rcases hc_218 with ⟨rfl, hz_220⟩ | ⟨rfl, hz_221⟩
          · refine lv_if_eq (tgt := 222) hx hb dX11_readStep_215 (by decide) (fun _ => ?_) (fun hc => absurd (by decide) hc)
            refine lv_iconst (v := 0) hx hb dX11_readStep_222 (by decide) ?_
            exact W.zret (v := 0) hx hb hr (by decide) (fun t ht hW => ⟨⟨0, (ws_211, mpt1_212, (rp_sk b mn (rp_rp b mn 0 5000 (rp_we b mn mbg))), mwr1_213, mwk1_214, g1_215), rfl, ⟨hT, ⟨by omega, Or.inl ⟨rfl, (Or.inr ⟨hc_183, by simp only [rp_stk, rp_stp, if_neg hz_9, if_pos hz_20]; exact rm_f3 hk_201 hz_220⟩)⟩⟩⟩, by rw [ht]; exact hP, by rw [hAe]; exact hD⟩, hS.F ht⟩) hS.2.2 dX11_readStep_223
          · obtain ⟨⟨hk_222, hwk_223, hpt_224⟩, v_225, hv_226, hvv_227, hg_228⟩ := hz_221
            have hb_229 := hb_217
            subst hwk_223
            subst hpt_224
            refine lv_if_eq (tgt := 222) hx hb dX11_readStep_215 (by decide) (fun hc => absurd hc (by decide)) (fun _ => ?_)
            refine lv_iconst (v := 1) hx hb dX11_readStep_218 (by decide) ?_
            refine lv_goto (tgt := 223) hx hb dX11_readStep_219 (by decide) ?_
            exact W.zret (v := 1) hx hb hr (by decide) (fun t ht hW => ⟨⟨1, (ws_211, (rp_rp b mn 1 5000 (rp_rp b mn 0 5000 (rp_we b mn mbg))), (rp_sk b mn (rp_rp b mn 0 5000 (rp_we b mn mbg))), mwr1_213, (0 : Int32), g1_215), rfl, ⟨hT, ⟨by omega, Or.inr ⟨rfl, (by simp only [rp_stk, rp_stp, if_neg hz_9, if_pos hz_20]; exact (rm_g3 hk_201 hk_222).1), rfl, (by simp only [rp_stk, rp_stp, if_neg hz_9, if_pos hz_20]; exact (rm_g3 hk_201 hk_222).2), (by have := rf_ne9 (K := 12) hc_183 (by decide); have := (rf_Ls hL).2.1; omega), (rf_spr ⟨(rf_Ls hL).2.1.1, hn4⟩ hp3 (by have := rf_ne9 (K := 12) hc_183 (by decide); have := (rf_Ls hL).2.1; omega) (by have := hv_226; omega) (rf_spq hL hn4 hp3 (by have := rf_ne9 (K := 12) hc_183 (by decide); have := (rf_Ls hL).2.1; omega) (by decide) (by have := rf_ne9 (K := 12) hc_183 (by decide); have := (rf_Ls hL).2.1; have := hv_205; omega) (fun q => absurd q (by decide)) hg_207) hg_228), ((rq_st2 (by have := rf_ne9 (K := 12) hc_183 (by decide); have := (rf_Ls hL).2.1; omega) (rq_st1 (by have := rf_ne9 (K := 12) hc_183 (by decide); have := (rf_Ls hL).2.1; omega) hg_207 hvv_206) hg_228 hvv_227)).trans (rq_step_hld hz_20).symm⟩⟩⟩, by rw [ht]; exact hP, by rw [hAe]; exact hD⟩, hS.F ht⟩) hS.2.2 dX11_readStep_223
      · refine lv_aload_n hx hb dX11_readStep_78 rfl (lv_at hl 1 rfl) ?_
        refine lv_iconst (v := 1) hx hb dX11_readStep_79 (by decide) ?_
        obtain ⟨hP, hD⟩ := ty_opPD (E1 := [(rf_RW ct 0 mf 958 g), (rf_RW ct 0 mb 800 b)]) (E2 := [(rf_MO mo mw ma mf m0 m1 mu mv u0 u1 iz th mb mn mpt mbg mwr (0) mlf men)]) (n := 3) [0, 2, 1] hP hD rfl rfl (by decide +kernel) ty_mva
        refine ty_Ki hP hD hS hA (va_runV (As := [.int 1]) (rest := []) ⟨hx, hb, hml, hown, hts⟩ (m_X11_fails l D ct S ws_17 ph xx mo mw ma mf m0 m1 mu mv u0 u1 iz mb th mn mpt mbg mwr mlf men (1 : Int32) _ hT hph hy1) (cm_V 1 hts kc_X11_fails ki_RX11 kl_RX11_112 kv_X11_fails kx_X11_fails kd_X11_fails ⟨Nat.le_of_ble_eq_true rfl, Nat.le_of_ble_eq_true rfl⟩) (ty_preE (ci := 11) (q0 := 2) hP hK hD hS hA hX rfl rfl) rfl rfl hl.1 rfl (lv_room (Nat.le_of_ble_eq_true rfl)) dX11_readStep_80 ⟨Nat.le_of_ble_eq_true rfl, Nat.le_of_ble_eq_true rfl⟩) (fun r_230 u H locs hw_231 hP hD hS => ?_)
        obtain ⟨ws_232, rfl⟩ : ∃ z, z = u := ⟨_, rfl⟩
        obtain ⟨hT, rfl⟩ := hw_231
        obtain ⟨hP, hD⟩ := ty_shPD (w2 := ([(rf_RW ct 0 mf 958 g), (rf_RW ct 0 mb 800 b), (rf_MO mo mw ma mf m0 m1 mu mv u0 u1 iz th mb mn mpt mbg mbg (1) mlf men)] ++ ws_232)) hP hD rfl
        obtain ⟨hP, hD⟩ := ty_ordPD (E2 := [(rf_MO mo mw ma mf m0 m1 mu mv u0 u1 iz th mb mn mpt mbg mbg (1) mlf men), (rf_RW ct 0 mb 800 b), (rf_RW ct 0 mf 958 g)]) (n := 3) [2, 1, 0] hP hD rfl rfl (by decide +kernel)
        exact W.zret (v := 0) hx hb hr (by decide) (fun t ht hW => ⟨⟨0, (ws_232, mpt, mbg, mbg, (1 : Int32), g), rfl, ⟨hT, ⟨by omega, Or.inl ⟨rfl, (Or.inl ⟨hc_183, rfl, rfl⟩)⟩⟩⟩, by rw [ht]; exact hP, by rw [hAe]; exact hD⟩, hS.F ht⟩) hS.2.2 dX11_readStep_83
  · refine lv_if_eq (tgt := 13) hx hb dX11_readStep_6 (by decide) (fun hc => absurd hc (by decide)) (fun _ => ?_)
    refine lv_iconst (v := 0) hx hb dX11_readStep_9 (by decide) ?_
    refine lv_goto (tgt := 66) hx hb dX11_readStep_10 (by decide) ?_
    refine lv_istore_n (lv' := [(3, .int 0), (0, .ref mo), (1, .int p1), (2, .int p2)]) hx hb dX11_readStep_66 rfl hl (by decide) rfl (fun ls hl => ?_)
    refine lv_iload_n hx hb dX11_readStep_67 rfl (lv_at hl 0 rfl) ?_
    refine lv_iconst (v := (-1)) hx hb dX11_readStep_68 (by decide) ?_
    refine lv_icmp_eq (tgt := 78) hx hb dX11_readStep_69 (by decide) (fun hc => absurd hc (by decide)) (fun _ => ?_)
    refine lv_iload_n hx hb dX11_readStep_72 rfl (lv_at hl 3 rfl) ?_
    refine lv_bipush (v := 12) hx hb dX11_readStep_73 (by decide) ?_
    refine lv_icmp_ne (tgt := 84) hx hb dX11_readStep_75 (by decide) (fun hc_233 => ?_) (fun hc_233 => ?_)
    · refine lv_aload_n hx hb dX11_readStep_84 rfl (lv_at hl 1 rfl) ?_
      obtain ⟨hP, hD⟩ := ty_ipPD (E1 := [(rf_RW ct 0 mf 958 g)]) (E2 := [(rf_MO mo mw ma mf m0 m1 mu mv u0 u1 iz th mb mn mpt mbg mwr (0) mlf men), (rf_RW ct 0 mb 800 b)]) hP hD rfl ty_mva
      refine ty_Ki hP hD hS hA (va_runV (As := []) (rest := []) ⟨hx, hb, hml, hown, hts⟩ (m_X11_passes l D ct S ws_7 ph xx mo mw ma mf m0 m1 mu mv u0 u1 iz mb th mn mpt mbg mwr (0 : Int32) mlf men b _ hT hph hy1 hmn (by omega)) (cm_V 0 hts kc_X11_passes ki_RX11 kl_RX11_133 kv_X11_passes kx_X11_passes kd_X11_passes ⟨Nat.le_of_ble_eq_true rfl, Nat.le_of_ble_eq_true rfl⟩) (ty_preE (ci := 11) (q0 := 1) hP hK hD hS hA hX rfl rfl) rfl rfl hl.1 rfl (lv_room (Nat.le_of_ble_eq_true rfl)) dX11_readStep_85 ⟨Nat.le_of_ble_eq_true rfl, Nat.le_of_ble_eq_true rfl⟩) (fun r_234 u H locs hw_235 hP hD hS => ?_)
      obtain ⟨ws_236, rfl⟩ : ∃ z, z = u := ⟨_, rfl⟩
      obtain ⟨hT, rfl⟩ := hw_235
      obtain ⟨hP, hD⟩ := ty_shPD (w2 := ([(rf_RW ct 0 mf 958 g), (rf_MO mo mw ma mf m0 m1 mu mv u0 u1 iz th mb mn (rp_we b mn mbg) mbg mwr (0) mlf men), (rf_RW ct 0 mb 800 b)] ++ ws_236)) hP hD rfl
      have hs_237 := rp_we_b (b := b) (p := mbg) hmn.2 (by omega)
      refine lv_pop hx hb dX11_readStep_88 rfl ?_
      refine lv_aload_n hx hb dX11_readStep_89 rfl (lv_at hl 1 rfl) ?_
      refine va_get (v := .ref mf) (D := D) (ci := 11) (C := RX11) (T := TX11) (N := 19) hx hb hts in_X11 hown hK hP 1 rfl rfl 2 (by decide) (hts _ kl_RX11_16) (fun _ h9 => h9) rfl dX11_readStep_90 ?_
      refine lv_iload_n hx hb dX11_readStep_93 rfl (lv_at hl 2 rfl) ?_
      refine lv_iload_n hx hb dX11_readStep_94 rfl (lv_at hl 0 rfl) ?_
      refine va_iast hx hb hK hP hD hS 0 0 rfl rfl (rf_vin (by have := rf_ne9 (K := 12) hc_233 (by decide); have := (rf_Ls hL).2.1; have e51 := rf_pk (x := p1) (k := 1) (K := 1) (by decide) (by omega) (by omega); have e52 := rf_pk (x := p1) (k := 2) (K := 2) (by decide) (by omega) (by omega); omega)) dX11_readStep_95 (fun H locs hP hD hS => ?_)
      have hP : va_P D vwCl ([(rf_RW ct 0 mf 958 (upd g p1.toNatClampNeg 0)), (rf_MO mo mw ma mf m0 m1 mu mv u0 u1 iz th mb mn (rp_we b mn mbg) mbg mwr (0) mlf men), (rf_RW ct 0 mb 800 b)] ++ ws_236) H := hP
      have hD : va_D A ([(rf_RW ct 0 mf 958 (upd g p1.toNatClampNeg 0)), (rf_MO mo mw ma mf m0 m1 mu mv u0 u1 iz th mb mn (rp_we b mn mbg) mbg mwr (0) mlf men), (rf_RW ct 0 mb 800 b)] ++ ws_236) := hD
      refine lv_aload_n hx hb dX11_readStep_96 rfl (lv_at hl 1 rfl) ?_
      refine va_get (v := .ref mf) (D := D) (ci := 11) (C := RX11) (T := TX11) (N := 19) hx hb hts in_X11 hown hK hP 1 rfl rfl 2 (by decide) (hts _ kl_RX11_16) (fun _ h9 => h9) rfl dX11_readStep_97 ?_
      refine lv_iload_n hx hb dX11_readStep_100 rfl (lv_at hl 2 rfl) ?_
      refine lv_iconst (v := 2) hx hb dX11_readStep_101 (by decide) ?_
      refine lv_iadd hx hb dX11_readStep_102 ?_
      refine lv_iconst (v := 0) hx hb dX11_readStep_103 (by decide) ?_
      refine va_iast hx hb hK hP hD hS 0 0 rfl rfl (rf_vin (by have := rf_ne9 (K := 12) hc_233 (by decide); have := (rf_Ls hL).2.1; have e51 := rf_pk (x := p1) (k := 1) (K := 1) (by decide) (by omega) (by omega); have e52 := rf_pk (x := p1) (k := 2) (K := 2) (by decide) (by omega) (by omega); omega)) dX11_readStep_104 (fun H locs hP hD hS => ?_)
      have hP : va_P D vwCl ([(rf_RW ct 0 mf 958 (upd (upd g p1.toNatClampNeg 0) (p1 + 2).toNatClampNeg 0)), (rf_MO mo mw ma mf m0 m1 mu mv u0 u1 iz th mb mn (rp_we b mn mbg) mbg mwr (0) mlf men), (rf_RW ct 0 mb 800 b)] ++ ws_236) H := hP
      have hD : va_D A ([(rf_RW ct 0 mf 958 (upd (upd g p1.toNatClampNeg 0) (p1 + 2).toNatClampNeg 0)), (rf_MO mo mw ma mf m0 m1 mu mv u0 u1 iz th mb mn (rp_we b mn mbg) mbg mwr (0) mlf men), (rf_RW ct 0 mb 800 b)] ++ ws_236) := hD
      refine lv_iload_n hx hb dX11_readStep_105 rfl (lv_at hl 0 rfl) ?_
      refine lv_iconst (v := 3) hx hb dX11_readStep_106 (by decide) ?_
      refine lv_icmp_ne (tgt := 122) hx hb dX11_readStep_107 (by decide) (fun _ => ?_) (fun hc => absurd hc (by decide))
      refine lv_iload_n hx hb dX11_readStep_122 rfl (lv_at hl 0 rfl) ?_
      refine lv_iconst (v := 4) hx hb dX11_readStep_123 (by decide) ?_
      refine lv_icmp_ne (tgt := 160) hx hb dX11_readStep_124 (by decide) (fun _ => ?_) (fun hc => absurd hc (by decide))
      refine lv_iload_n hx hb dX11_readStep_160 rfl (lv_at hl 0 rfl) ?_
      refine lv_iconst (v := 1) hx hb dX11_readStep_161 (by decide) ?_
      refine lv_icmp_ne (tgt := 169) hx hb dX11_readStep_162 (by decide) (fun _ => ?_) (fun hc => absurd hc (by decide))
      refine lv_iconst (v := 0) hx hb dX11_readStep_169 (by decide) ?_
      refine lv_istore (lv' := [(4, .int 0), (3, .int 0), (0, .ref mo), (1, .int p1), (2, .int p2)]) hx hb dX11_readStep_170 hl (by decide) rfl (fun ls hl => ?_)
      refine lv_aload_n hx hb dX11_readStep_172 rfl (lv_at hl 2 rfl) ?_
      refine lv_iload_n hx hb dX11_readStep_173 rfl (lv_at hl 3 rfl) ?_
      refine lv_iconst (v := 1) hx hb dX11_readStep_174 (by decide) ?_
      refine lv_iadd hx hb dX11_readStep_175 ?_
      refine lv_iload hx hb dX11_readStep_176 (lv_at hl 0 rfl) ?_
      refine lv_if_eq (tgt := 185) hx hb dX11_readStep_178 (by decide) (fun _ => ?_) (fun hc => absurd (by decide) hc)
      refine lv_iconst (v := 1) hx hb dX11_readStep_185 (by decide) ?_
      refine lv_sipush (v := 5000) hx hb dX11_readStep_186 (by decide) ?_
      obtain ⟨hP, hD⟩ := ty_opPD (E1 := []) (E2 := [(rf_MO mo mw ma mf m0 m1 mu mv u0 u1 iz th mb mn (rp_we b mn mbg) mbg mwr (0) mlf men), (rf_RW ct 0 mb 800 b), (rf_RW ct 0 mf 958 (upd (upd g p1.toNatClampNeg 0) (p1 + 2).toNatClampNeg 0))]) (n := 3) [1, 2, 0] hP hD rfl rfl (by decide +kernel) ty_mva
      refine ty_Ki hP hD hS hA (va_runV (As := [.int (p1 + 1), .int 1, .int 5000]) (rest := []) ⟨hx, hb, hml, hown, hts⟩ (m_X11_reads l D ct S ws_236 ph xx mo mw ma mf m0 m1 mu mv u0 u1 iz mb th mn (rp_we b mn mbg) mbg mwr mlf men b (p1 + 1) (1 : Int32) (5000 : Int32) (upd (upd g p1.toNatClampNeg 0) (p1 + 2).toNatClampNeg 0) 1 5000 _ hT hph hy1 hmn (by omega) (by have := rf_ne9 (K := 12) hc_233 (by decide); have := (rf_Ls hL).2.1; have e51 := rf_pk (x := p1) (k := 1) (K := 1) (by decide) (by omega) (by omega); have e52 := rf_pk (x := p1) (k := 2) (K := 2) (by decide) (by omega) (by omega); omega) (by decide) (by decide)) (cm_V 3 hts kc_X11_reads ki_RX11 kl_RX11_140 kv_X11_reads kx_X11_reads kd_X11_reads ⟨Nat.le_of_ble_eq_true rfl, Nat.le_of_ble_eq_true rfl⟩) (ty_preE (ci := 11) (q0 := 0) hP hK hD hS hA hX rfl rfl) rfl rfl hl.1 rfl (lv_room (Nat.le_of_ble_eq_true rfl)) dX11_readStep_189 ⟨Nat.le_of_ble_eq_true rfl, Nat.le_of_ble_eq_true rfl⟩) (fun r_238 u H locs hw_239 hP hD hS => ?_)
      obtain ⟨ws_240, mpt1_241, mwr1_242, mwk1_243, g1_244⟩ := u
      obtain ⟨hT, hp_245⟩ := hw_239
      have hp_245 : ((rp_we b mn mbg).toInt ≤ mpt1_241.toInt ∧ mpt1_241.toInt ≤ mn.toInt) ∧ ((r_238 = 0 ∧ rm_f (rp_rk b mn 1 5000 (rp_we b mn mbg)) (rp_rp b mn 1 5000 (rp_we b mn mbg)) mwk1_243 mwr1_242) ∨ (r_238 = 1 ∧ (rp_rk b mn 1 5000 (rp_we b mn mbg) = 0 ∧ mwk1_243 = 0 ∧ mpt1_241 = rp_rp b mn 1 5000 (rp_we b mn mbg)) ∧ ∃ v : Int32, (1 ≤ v.toInt ∧ v.toInt ≤ 5000) ∧ v.toInt = rp_rv b mn (rp_we b mn mbg) ∧ g1_244 = upd (upd (upd g p1.toNatClampNeg 0) (p1 + 2).toNatClampNeg 0) (p1 + 1).toInt.toNat v)) := hp_245
      obtain ⟨hP, hD⟩ := ty_shPD (w2 := ([(rf_MO mo mw ma mf m0 m1 mu mv u0 u1 iz th mb mn mpt1_241 (rp_sk b mn (rp_we b mn mbg)) mwr1_242 mwk1_243 mlf men), (rf_RW ct 0 mb 800 b), (rf_RW ct 0 mf 958 g1_244)] ++ ws_240)) hP hD rfl
      obtain ⟨hb_246, hc_247⟩ := hp_245
      have hs_248 := rp_sk_b (b := b) (p := (rp_we b mn mbg)) hmn.2 (by omega)
      rcases hc_247 with ⟨rfl, hz_249⟩ | ⟨rfl, hz_250⟩
      · refine lv_if_eq (tgt := 222) hx hb dX11_readStep_192 (by decide) (fun _ => ?_) (fun hc => absurd (by decide) hc)
        refine lv_iconst (v := 0) hx hb dX11_readStep_222 (by decide) ?_
        exact W.zret (v := 0) hx hb hr (by decide) (fun t ht hW => ⟨⟨0, (ws_240, mpt1_241, (rp_sk b mn (rp_we b mn mbg)), mwr1_242, mwk1_243, g1_244), rfl, ⟨hT, ⟨by omega, Or.inl ⟨rfl, (Or.inr ⟨hc_233, by simp only [rp_stk, rp_stp, if_pos hz_10]; exact rm_f2 hz_249⟩)⟩⟩⟩, by rw [ht]; exact hP, by rw [hAe]; exact hD⟩, hS.F ht⟩) hS.2.2 dX11_readStep_223
      · obtain ⟨⟨hk_251, hwk_252, hpt_253⟩, v_254, hv_255, hvv_256, hg_257⟩ := hz_250
        have hb_258 := hb_246
        subst hwk_252
        subst hpt_253
        refine lv_if_eq (tgt := 222) hx hb dX11_readStep_192 (by decide) (fun hc => absurd hc (by decide)) (fun _ => ?_)
        refine lv_aload_n hx hb dX11_readStep_195 rfl (lv_at hl 2 rfl) ?_
        refine lv_iload_n hx hb dX11_readStep_196 rfl (lv_at hl 3 rfl) ?_
        refine lv_iconst (v := 2) hx hb dX11_readStep_197 (by decide) ?_
        refine lv_iadd hx hb dX11_readStep_198 ?_
        refine lv_iload hx hb dX11_readStep_199 (lv_at hl 0 rfl) ?_
        refine lv_if_eq (tgt := 208) hx hb dX11_readStep_201 (by decide) (fun _ => ?_) (fun hc => absurd (by decide) hc)
        refine lv_iconst (v := 0) hx hb dX11_readStep_208 (by decide) ?_
        refine lv_sipush (v := 5000) hx hb dX11_readStep_209 (by decide) ?_
        obtain ⟨hP, hD⟩ := ty_ipPD (E1 := []) (E2 := [(rf_MO mo mw ma mf m0 m1 mu mv u0 u1 iz th mb mn (rp_rp b mn 1 5000 (rp_we b mn mbg)) (rp_sk b mn (rp_we b mn mbg)) mwr1_242 (0) mlf men), (rf_RW ct 0 mb 800 b), (rf_RW ct 0 mf 958 g1_244)]) hP hD rfl ty_mva
        refine ty_Ki hP hD hS hA (va_runV (As := [.int (p1 + 2), .int 0, .int 5000]) (rest := []) ⟨hx, hb, hml, hown, hts⟩ (m_X11_reads l D ct S ws_240 ph xx mo mw ma mf m0 m1 mu mv u0 u1 iz mb th mn (rp_rp b mn 1 5000 (rp_we b mn mbg)) (rp_sk b mn (rp_we b mn mbg)) mwr1_242 mlf men b (p1 + 2) (0 : Int32) (5000 : Int32) g1_244 0 5000 _ hT hph hy1 hmn (by omega) (by have := rf_ne9 (K := 12) hc_233 (by decide); have := (rf_Ls hL).2.1; have e51 := rf_pk (x := p1) (k := 1) (K := 1) (by decide) (by omega) (by omega); have e52 := rf_pk (x := p1) (k := 2) (K := 2) (by decide) (by omega) (by omega); omega) (by decide) (by decide)) (cm_V 3 hts kc_X11_reads ki_RX11 kl_RX11_140 kv_X11_reads kx_X11_reads kd_X11_reads ⟨Nat.le_of_ble_eq_true rfl, Nat.le_of_ble_eq_true rfl⟩) (ty_preE (ci := 11) (q0 := 0) hP hK hD hS hA hX rfl rfl) rfl rfl hl.1 rfl (lv_room (Nat.le_of_ble_eq_true rfl)) dX11_readStep_212 ⟨Nat.le_of_ble_eq_true rfl, Nat.le_of_ble_eq_true rfl⟩) (fun r_259 u H locs hw_260 hP hD hS => ?_)
        obtain ⟨ws_261, mpt1_262, mwr1_263, mwk1_264, g1_265⟩ := u
        obtain ⟨hT, hp_266⟩ := hw_260
        have hp_266 : ((rp_rp b mn 1 5000 (rp_we b mn mbg)).toInt ≤ mpt1_262.toInt ∧ mpt1_262.toInt ≤ mn.toInt) ∧ ((r_259 = 0 ∧ rm_f (rp_rk b mn 0 5000 (rp_rp b mn 1 5000 (rp_we b mn mbg))) (rp_rp b mn 0 5000 (rp_rp b mn 1 5000 (rp_we b mn mbg))) mwk1_264 mwr1_263) ∨ (r_259 = 1 ∧ (rp_rk b mn 0 5000 (rp_rp b mn 1 5000 (rp_we b mn mbg)) = 0 ∧ mwk1_264 = 0 ∧ mpt1_262 = rp_rp b mn 0 5000 (rp_rp b mn 1 5000 (rp_we b mn mbg))) ∧ ∃ v : Int32, (0 ≤ v.toInt ∧ v.toInt ≤ 5000) ∧ v.toInt = rp_rv b mn (rp_rp b mn 1 5000 (rp_we b mn mbg)) ∧ g1_265 = upd g1_244 (p1 + 2).toInt.toNat v)) := hp_266
        obtain ⟨hP, hD⟩ := ty_shPD (w2 := ([(rf_MO mo mw ma mf m0 m1 mu mv u0 u1 iz th mb mn mpt1_262 (rp_sk b mn (rp_rp b mn 1 5000 (rp_we b mn mbg))) mwr1_263 mwk1_264 mlf men), (rf_RW ct 0 mb 800 b), (rf_RW ct 0 mf 958 g1_265)] ++ ws_261)) hP hD rfl
        obtain ⟨hb_267, hc_268⟩ := hp_266
        have hs_269 := rp_sk_b (b := b) (p := (rp_rp b mn 1 5000 (rp_we b mn mbg))) hmn.2 (by omega)
        rcases hc_268 with ⟨rfl, hz_270⟩ | ⟨rfl, hz_271⟩
        · refine lv_if_eq (tgt := 222) hx hb dX11_readStep_215 (by decide) (fun _ => ?_) (fun hc => absurd (by decide) hc)
          refine lv_iconst (v := 0) hx hb dX11_readStep_222 (by decide) ?_
          exact W.zret (v := 0) hx hb hr (by decide) (fun t ht hW => ⟨⟨0, (ws_261, mpt1_262, (rp_sk b mn (rp_rp b mn 1 5000 (rp_we b mn mbg))), mwr1_263, mwk1_264, g1_265), rfl, ⟨hT, ⟨by omega, Or.inl ⟨rfl, (Or.inr ⟨hc_233, by simp only [rp_stk, rp_stp, if_pos hz_10]; exact rm_f3 hk_251 hz_270⟩)⟩⟩⟩, by rw [ht]; exact hP, by rw [hAe]; exact hD⟩, hS.F ht⟩) hS.2.2 dX11_readStep_223
        · obtain ⟨⟨hk_272, hwk_273, hpt_274⟩, v_275, hv_276, hvv_277, hg_278⟩ := hz_271
          have hb_279 := hb_267
          subst hwk_273
          subst hpt_274
          refine lv_if_eq (tgt := 222) hx hb dX11_readStep_215 (by decide) (fun hc => absurd hc (by decide)) (fun _ => ?_)
          refine lv_iconst (v := 1) hx hb dX11_readStep_218 (by decide) ?_
          refine lv_goto (tgt := 223) hx hb dX11_readStep_219 (by decide) ?_
          exact W.zret (v := 1) hx hb hr (by decide) (fun t ht hW => ⟨⟨1, (ws_261, (rp_rp b mn 0 5000 (rp_rp b mn 1 5000 (rp_we b mn mbg))), (rp_sk b mn (rp_rp b mn 1 5000 (rp_we b mn mbg))), mwr1_263, (0 : Int32), g1_265), rfl, ⟨hT, ⟨by omega, Or.inr ⟨rfl, (by simp only [rp_stk, rp_stp, if_pos hz_10]; exact (rm_g3 hk_251 hk_272).1), rfl, (by simp only [rp_stk, rp_stp, if_pos hz_10]; exact (rm_g3 hk_251 hk_272).2), (by have := rf_ne9 (K := 12) hc_233 (by decide); have := (rf_Ls hL).2.1; omega), (rf_spr ⟨(rf_Ls hL).2.1.1, hn4⟩ hp3 (by have := rf_ne9 (K := 12) hc_233 (by decide); have := (rf_Ls hL).2.1; omega) (by have := hv_276; omega) (rf_spq hL hn4 hp3 (by have := rf_ne9 (K := 12) hc_233 (by decide); have := (rf_Ls hL).2.1; omega) (by decide) (by have := rf_ne9 (K := 12) hc_233 (by decide); have := (rf_Ls hL).2.1; have := hv_255; omega) (fun q => absurd q (by decide)) hg_257) hg_278), ((rq_st2 (by have := rf_ne9 (K := 12) hc_233 (by decide); have := (rf_Ls hL).2.1; omega) (rq_st1 (by have := rf_ne9 (K := 12) hc_233 (by decide); have := (rf_Ls hL).2.1; omega) hg_257 hvv_256) hg_278 hvv_277)).trans (rq_step_chg hz_10).symm⟩⟩⟩, by rw [ht]; exact hP, by rw [hAe]; exact hD⟩, hS.F ht⟩) hS.2.2 dX11_readStep_223
    · refine lv_aload_n hx hb dX11_readStep_78 rfl (lv_at hl 1 rfl) ?_
      refine lv_iconst (v := 1) hx hb dX11_readStep_79 (by decide) ?_
      obtain ⟨hP, hD⟩ := ty_opPD (E1 := [(rf_RW ct 0 mf 958 g), (rf_RW ct 0 mb 800 b)]) (E2 := [(rf_MO mo mw ma mf m0 m1 mu mv u0 u1 iz th mb mn mpt mbg mwr (0) mlf men)]) (n := 3) [0, 2, 1] hP hD rfl rfl (by decide +kernel) ty_mva
      refine ty_Ki hP hD hS hA (va_runV (As := [.int 1]) (rest := []) ⟨hx, hb, hml, hown, hts⟩ (m_X11_fails l D ct S ws_7 ph xx mo mw ma mf m0 m1 mu mv u0 u1 iz mb th mn mpt mbg mwr mlf men (1 : Int32) _ hT hph hy1) (cm_V 1 hts kc_X11_fails ki_RX11 kl_RX11_112 kv_X11_fails kx_X11_fails kd_X11_fails ⟨Nat.le_of_ble_eq_true rfl, Nat.le_of_ble_eq_true rfl⟩) (ty_preE (ci := 11) (q0 := 2) hP hK hD hS hA hX rfl rfl) rfl rfl hl.1 rfl (lv_room (Nat.le_of_ble_eq_true rfl)) dX11_readStep_80 ⟨Nat.le_of_ble_eq_true rfl, Nat.le_of_ble_eq_true rfl⟩) (fun r_280 u H locs hw_281 hP hD hS => ?_)
      obtain ⟨ws_282, rfl⟩ : ∃ z, z = u := ⟨_, rfl⟩
      obtain ⟨hT, rfl⟩ := hw_281
      obtain ⟨hP, hD⟩ := ty_shPD (w2 := ([(rf_RW ct 0 mf 958 g), (rf_RW ct 0 mb 800 b), (rf_MO mo mw ma mf m0 m1 mu mv u0 u1 iz th mb mn mpt mbg mbg (1) mlf men)] ++ ws_282)) hP hD rfl
      obtain ⟨hP, hD⟩ := ty_ordPD (E2 := [(rf_MO mo mw ma mf m0 m1 mu mv u0 u1 iz th mb mn mpt mbg mbg (1) mlf men), (rf_RW ct 0 mb 800 b), (rf_RW ct 0 mf 958 g)]) (n := 3) [2, 1, 0] hP hD rfl rfl (by decide +kernel)
      exact W.zret (v := 0) hx hb hr (by decide) (fun t ht hW => ⟨⟨0, (ws_282, mpt, mbg, mbg, (1 : Int32), g), rfl, ⟨hT, ⟨by omega, Or.inl ⟨rfl, (Or.inl ⟨hc_233, rfl, rfl⟩)⟩⟩⟩, by rw [ht]; exact hP, by rw [hAe]; exact hD⟩, hS.F ht⟩) hS.2.2 dX11_readStep_83
