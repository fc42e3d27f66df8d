theorem rf_m1 {x : Int32} (h : 0 ≤ x.toInt) : (x - 1).toInt = x.toInt - 1 := by
  have o : (1 : Int32).toInt = 1 := by decide
  have := x.toInt_lt
  rw [Jvm.Kit.i32_sub (by rw [o]; omega) (by rw [o]; omega), o]
/-- a step that is read -/
def rf_sp (g d : Nat → Int32) (P : Nat) (n : Int32) : Prop := rf_L d ∧ (∀ j : Nat, j < P → d j = g j) ∧ (d P = 4 → (d (P + 1)).toInt < n.toInt)
theorem rf_spq {g d : Nat → Int32} {p kind v n : Int32} (hL : rf_L g) (h4 : (g 10).toInt < 4) (hp : p.toInt = 97 + 37 * (g 10).toInt + 3 * n.toInt) (hn : 0 ≤ n.toInt ∧ n.toInt ≤ 11) (hk : 0 ≤ kind.toInt ∧ kind.toInt ≤ 4) (hv : 0 ≤ v.toInt ∧ v.toInt ≤ 5000) (h44 : kind = 4 → v.toInt < n.toInt)
    (e : d = upd (upd (upd g p.toNatClampNeg kind) (p + 2).toNatClampNeg 0) (p + 1).toInt.toNat v) : rf_sp g d p.toInt.toNat n := by
  have s := hL.1.2.2.2.1
  have z : (0 : Int32).toInt = 0 := by decide
  have k1 := rf_pk (x := p) (k := 1) (K := 1) (by decide) (by omega) (by omega)
  have k2 := rf_pk (x := p) (k := 2) (K := 2) (by decide) (by omega) (by omega)
  have a0 : rf_La g (upd g p.toNatClampNeg kind) := rf_La1 (rf_La0 hL) (by omega)
  have a1 : rf_La g (upd (upd g p.toNatClampNeg kind) (p + 2).toNatClampNeg 0) := rf_La1 a0 (by omega)
  have a2 : rf_La g d := by
    rw [e]
    exact rf_La1 (x := p + 1) a1 (by omega)
  have n0 : p.toNatClampNeg = p.toInt.toNat := rfl
  have n1 : (p + 1).toInt.toNat = p.toInt.toNat + 1 := by omega
  have n2 : (p + 2).toNatClampNeg = p.toInt.toNat + 2 := by
    show (p + 2).toInt.toNat = _
    omega
  rw [n0, n1, n2] at e
  refine ⟨a2.1, fun j hj => ?_, fun q => ?_⟩
  · rw [e, rf_upd_ne (by omega), rf_upd_ne (by omega), rf_upd_ne (by omega)]
  · rw [e, rf_upd_ne (by omega), rf_upd_ne (by omega), rf_upd_eq] at q
    rw [e, rf_upd_eq]
    exact h44 q
theorem rf_spr {g d d2 : Nat → Int32} {p v n : Int32} (h4 : 0 ≤ (g 10).toInt ∧ (g 10).toInt < 4) (hp : p.toInt = 97 + 37 * (g 10).toInt + 3 * n.toInt) (hn : 0 ≤ n.toInt ∧ n.toInt ≤ 11) (hv : 0 ≤ v.toInt ∧ v.toInt ≤ 5000) (h : rf_sp g d p.toInt.toNat n) (e : d2 = upd d (p + 2).toInt.toNat v) : rf_sp g d2 p.toInt.toNat n := by
  have k2 := rf_pk (x := p) (k := 2) (K := 2) (by decide) (by omega) (by omega)
  have e10 : d 10 = g 10 := h.2.1 10 (by omega)
  have a : rf_La d d2 := by
    rw [e]
    exact rf_La1 (x := p + 2) (rf_La0 h.1) (by rw [e10]; omega)
  have n2 : (p + 2).toInt.toNat = p.toInt.toNat + 2 := by omega
  rw [n2] at e
  refine ⟨a.1, fun j hj => ?_, fun q => ?_⟩
  · rw [e, rf_upd_ne (by omega)]
    exact h.2.1 j hj
  · rw [e, rf_upd_ne (by omega)] at q
    rw [e, rf_upd_ne (by omega)]
    exact h.2.2 q
set_option maxRecDepth 100000 in
set_option maxHeartbeats 4000000 in
theorem m_X11_isWord (l : Launch) (D : va_G) (ct : Nat → ClassId) (S : ty_S) (ws : va_W) (ph : va_W → Prop) (xx : Nat → Nat → Nat → Prop) (mo : Nat) (mw : Nat) (ma : Nat) (mf : Nat) (m0 : Nat) (m1 : Nat) (mu : Nat) (mv : Nat) (u0 : Nat) (u1 : Nat) (iz : Nat) (mb : Nat) (th : Int32) (mn : Int32) (mpt : Int32) (mbg : Int32) (mwr : Int32) (mwk : Int32) (mlf : Int32) (men : Int32) (b : Nat → Int32) (wd : Nat) (q9 : cm_sq) (sz : Nat) (hT : ty_V ct S ph ws) (hph : ty_C ph xx) (hy1 : ty_y1 xx) (hmn : 0 ≤ mn.toInt ∧ mn.toInt ≤ 800) (hbg : 0 ≤ mbg.toInt ∧ mbg.toInt ≤ mn.toInt) (hq9 : q9 ∈ cm_strs) : Met l yX11_isWord (ws_ yX11_isWord cX11_isWord 5 (some .boolean)) ({ frames := 4, cells := 0, slots := 0, locals := 85 } : Room) (va_Pc [.ref mo, .ref wd] (cmPs D ct sz ([(rf_MO mo mw ma mf m0 m1 mu mv u0 u1 iz th mb mn mpt mbg mwr mwk mlf men), (rf_RW ct 0 mb 800 b)] ++ ws) q9 wd)) (va_Qi (fun (r : Int32) (u9 : va_W) => ty_V ct S ph u9 ∧ ((r = 0 ∧ ¬ rp_w b mn mbg = q9.2.2.2) ∨ (r = 1 ∧ rp_w b mn mbg = q9.2.2.2))) (cmB D ([(rf_MO mo mw ma mf m0 m1 mu mv u0 u1 iz th mb mn mpt mbg mwr mwk mlf men), (rf_RW ct 0 mb 800 b)] ++ ws) sz (fun (u9 : va_W) => ([(rf_MO mo mw ma mf m0 m1 mu mv u0 u1 iz th mb mn mpt mbg mwr mwk mlf men), (rf_RW ct 0 mb 800 b)] ++ u9))) (va_A ([(rf_MO mo mw ma mf m0 m1 mu mv u0 u1 iz th mb mn mpt mbg mwr mwk mlf men), (rf_RW ct 0 mb 800 b)] ++ ws) sz)) 0 0 (va_A ([(rf_MO mo mw ma mf m0 m1 mu mv u0 u1 iz th mb mn mpt mbg mwr mwk mlf men), (rf_RW ct 0 mb 800 b)] ++ ws) sz) := by
  refine Met.ofW (cc := cX11_isWord) (maxL := 5) (ret := (some .boolean)) (by decide) rfl ?_
  intro p e s m args below meth c s₁ B hml hv
  obtain ⟨rfl, ⟨hsz, hP, hK, hD0, hX⟩, hR9⟩ := hv
  have hx := B.exec
  have hb := B.bytes
  have hr := B.returns
  have hts := ws_all (atoms_spec (ws := ws_ yX11_isWord cX11_isWord 5 (some .boolean)) B.pre)
  have hown : s.vm.findClass RX11 = some m.cls := findClass_of_methodNamed B.named
  have hlocks := B.notSynchronized
  subst hsz
  have hD := hD0.self (sz := s.heap.size)
  generalize hAe : va_A ([(rf_MO mo mw ma mf m0 m1 mu mv u0 u1 iz th mb mn mpt mbg mwr mwk mlf men), (rf_RW ct 0 mb 800 b)] ++ ws) s.heap.size = A at hD hX ⊢
  have hA : ∀ q : Nat, s.heap.size ≤ q → A q := fun q h => by rw [← hAe]; exact Or.inr h
  have hS : va_S A s.heap s.heap [] := va_S.rf
  obtain ⟨a9, v9, hr9, hs9⟩ := hX.2.2.2.1 q9 hq9
  have e9 : a9 = wd := cm_sinj hr9 hR9
  rw [e9] at hs9
  have hl := lv_entry ([.ref mo, .ref wd]) (n := 5) (Nat.le_of_ble_eq_true rfl)
  rw [lg_entry_eq]
  generalize (lg_sl ([.ref mo, .ref wd]) ++ List.replicate (5 - (lg_sl ([.ref mo, .ref wd])).length) Slot.unset).toArray = ls at hl ⊢
  have hl : lv_has ls 5 [(0, .ref mo), (1, .ref wd)] := hl
  refine lv_aload_n hx hb dX11_isWord_0 rfl (lv_at hl 0 rfl) ?_
  obtain ⟨hP, hD⟩ := ty_ipPD (E1 := []) (E2 := [(rf_MO mo mw ma mf m0 m1 mu mv u0 u1 iz th mb mn mpt mbg mwr mwk mlf men), (rf_RW ct 0 mb 800 b)]) hP hD rfl ty_mva
  refine ty_Ki hP hD hS hA (va_runV (As := []) (rest := []) ⟨hx, hb, hml, hown, hts⟩ (m_X11_wordEnd l D ct S ws ph xx mo mw ma mf m0 m1 mu mv u0 u1 iz mb th mn mpt mbg mwr mwk mlf men b _ hT hph hy1 hmn (by omega)) (cm_V 0 hts kc_X11_wordEnd ki_RX11 kl_RX11_94 kv_X11_wordEnd kx_X11_wordEnd kd_X11_wordEnd ⟨Nat.le_of_ble_eq_true rfl, Nat.le_of_ble_eq_true rfl⟩) (ty_preE (ci := 11) (q0 := 0) hP hK hD hS hA hX rfl rfl) rfl rfl hl.1 rfl (lv_room (Nat.le_of_ble_eq_true rfl)) dX11_isWord_1 ⟨Nat.le_of_ble_eq_true rfl, Nat.le_of_ble_eq_true rfl⟩) (fun r_1 u H locs hw_2 hP hD hS => ?_)
  obtain ⟨ws_3, rfl⟩ : ∃ z, z = u := ⟨_, rfl⟩
  obtain ⟨hT, rfl⟩ := hw_2
  obtain ⟨hP, hD⟩ := ty_shPD (w2 := ([(rf_MO mo mw ma mf m0 m1 mu mv u0 u1 iz th mb mn mpt mbg mwr mwk mlf men), (rf_RW ct 0 mb 800 b)] ++ ws_3)) hP hD rfl
  have hwe := rp_we_b (b := b) hmn.2 hbg
  refine lv_istore_n (lv' := [(2, .int (rp_we b mn mbg)), (0, .ref mo), (1, .ref wd)]) hx hb dX11_isWord_4 rfl hl (by decide) rfl (fun ls hl => ?_)
  refine lv_iload_n hx hb dX11_isWord_5 rfl (lv_at hl 0 rfl) ?_
  refine lv_aload_n hx hb dX11_isWord_6 rfl (lv_at hl 1 rfl) ?_
  refine va_get (v := .int mbg) (D := D) (ci := 11) (C := RX11) (T := TX11) (N := 19) hx hb hts in_X11 hown hK hP 0 rfl rfl 14 (by decide) (hts _ kl_RX11_81) (fun _ h9 => h9) rfl dX11_isWord_7 ?_
  refine lv_isub hx hb dX11_isWord_10 ?_
  refine lv_aload_n hx hb dX11_isWord_11 rfl (lv_at hl 2 rfl) ?_
  obtain ⟨hP, hD⟩ := ty_ipPD (E1 := [(rf_MO mo mw ma mf m0 m1 mu mv u0 u1 iz th mb mn mpt mbg mwr mwk mlf men), (rf_RW ct 0 mb 800 b)]) (E2 := []) hP hD rfl ty_mva
  refine ty_Ki hP hD hS hA (va_runV (As := []) (rest := [.int ((rp_we b mn mbg) - mbg)]) ⟨hx, hb, hml, hown, hts⟩ (t_strlen l D ct S ws_3 ph xx wd q9 _ hT hph hy1 hq9) (cm_V 0 hts kc_J0_length_8abf5 ki_RJ0 kl_RX11_98 kv_J0_length_8abf5 kx_J0_length_8abf5 kd_J0_length_8abf5 ⟨Nat.le_of_ble_eq_true rfl, Nat.le_of_ble_eq_true rfl⟩) (cm_preVt (ty_preS (As := [.ref wd]) hP hK hD hS hA hX) (vk_recv hs9 (Nat.zero_lt_one) hS) hR9) rfl rfl hl.1 rfl (lv_room (Nat.le_of_ble_eq_true rfl)) dX11_isWord_12 ⟨Nat.le_of_ble_eq_true rfl, Nat.le_of_ble_eq_true rfl⟩) (fun r_4 u H locs hw_5 hP hD hS => ?_)
  obtain ⟨ws_6, rfl⟩ : ∃ z, z = u := ⟨_, rfl⟩
  obtain ⟨hT, rfl⟩ := hw_5
  obtain ⟨hP, hD⟩ := ty_shPD (w2 := ([(rf_MO mo mw ma mf m0 m1 mu mv u0 u1 iz th mb mn mpt mbg mwr mwk mlf men), (rf_RW ct 0 mb 800 b)] ++ ws_6)) hP hD rfl
  refine lv_icmp_ne (tgt := 22) hx hb dX11_isWord_15 (by decide) (fun hc_7 => ?_) (fun hc_7 => ?_)
  · refine lv_iconst (v := 0) hx hb dX11_isWord_22 (by decide) ?_
    refine lv_istore_n (lv' := [(3, .int 0), (2, .int (rp_we b mn mbg)), (0, .ref mo), (1, .ref wd)]) hx hb dX11_isWord_23 rfl hl (by decide) rfl (fun ls hl => ?_)
    refine lv_iconst (v := 0) hx hb dX11_isWord_24 (by decide) ?_
    refine lv_istore (lv' := [(4, .int 0), (3, .int 0), (2, .int (rp_we b mn mbg)), (0, .ref mo), (1, .ref wd)]) hx hb dX11_isWord_25 hl (by decide) rfl (fun ls hl => ?_)
    refine ty_loop (I := fun μ H locs ls => ∃ (ws : va_W) (y_8 : Int32) (y_9 : Int32), μ = (2147483648 - y_9.toInt).toNat ∧ ty_V ct S ph ws ∧ va_P D vwCl ([(rf_MO mo mw ma mf m0 m1 mu mv u0 u1 iz th mb mn mpt mbg mwr mwk mlf men), (rf_RW ct 0 mb 800 b)] ++ ws) H ∧ va_D A ([(rf_MO mo mw ma mf m0 m1 mu mv u0 u1 iz th mb mn mpt mbg mwr mwk mlf men), (rf_RW ct 0 mb 800 b)] ++ ws) ∧ va_S A s.heap H locs ∧ lv_has ls 5 [(0, .ref mo), (1, .ref wd), (2, .int (rp_we b mn mbg)), (3, .int y_8), (4, .int y_9)] ∧ (0 ≤ y_9.toInt ∧ y_9.toInt ≤ 800) ∧ rm_iw b mn mbg q9.2.2.2 y_8 y_9) ⟨_, ws_6, (0 : Int32), (0 : Int32), rfl, hT, hP, hD, hS, (lv_sub hl [3, 4, 2, 1, 0] rfl), (by decide), rm_iwn0 (ty_sl hq9) (by omega) hc_7⟩ (fun μ H locs ls hI ih_27 => ?_)
    obtain ⟨ws, y_8, y_9, rfl, hT, hP, hD, hS, hl, hex_27⟩ := hI
    refine lv_iload_n hx hb dX11_isWord_27 rfl (lv_at hl 3 rfl) ?_
    refine lv_if_eq (tgt := 74) hx hb dX11_isWord_28 (by decide) (fun hc_10 => ?_) (fun hc_10 => ?_)
    · refine lv_iload_n hx hb dX11_isWord_74 rfl (lv_at hl 3 rfl) ?_
      exact W.zret (v := y_8) hx hb hr (rf_z01 (hex_27.2.elim (fun q => Or.inl q.1) (fun q => Or.inr q.1))) (fun t ht hW => ⟨⟨y_8, ws, rfl, ⟨hT, (rm_iwe hex_27.2 hex_27.1 hmn.2 hbg (Or.inl hc_10))⟩, by rw [ht]; exact hP, by rw [hAe]; exact hD⟩, hS.F ht⟩) hS.2.2 dX11_isWord_75
    · refine lv_aload_n hx hb dX11_isWord_31 rfl (lv_at hl 0 rfl) ?_
      refine va_get (v := .int mbg) (D := D) (ci := 11) (C := RX11) (T := TX11) (N := 19) hx hb hts in_X11 hown hK hP 0 rfl rfl 14 (by decide) (hts _ kl_RX11_81) (fun _ h9 => h9) rfl dX11_isWord_32 ?_
      refine lv_iload hx hb dX11_isWord_35 (lv_at hl 4 rfl) ?_
      refine lv_iadd hx hb dX11_isWord_37 ?_
      refine lv_iload_n hx hb dX11_isWord_38 rfl (lv_at hl 2 rfl) ?_
      refine lv_icmp_ge (tgt := 74) hx hb dX11_isWord_39 (by decide) (fun hc_11 => ?_) (fun hc_11 => ?_)
      · refine lv_iload_n hx hb dX11_isWord_74 rfl (lv_at hl 3 rfl) ?_
        exact W.zret (v := y_8) hx hb hr (rf_z01 (hex_27.2.elim (fun q => Or.inl q.1) (fun q => Or.inr q.1))) (fun t ht hW => ⟨⟨y_8, ws, rfl, ⟨hT, (rm_iwe hex_27.2 hex_27.1 hmn.2 hbg (Or.inr hc_11))⟩, by rw [ht]; exact hP, by rw [hAe]; exact hD⟩, hS.F ht⟩) hS.2.2 dX11_isWord_75
      · refine lv_aload_n hx hb dX11_isWord_42 rfl (lv_at hl 0 rfl) ?_
        refine lv_aload_n hx hb dX11_isWord_43 rfl (lv_at hl 0 rfl) ?_
        refine va_get (v := .int mbg) (D := D) (ci := 11) (C := RX11) (T := TX11) (N := 19) hx hb hts in_X11 hown hK hP 0 rfl rfl 14 (by decide) (hts _ kl_RX11_81) (fun _ h9 => h9) rfl dX11_isWord_44 ?_
        refine lv_iload hx hb dX11_isWord_47 (lv_at hl 4 rfl) ?_
        refine lv_iadd hx hb dX11_isWord_49 ?_
        obtain ⟨hP, hD⟩ := ty_ipPD (E1 := []) (E2 := [(rf_MO mo mw ma mf m0 m1 mu mv u0 u1 iz th mb mn mpt mbg mwr mwk mlf men), (rf_RW ct 0 mb 800 b)]) hP hD rfl ty_mva
        refine ty_Ki hP hD hS hA (va_runV (As := [.int (mbg + y_9)]) (rest := []) ⟨hx, hb, hml, hown, hts⟩ (m_X11_byteAt l D ct S ws ph xx mo mw ma mf m0 m1 mu mv u0 u1 iz mb th mn mpt mbg mwr mwk mlf men b (mbg + y_9) _ hT hph hy1 hmn (rm_iwk (ty_sl hq9) hex_27.2 hc_10 hmn.2 (by omega) hex_27.1 hc_11).2.1.1) (cm_V 1 hts kc_X11_byteAt ki_RX11 kl_RX11_62 kv_X11_byteAt kx_X11_byteAt kd_X11_byteAt ⟨Nat.le_of_ble_eq_true rfl, Nat.le_of_ble_eq_true rfl⟩) (ty_preE (ci := 11) (q0 := 0) hP hK hD hS hA hX rfl rfl) rfl rfl hl.1 rfl (lv_room (Nat.le_of_ble_eq_true rfl)) dX11_isWord_50 ⟨Nat.le_of_ble_eq_true rfl, Nat.le_of_ble_eq_true rfl⟩) (fun r_12 u H locs hw_13 hP hD hS => ?_)
        obtain ⟨ws_14, rfl⟩ : ∃ z, z = u := ⟨_, rfl⟩
        obtain ⟨hT, rfl⟩ := hw_13
        obtain ⟨hP, hD⟩ := ty_shPD (w2 := ([(rf_MO mo mw ma mf m0 m1 mu mv u0 u1 iz th mb mn mpt mbg mwr mwk mlf men), (rf_RW ct 0 mb 800 b)] ++ ws_14)) hP hD rfl
        refine lv_aload_n hx hb dX11_isWord_53 rfl (lv_at hl 1 rfl) ?_
        refine lv_iload hx hb dX11_isWord_54 (lv_at hl 4 rfl) ?_
        obtain ⟨hP, hD⟩ := ty_ipPD (E1 := [(rf_MO mo mw ma mf m0 m1 mu mv u0 u1 iz th mb mn mpt mbg mwr mwk mlf men), (rf_RW ct 0 mb 800 b)]) (E2 := []) hP hD rfl ty_mva
        refine ty_Ki hP hD hS hA (va_runV (As := [.int y_9]) (rest := [.int (rf_bt b mn (mbg + y_9))]) ⟨hx, hb, hml, hown, hts⟩ (t_charAt l D ct S ws_14 ph xx wd q9 y_9 _ hT hph hy1 hq9 (ty_nneg hex_27.1.1) (rm_iwk (ty_sl hq9) hex_27.2 hc_10 hmn.2 (by omega) hex_27.1 hc_11).1.2) (cm_V 1 hts kc_J0_charAt_5068e ki_RJ0 kl_RX11_102 kv_J0_charAt_5068e kx_J0_charAt_5068e kd_J0_charAt_5068e ⟨Nat.le_of_ble_eq_true rfl, Nat.le_of_ble_eq_true rfl⟩) (cm_preVt (ty_preS (As := [.ref wd, .int y_9]) hP hK hD hS hA hX) (vk_recv hs9 (Nat.zero_lt_one) hS) hR9) rfl rfl hl.1 rfl (lv_room (Nat.le_of_ble_eq_true rfl)) dX11_isWord_56 ⟨Nat.le_of_ble_eq_true rfl, Nat.le_of_ble_eq_true rfl⟩) (fun r_15 u H locs hw_16 hP hD hS => ?_)
        obtain ⟨ws_17, rfl⟩ : ∃ z, z = u := ⟨_, rfl⟩
        obtain ⟨hT, hp_18⟩ := hw_16
        have hp_18 : (narrow .char (.int r_15) = .int r_15 ∧ r_15 = (q9.2.2.2).getD y_9.toNatClampNeg 0) := hp_18
        obtain ⟨hP, hD⟩ := ty_shPD (w2 := ([(rf_MO mo mw ma mf m0 m1 mu mv u0 u1 iz th mb mn mpt mbg mwr mwk mlf men), (rf_RW ct 0 mb 800 b)] ++ ws_17)) hP hD rfl
        refine lv_icmp_ne (tgt := 66) hx hb dX11_isWord_59 (by decide) (fun hc_19 => ?_) (fun hc_19 => ?_)
        · refine lv_iconst (v := 0) hx hb dX11_isWord_66 (by decide) ?_
          refine lv_istore_n (lv' := [(3, .int 0), (0, .ref mo), (1, .ref wd), (2, .int (rp_we b mn mbg)), (4, .int y_9)]) hx hb dX11_isWord_67 rfl hl (by decide) rfl (fun ls hl => ?_)
          refine lv_iinc (v := (y_9 + Int32.ofInt 1)) (lv' := [(4, .int (y_9 + Int32.ofInt 1)), (3, .int 0), (0, .ref mo), (1, .ref wd), (2, .int (rp_we b mn mbg))]) hx hb dX11_isWord_68 hl (k := 4) rfl rfl (by decide) rfl (fun ls hl => ?_)
          refine lv_goto (tgt := 27) hx hb dX11_isWord_71 (by decide) ?_
          exact ih_27 _ _ _ _ (ty_inc (rm_iwk (ty_sl hq9) hex_27.2 hc_10 hmn.2 (by omega) hex_27.1 hc_11).1.2) ⟨ws_17, (0 : Int32), (y_9 + Int32.ofInt 1), rfl, hT, hP, hD, hS, (lv_sub hl [2, 3, 4, 1, 0] rfl), (by have := (rm_iwk (ty_sl hq9) hex_27.2 hc_10 hmn.2 (by omega) hex_27.1 hc_11); have e9 : (y_9 + Int32.ofInt 1).toInt = y_9.toInt + 1 := rf_p1 (by omega); omega), rm_iwn hex_27.2 hc_10 (rm_iwk (ty_sl hq9) hex_27.2 hc_10 hmn.2 (by omega) hex_27.1 hc_11).1.1 hex_27.1.1 (rm_iwk (ty_sl hq9) hex_27.2 hc_10 hmn.2 (by omega) hex_27.1 hc_11).2.2 hp_18.2 hc_19⟩
        · refine lv_iconst (v := 1) hx hb dX11_isWord_62 (by decide) ?_
          refine lv_goto (tgt := 67) hx hb dX11_isWord_63 (by decide) ?_
          refine lv_istore_n (lv' := [(3, .int 1), (0, .ref mo), (1, .ref wd), (2, .int (rp_we b mn mbg)), (4, .int y_9)]) hx hb dX11_isWord_67 rfl hl (by decide) rfl (fun ls hl => ?_)
          refine lv_iinc (v := (y_9 + Int32.ofInt 1)) (lv' := [(4, .int (y_9 + Int32.ofInt 1)), (3, .int 1), (0, .ref mo), (1, .ref wd), (2, .int (rp_we b mn mbg))]) hx hb dX11_isWord_68 hl (k := 4) rfl rfl (by decide) rfl (fun ls hl => ?_)
          refine lv_goto (tgt := 27) hx hb dX11_isWord_71 (by decide) ?_
          exact ih_27 _ _ _ _ (ty_inc (rm_iwk (ty_sl hq9) hex_27.2 hc_10 hmn.2 (by omega) hex_27.1 hc_11).1.2) ⟨ws_17, (1 : Int32), (y_9 + Int32.ofInt 1), rfl, hT, hP, hD, hS, (lv_sub hl [2, 3, 4, 1, 0] rfl), (by have := (rm_iwk (ty_sl hq9) hex_27.2 hc_10 hmn.2 (by omega) hex_27.1 hc_11); have e9 : (y_9 + Int32.ofInt 1).toInt = y_9.toInt + 1 := rf_p1 (by omega); omega), rm_iwy hex_27.2 hc_10 (by have := (rm_iwk (ty_sl hq9) hex_27.2 hc_10 hmn.2 (by omega) hex_27.1 hc_11); omega) (rm_iwk (ty_sl hq9) hex_27.2 hc_10 hmn.2 (by omega) hex_27.1 hc_11).2.2 hp_18.2 hc_19⟩
  · refine lv_iconst (v := 1) hx hb dX11_isWord_18 (by decide) ?_
    refine lv_goto (tgt := 23) hx hb dX11_isWord_19 (by decide) ?_
    refine lv_istore_n (lv' := [(3, .int 1), (2, .int (rp_we b mn mbg)), (0, .ref mo), (1, .ref wd)]) hx hb dX11_isWord_23 rfl hl (by decide) rfl (fun ls hl => ?_)
    refine lv_iconst (v := 0) hx hb dX11_isWord_24 (by decide) ?_
    refine lv_istore (lv' := [(4, .int 0), (3, .int 1), (2, .int (rp_we b mn mbg)), (0, .ref mo), (1, .ref wd)]) hx hb dX11_isWord_25 hl (by decide) rfl (fun ls hl => ?_)
    refine ty_loop (I := fun μ H locs ls => ∃ (ws : va_W) (y_20 : Int32) (y_21 : Int32), μ = (2147483648 - y_21.toInt).toNat ∧ ty_V ct S ph ws ∧ va_P D vwCl ([(rf_MO mo mw ma mf m0 m1 mu mv u0 u1 iz th mb mn mpt mbg mwr mwk mlf men), (rf_RW ct 0 mb 800 b)] ++ ws) H ∧ va_D A ([(rf_MO mo mw ma mf m0 m1 mu mv u0 u1 iz th mb mn mpt mbg mwr mwk mlf men), (rf_RW ct 0 mb 800 b)] ++ ws) ∧ va_S A s.heap H locs ∧ lv_has ls 5 [(0, .ref mo), (1, .ref wd), (2, .int (rp_we b mn mbg)), (3, .int y_20), (4, .int y_21)] ∧ (0 ≤ y_21.toInt ∧ y_21.toInt ≤ 800) ∧ rm_iw b mn mbg q9.2.2.2 y_20 y_21) ⟨_, ws_6, (1 : Int32), (0 : Int32), rfl, hT, hP, hD, hS, (lv_sub hl [3, 4, 2, 1, 0] rfl), (by decide), rm_iw0 (ty_sl hq9) (by omega) hc_7⟩ (fun μ H locs ls hI ih_27 => ?_)
    obtain ⟨ws, y_20, y_21, rfl, hT, hP, hD, hS, hl, hex_27⟩ := hI
    refine lv_iload_n hx hb dX11_isWord_27 rfl (lv_at hl 3 rfl) ?_
    refine lv_if_eq (tgt := 74) hx hb dX11_isWord_28 (by decide) (fun hc_22 => ?_) (fun hc_22 => ?_)
    · refine lv_iload_n hx hb dX11_isWord_74 rfl (lv_at hl 3 rfl) ?_
      exact W.zret (v := y_20) hx hb hr (rf_z01 (hex_27.2.elim (fun q => Or.inl q.1) (fun q => Or.inr q.1))) (fun t ht hW => ⟨⟨y_20, ws, rfl, ⟨hT, (rm_iwe hex_27.2 hex_27.1 hmn.2 hbg (Or.inl hc_22))⟩, by rw [ht]; exact hP, by rw [hAe]; exact hD⟩, hS.F ht⟩) hS.2.2 dX11_isWord_75
    · refine lv_aload_n hx hb dX11_isWord_31 rfl (lv_at hl 0 rfl) ?_
      refine va_get (v := .int mbg) (D := D) (ci := 11) (C := RX11) (T := TX11) (N := 19) hx hb hts in_X11 hown hK hP 0 rfl rfl 14 (by decide) (hts _ kl_RX11_81) (fun _ h9 => h9) rfl dX11_isWord_32 ?_
      refine lv_iload hx hb dX11_isWord_35 (lv_at hl 4 rfl) ?_
      refine lv_iadd hx hb dX11_isWord_37 ?_
      refine lv_iload_n hx hb dX11_isWord_38 rfl (lv_at hl 2 rfl) ?_
      refine lv_icmp_ge (tgt := 74) hx hb dX11_isWord_39 (by decide) (fun hc_23 => ?_) (fun hc_23 => ?_)
      · refine lv_iload_n hx hb dX11_isWord_74 rfl (lv_at hl 3 rfl) ?_
        exact W.zret (v := y_20) hx hb hr (rf_z01 (hex_27.2.elim (fun q => Or.inl q.1) (fun q => Or.inr q.1))) (fun t ht hW => ⟨⟨y_20, ws, rfl, ⟨hT, (rm_iwe hex_27.2 hex_27.1 hmn.2 hbg (Or.inr hc_23))⟩, by rw [ht]; exact hP, by rw [hAe]; exact hD⟩, hS.F ht⟩) hS.2.2 dX11_isWord_75
      · refine lv_aload_n hx hb dX11_isWord_42 rfl (lv_at hl 0 rfl) ?_
        refine lv_aload_n hx hb dX11_isWord_43 rfl (lv_at hl 0 rfl) ?_
        refine va_get (v := .int mbg) (D := D) (ci := 11) (C := RX11) (T := TX11) (N := 19) hx hb hts in_X11 hown hK hP 0 rfl rfl 14 (by decide) (hts _ kl_RX11_81) (fun _ h9 => h9) rfl dX11_isWord_44 ?_
        refine lv_iload hx hb dX11_isWord_47 (lv_at hl 4 rfl) ?_
        refine lv_iadd hx hb dX11_isWord_49 ?_
        obtain ⟨hP, hD⟩ := ty_ipPD (E1 := []) (E2 := [(rf_MO mo mw ma mf m0 m1 mu mv u0 u1 iz th mb mn mpt mbg mwr mwk mlf men), (rf_RW ct 0 mb 800 b)]) hP hD rfl ty_mva
        refine ty_Ki hP hD hS hA (va_runV (As := [.int (mbg + y_21)]) (rest := []) ⟨hx, hb, hml, hown, hts⟩ (m_X11_byteAt l D ct S ws ph xx mo mw ma mf m0 m1 mu mv u0 u1 iz mb th mn mpt mbg mwr mwk mlf men b (mbg + y_21) _ hT hph hy1 hmn (rm_iwk (ty_sl hq9) hex_27.2 hc_22 hmn.2 (by omega) hex_27.1 hc_23).2.1.1) (cm_V 1 hts kc_X11_byteAt ki_RX11 kl_RX11_62 kv_X11_byteAt kx_X11_byteAt kd_X11_byteAt ⟨Nat.le_of_ble_eq_true rfl, Nat.le_of_ble_eq_true rfl⟩) (ty_preE (ci := 11) (q0 := 0) hP hK hD hS hA hX rfl rfl) rfl rfl hl.1 rfl (lv_room (Nat.le_of_ble_eq_true rfl)) dX11_isWord_50 ⟨Nat.le_of_ble_eq_true rfl, Nat.le_of_ble_eq_true rfl⟩) (fun r_24 u H locs hw_25 hP hD hS => ?_)
        obtain ⟨ws_26, rfl⟩ : ∃ z, z = u := ⟨_, rfl⟩
        obtain ⟨hT, rfl⟩ := hw_25
        obtain ⟨hP, hD⟩ := ty_shPD (w2 := ([(rf_MO mo mw ma mf m0 m1 mu mv u0 u1 iz th mb mn mpt mbg mwr mwk mlf men), (rf_RW ct 0 mb 800 b)] ++ ws_26)) hP hD rfl
        refine lv_aload_n hx hb dX11_isWord_53 rfl (lv_at hl 1 rfl) ?_
        refine lv_iload hx hb dX11_isWord_54 (lv_at hl 4 rfl) ?_
        obtain ⟨hP, hD⟩ := ty_ipPD (E1 := [(rf_MO mo mw ma mf m0 m1 mu mv u0 u1 iz th mb mn mpt mbg mwr mwk mlf men), (rf_RW ct 0 mb 800 b)]) (E2 := []) hP hD rfl ty_mva
        refine ty_Ki hP hD hS hA (va_runV (As := [.int y_21]) (rest := [.int (rf_bt b mn (mbg + y_21))]) ⟨hx, hb, hml, hown, hts⟩ (t_charAt l D ct S ws_26 ph xx wd q9 y_21 _ hT hph hy1 hq9 (ty_nneg hex_27.1.1) (rm_iwk (ty_sl hq9) hex_27.2 hc_22 hmn.2 (by omega) hex_27.1 hc_23).1.2) (cm_V 1 hts kc_J0_charAt_5068e ki_RJ0 kl_RX11_102 kv_J0_charAt_5068e kx_J0_charAt_5068e kd_J0_charAt_5068e ⟨Nat.le_of_ble_eq_true rfl, Nat.le_of_ble_eq_true rfl⟩) (cm_preVt (ty_preS (As := [.ref wd, .int y_21]) hP hK hD hS hA hX) (vk_recv hs9 (Nat.zero_lt_one) hS) hR9) rfl rfl hl.1 rfl (lv_room (Nat.le_of_ble_eq_true rfl)) dX11_isWord_56 ⟨Nat.le_of_ble_eq_true rfl, Nat.le_of_ble_eq_true rfl⟩) (fun r_27 u H locs hw_28 hP hD hS => ?_)
        obtain ⟨ws_29, rfl⟩ : ∃ z, z = u := ⟨_, rfl⟩
        obtain ⟨hT, hp_30⟩ := hw_28
        have hp_30 : (narrow .char (.int r_27) = .int r_27 ∧ r_27 = (q9.2.2.2).getD y_21.toNatClampNeg 0) := hp_30
        obtain ⟨hP, hD⟩ := ty_shPD (w2 := ([(rf_MO mo mw ma mf m0 m1 mu mv u0 u1 iz th mb mn mpt mbg mwr mwk mlf men), (rf_RW ct 0 mb 800 b)] ++ ws_29)) hP hD rfl
        refine lv_icmp_ne (tgt := 66) hx hb dX11_isWord_59 (by decide) (fun hc_31 => ?_) (fun hc_31 => ?_)
        · refine lv_iconst (v := 0) hx hb dX11_isWord_66 (by decide) ?_
          refine lv_istore_n (lv' := [(3, .int 0), (0, .ref mo), (1, .ref wd), (2, .int (rp_we b mn mbg)), (4, .int y_21)]) hx hb dX11_isWord_67 rfl hl (by decide) rfl (fun ls hl => ?_)
          refine lv_iinc (v := (y_21 + Int32.ofInt 1)) (lv' := [(4, .int (y_21 + Int32.ofInt 1)), (3, .int 0), (0, .ref mo), (1, .ref wd), (2, .int (rp_we b mn mbg))]) hx hb dX11_isWord_68 hl (k := 4) rfl rfl (by decide) rfl (fun ls hl => ?_)
          refine lv_goto (tgt := 27) hx hb dX11_isWord_71 (by decide) ?_
          exact ih_27 _ _ _ _ (ty_inc (rm_iwk (ty_sl hq9) hex_27.2 hc_22 hmn.2 (by omega) hex_27.1 hc_23).1.2) ⟨ws_29, (0 : Int32), (y_21 + Int32.ofInt 1), rfl, hT, hP, hD, hS, (lv_sub hl [2, 3, 4, 1, 0] rfl), (by have := (rm_iwk (ty_sl hq9) hex_27.2 hc_22 hmn.2 (by omega) hex_27.1 hc_23); have e9 : (y_21 + Int32.ofInt 1).toInt = y_21.toInt + 1 := rf_p1 (by omega); omega), rm_iwn hex_27.2 hc_22 (rm_iwk (ty_sl hq9) hex_27.2 hc_22 hmn.2 (by omega) hex_27.1 hc_23).1.1 hex_27.1.1 (rm_iwk (ty_sl hq9) hex_27.2 hc_22 hmn.2 (by omega) hex_27.1 hc_23).2.2 hp_30.2 hc_31⟩
        · refine lv_iconst (v := 1) hx hb dX11_isWord_62 (by decide) ?_
          refine lv_goto (tgt := 67) hx hb dX11_isWord_63 (by decide) ?_
          refine lv_istore_n (lv' := [(3, .int 1), (0, .ref mo), (1, .ref wd), (2, .int (rp_we b mn mbg)), (4, .int y_21)]) hx hb dX11_isWord_67 rfl hl (by decide) rfl (fun ls hl => ?_)
          refine lv_iinc (v := (y_21 + Int32.ofInt 1)) (lv' := [(4, .int (y_21 + Int32.ofInt 1)), (3, .int 1), (0, .ref mo), (1, .ref wd), (2, .int (rp_we b mn mbg))]) hx hb dX11_isWord_68 hl (k := 4) rfl rfl (by decide) rfl (fun ls hl => ?_)
          refine lv_goto (tgt := 27) hx hb dX11_isWord_71 (by decide) ?_
          exact ih_27 _ _ _ _ (ty_inc (rm_iwk (ty_sl hq9) hex_27.2 hc_22 hmn.2 (by omega) hex_27.1 hc_23).1.2) ⟨ws_29, (1 : Int32), (y_21 + Int32.ofInt 1), rfl, hT, hP, hD, hS, (lv_sub hl [2, 3, 4, 1, 0] rfl), (by have := (rm_iwk (ty_sl hq9) hex_27.2 hc_22 hmn.2 (by omega) hex_27.1 hc_23); have e9 : (y_21 + Int32.ofInt 1).toInt = y_21.toInt + 1 := rf_p1 (by omega); omega), rm_iwy hex_27.2 hc_22 (by have := (rm_iwk (ty_sl hq9) hex_27.2 hc_22 hmn.2 (by omega) hex_27.1 hc_23); omega) (rm_iwk (ty_sl hq9) hex_27.2 hc_22 hmn.2 (by omega) hex_27.1 hc_23).2.2 hp_30.2 hc_31⟩
