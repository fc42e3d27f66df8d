theorem rf_z01 {r : Int32} (h : r = 0 ∨ r = 1) : narrow .boolean (.int r) = .int r := by
  rcases h with rfl | rfl
  · rfl
  · rfl
theorem rf_mk9 {a b k : Int32} {A B : Int} (ha : a.toInt = A) (hb : b.toInt = B) (hA : 0 ≤ A ∧ A ≤ 1000) (hB : 0 ≤ B ∧ B ≤ 100) (hk : 0 ≤ k.toInt ∧ k.toInt ≤ 60) : (a + (b * k)).toInt = A + B * k.toInt := by
  have e := rf_i2 (k := 0) (c := k) A B ha hb hA hB hk (by decide)
  rw [Int32.add_zero, show (0 : Int32).toInt = 0 from by decide] at e
  omega
theorem rf_le6 {y : Int32} (h : ¬ 6 < y) : y.toInt ≤ 6 := by
  rw [Int32.lt_iff_toInt_lt, show (6 : Int32).toInt = 6 from by decide] at h
  omega
theorem rf_ne9 {x k : Int32} {K : Int} (h : ¬ x = k) (hk : k.toInt = K) : ¬ x.toInt = K := fun q => h (Int32.toInt_inj.mp (q.trans hk.symm))
theorem rf_ge9 {x k : Int32} {K : Int} (h : ¬ x < k) (hk : k.toInt = K) : K ≤ x.toInt := by
  rw [Int32.lt_iff_toInt_lt, hk] at h
  omega
/-- g as it was, c as it is: a place of an entry that isn't counted yet -/
def rf_La (g c : Nat → Int32) : Prop := rf_L c ∧ ∀ j : Nat, j < 20 → c j = g j
theorem rf_La0 {g : Nat → Int32} (h : rf_L g) : rf_La g g := ⟨h, fun _ _ => rfl⟩
theorem rf_La1 {g c : Nat → Int32} {x v : Int32} (h : rf_La g c) (hi : (20 + 19 * (g 11).toInt ≤ x.toInt ∧ x.toInt < 96) ∨ ((96 + 37 * (g 10).toInt ≤ x.toInt ∧ x.toInt < 244) ∧ 0 ≤ v.toInt ∧ v.toInt ≤ 5000) ∨ 244 + 54 * (g 9).toInt ≤ x.toInt) : rf_La g (upd c x.toNatClampNeg v) := by
  have e9 := h.2 9 (by omega)
  have e10 := h.2 10 (by omega)
  have e11 := h.2 11 (by omega)
  have q9 := h.1.1.2.2.1
  have q10 := h.1.1.2.2.2.1
  have q11 := h.1.1.2.2.2.2.1
  rw [e9] at q9
  rw [e10] at q10
  rw [e11] at q11
  have r := rf_Lf (i := x.toInt.toNat) (v := v) h.1 (by rw [e9, e10, e11]; omega)
  exact ⟨r.1, fun j hj => (r.2 j hj).trans (h.2 j hj)⟩
theorem rf_Lcv {g c : Nat → Int32} {x n : Int32} (h : rf_La g c) (h4 : (g 11).toInt < 4) (hx : x.toInt = 27 + 19 * (g 11).toInt) (hn : 2 ≤ n.toInt ∧ n.toInt ≤ 11) : rf_L (upd (upd c x.toNatClampNeg n) (11 : Int32).toNatClampNeg ((upd c x.toNatClampNeg n) 11 + 1)) := by
  have s := h.1.1.2.2.2.2.1
  have e := h.2 11 (by omega)
  rw [e] at s
  have d := rf_La1 (x := x) (v := n) h (by omega)
  have e1 : (upd c x.toNatClampNeg n) 11 = g 11 := d.2 11 (by omega)
  refine rf_Lm (i := 11) d.1 (Or.inr (Or.inr rfl)) (rf_p1 (by rw [e1]; omega)) (fun q => absurd q (by omega)) (fun q => absurd q (by omega)) (fun _ => ?_)
  rw [e1]
  have ex : x.toNatClampNeg = 27 + 19 * (g 11).toInt.toNat := by
    show x.toInt.toNat = _
    omega
  rw [ex, rf_upd_eq]
  exact ⟨h4, hn⟩
set_option maxRecDepth 100000 in
set_option maxHeartbeats 4000000 in
theorem m_X11_reads (l : Launch) (D : va_G) (ct : Nat → ClassId) (S : ty_S) (ws : va_W) (ph : va_W → Prop) (xx : Nat → Nat → Nat → Prop) (mo : Nat) (mw : Nat) (ma : Nat) (mf : Nat) (m0 : Nat) (m1 : Nat) (mu : Nat) (mv : Nat) (u0 : Nat) (u1 : Nat) (iz : Nat) (mb : Nat) (th : Int32) (mn : Int32) (mpt : Int32) (mbg : Int32) (mwr : Int32) (mlf : Int32) (men : Int32) (b : Nat → Int32) (p1 : Int32) (p2 : Int32) (p3 : Int32) (g : Nat → Int32) (L : Int) (U : Int) (sz : Nat) (hT : ty_V ct S ph ws) (hph : ty_C ph xx) (hy1 : ty_y1 xx) (hmn : 0 ≤ mn.toInt ∧ mn.toInt ≤ 800) (hpt : 0 ≤ mpt.toInt ∧ mpt.toInt ≤ mn.toInt) (hpl : 0 ≤ p1.toInt ∧ p1.toInt < 958) (hL : p2.toInt = L) (hU : p3.toInt = U) : Met l yX11_reads (ws_ yX11_reads cX11_reads 6 (some .boolean)) ({ frames := 2, cells := 0, slots := 0, locals := 46 } : Room) (va_Pc [.ref mo, .int p1, .int p2, .int p3] (cmP D ct sz ([(rf_MO mo mw ma mf m0 m1 mu mv u0 u1 iz th mb mn mpt mbg mwr (0) mlf men), (rf_RW ct 0 mb 800 b), (rf_RW ct 0 mf 958 g)] ++ ws))) (va_Qi (fun (r : Int32) (u : va_W × Int32 × Int32 × Int32 × (Nat → Int32)) => match u with | (u9, mpt1, mwr1, mwk1, g1) => ty_V ct S ph u9 ∧ (mpt.toInt ≤ mpt1.toInt ∧ mpt1.toInt ≤ mn.toInt) ∧ ((r = 0 ∧ rm_f (rp_rk b mn L U mpt) (rp_rp b mn L U mpt) mwk1 mwr1) ∨ (r = 1 ∧ (rp_rk b mn L U mpt = 0 ∧ mwk1 = 0 ∧ mpt1 = rp_rp b mn L U mpt) ∧ ∃ v : Int32, (L ≤ v.toInt ∧ v.toInt ≤ U) ∧ v.toInt = rp_rv b mn mpt ∧ g1 = upd g p1.toInt.toNat v))) (cmB D ([(rf_MO mo mw ma mf m0 m1 mu mv u0 u1 iz th mb mn mpt mbg mwr (0) mlf men), (rf_RW ct 0 mb 800 b), (rf_RW ct 0 mf 958 g)] ++ ws) sz (fun (u : va_W × Int32 × Int32 × Int32 × (Nat → Int32)) => match u with | (u9, mpt1, mwr1, mwk1, g1) => ([(rf_MO mo mw ma mf m0 m1 mu mv u0 u1 iz th mb mn mpt1 (rp_sk b mn mpt) mwr1 mwk1 mlf men), (rf_RW ct 0 mb 800 b), (rf_RW ct 0 mf 958 g1)] ++ u9))) (va_A ([(rf_MO mo mw ma mf m0 m1 mu mv u0 u1 iz th mb mn mpt mbg mwr (0) mlf men), (rf_RW ct 0 mb 800 b), (rf_RW ct 0 mf 958 g)] ++ ws) sz)) 0 0 (va_A ([(rf_MO mo mw ma mf m0 m1 mu mv u0 u1 iz th mb mn mpt mbg mwr (0) mlf men), (rf_RW ct 0 mb 800 b), (rf_RW ct 0 mf 958 g)] ++ ws) sz) := by
  refine Met.ofW (cc := cX11_reads) (maxL := 6) (ret := (some .boolean)) (by decide) rfl ?_
  intro p e s m args below meth c s₁ B hml hv
  obtain ⟨rfl, hsz, hP, hK, hD0, hX⟩ := hv
  have hx := B.exec
  have hb := B.bytes
  have hr := B.returns
  have hts := ws_all (atoms_spec (ws := ws_ yX11_reads cX11_reads 6 (some .boolean)) B.pre)
  have hown : s.vm.findClass RX11 = some m.cls := findClass_of_methodNamed B.named
  have hlocks := B.notSynchronized
  subst hsz
  have hD := hD0.self (sz := s.heap.size)
  generalize hAe : va_A ([(rf_MO mo mw ma mf m0 m1 mu mv u0 u1 iz th mb mn mpt mbg mwr (0) mlf men), (rf_RW ct 0 mb 800 b), (rf_RW ct 0 mf 958 g)] ++ ws) s.heap.size = A at hD hX ⊢
  have hA : ∀ q : Nat, s.heap.size ≤ q → A q := fun q h => by rw [← hAe]; exact Or.inr h
  have hS : va_S A s.heap s.heap [] := va_S.rf
  have hl := lv_entry ([.ref mo, .int p1, .int p2, .int p3]) (n := 6) (Nat.le_of_ble_eq_true rfl)
  rw [lg_entry_eq]
  generalize (lg_sl ([.ref mo, .int p1, .int p2, .int p3]) ++ List.replicate (6 - (lg_sl ([.ref mo, .int p1, .int p2, .int p3])).length) Slot.unset).toArray = ls at hl ⊢
  have hl : lv_has ls 6 [(0, .ref mo), (1, .int p1), (2, .int p2), (3, .int p3)] := hl
  subst hL
  subst hU
  refine lv_aload_n hx hb dX11_reads_0 rfl (lv_at hl 0 rfl) ?_
  obtain ⟨hP, hD⟩ := ty_opPD (E1 := [(rf_RW ct 0 mf 958 g)]) (E2 := [(rf_MO mo mw ma mf m0 m1 mu mv u0 u1 iz th mb mn mpt mbg mwr (0) mlf men), (rf_RW ct 0 mb 800 b)]) (n := 3) [2, 0, 1] hP hD rfl rfl (by decide +kernel) ty_mva
  refine ty_Ki hP hD hS hA (va_runV (As := []) (rest := []) ⟨hx, hb, hml, hown, hts⟩ (m_X11_see l D ct S ws ph xx mo mw ma mf m0 m1 mu mv u0 u1 iz mb th mn mpt mbg mwr (0 : Int32) mlf men b _ hT hph hy1 hmn (by omega)) (cm_V 0 hts kc_X11_see ki_RX11 kl_RX11_106 kv_X11_see kx_X11_see kd_X11_see ⟨Nat.le_of_ble_eq_true rfl, Nat.le_of_ble_eq_true rfl⟩) (ty_preE (ci := 11) (q0 := 1) hP hK hD hS hA hX rfl rfl) rfl rfl hl.1 rfl (lv_room (Nat.le_of_ble_eq_true rfl)) dX11_reads_1 ⟨Nat.le_of_ble_eq_true rfl, Nat.le_of_ble_eq_true rfl⟩) (fun r_1 u H locs hw_2 hP hD hS => ?_)
  obtain ⟨ws_3, rfl⟩ : ∃ z, z = u := ⟨_, rfl⟩
  obtain ⟨hT, rfl⟩ := hw_2
  obtain ⟨hP, hD⟩ := ty_shPD (w2 := ([(rf_RW ct 0 mf 958 g), (rf_MO mo mw ma mf m0 m1 mu mv u0 u1 iz th mb mn (rp_sk b mn mpt) (rp_sk b mn mpt) mwr (0) mlf men), (rf_RW ct 0 mb 800 b)] ++ ws_3)) hP hD rfl
  have hs_4 := rp_sk_b (b := b) (p := mpt) hmn.2 (by omega)
  refine lv_pop hx hb dX11_reads_4 rfl ?_
  refine lv_aload_n hx hb dX11_reads_5 rfl (lv_at hl 0 rfl) ?_
  refine lv_aload_n hx hb dX11_reads_6 rfl (lv_at hl 0 rfl) ?_
  refine va_get (v := .int (rp_sk b mn mpt)) (D := D) (ci := 11) (C := RX11) (T := TX11) (N := 19) hx hb hts in_X11 hown hK hP 1 rfl rfl 13 (by decide) (hts _ kl_RX11_78) (fun _ h9 => h9) rfl dX11_reads_7 ?_
  obtain ⟨hP, hD⟩ := ty_ipPD (E1 := [(rf_RW ct 0 mf 958 g)]) (E2 := [(rf_MO mo mw ma mf m0 m1 mu mv u0 u1 iz th mb mn (rp_sk b mn mpt) (rp_sk b mn mpt) mwr (0) mlf men), (rf_RW ct 0 mb 800 b)]) hP hD rfl ty_mva
  refine ty_Ki hP hD hS hA (va_runV (As := [.int (rp_sk b mn mpt)]) (rest := []) ⟨hx, hb, hml, hown, hts⟩ (m_X11_isDigit l D ct S ws_3 ph xx mo mw ma mf m0 m1 mu mv u0 u1 iz mb th mn (rp_sk b mn mpt) (rp_sk b mn mpt) mwr (0 : Int32) mlf men b (rp_sk b mn mpt) _ hT hph hy1 hmn (by omega)) (cm_V 1 hts kc_X11_isDigit ki_RX11 kl_RX11_109 kv_X11_isDigit kx_X11_isDigit kd_X11_isDigit ⟨Nat.le_of_ble_eq_true rfl, Nat.le_of_ble_eq_true rfl⟩) (ty_preE (ci := 11) (q0 := 1) hP hK hD hS hA hX rfl rfl) rfl rfl hl.1 rfl (lv_room (Nat.le_of_ble_eq_true rfl)) dX11_reads_10 ⟨Nat.le_of_ble_eq_true rfl, Nat.le_of_ble_eq_true rfl⟩) (fun r_5 u H locs hw_6 hP hD hS => ?_)
  obtain ⟨ws_7, rfl⟩ : ∃ z, z = u := ⟨_, rfl⟩
  obtain ⟨hT, rfl⟩ := hw_6
  obtain ⟨hP, hD⟩ := ty_shPD (w2 := ([(rf_RW ct 0 mf 958 g), (rf_MO mo mw ma mf m0 m1 mu mv u0 u1 iz th mb mn (rp_sk b mn mpt) (rp_sk b mn mpt) mwr (0) mlf men), (rf_RW ct 0 mb 800 b)] ++ ws_7)) hP hD rfl
  refine lv_if_ne (tgt := 22) hx hb dX11_reads_13 (by decide) (fun hc_8 => ?_) (fun hc_8 => ?_)
  · refine lv_lconst (v := 0) hx hb dX11_reads_22 (by decide) ?_
    refine lv_lstore (lv' := [(4, .long 0), (0, .ref mo), (1, .int p1), (2, .int p2), (3, .int p3)]) hx hb dX11_reads_23 hl (by decide) rfl (fun ls hl => ?_)
    refine ty_loop (I := fun μ H locs ls => ∃ (ws : va_W) (y_9 : Int64) (y_10 : Int32), μ = (2147483648 - y_10.toInt).toNat ∧ ty_V ct S ph ws ∧ va_P D vwCl ([(rf_RW ct 0 mf 958 g), (rf_MO mo mw ma mf m0 m1 mu mv u0 u1 iz th mb mn y_10 (rp_sk b mn mpt) mwr (0) mlf men), (rf_RW ct 0 mb 800 b)] ++ ws) H ∧ va_D A ([(rf_RW ct 0 mf 958 g), (rf_MO mo mw ma mf m0 m1 mu mv u0 u1 iz th mb mn y_10 (rp_sk b mn mpt) mwr (0) mlf men), (rf_RW ct 0 mb 800 b)] ++ ws) ∧ va_S A s.heap H locs ∧ lv_has ls 6 [(0, .ref mo), (1, .int p1), (2, .int p2), (3, .int p3), (4, .long y_9)] ∧ ((rp_sk b mn mpt).toInt ≤ y_10.toInt ∧ y_10.toInt ≤ mn.toInt) ∧ (0 ≤ y_9.toInt ∧ y_9.toInt ≤ 100000000) ∧ rp_de b mn (rp_sk b mn mpt) = rp_de b mn y_10 ∧ rp_num b mn (rp_sk b mn mpt) 0 = rp_num b mn y_10 y_9.toInt) ⟨_, ws_7, (0 : Int64), (rp_sk b mn mpt), rfl, hT, hP, hD, hS, (lv_sub hl [1, 2, 3, 4, 0] rfl), (by omega), (by decide), rfl, (by rw [show (0 : Int64).toInt = 0 from by decide])⟩ (fun μ H locs ls hI ih_25 => ?_)
    obtain ⟨ws, y_9, y_10, rfl, hT, hP, hD, hS, hl, hex_25⟩ := hI
    refine lv_aload_n hx hb dX11_reads_25 rfl (lv_at hl 0 rfl) ?_
    refine lv_aload_n hx hb dX11_reads_26 rfl (lv_at hl 0 rfl) ?_
    refine va_get (v := .int y_10) (D := D) (ci := 11) (C := RX11) (T := TX11) (N := 19) hx hb hts in_X11 hown hK hP 1 rfl rfl 13 (by decide) (hts _ kl_RX11_78) (fun _ h9 => h9) rfl dX11_reads_27 ?_
    obtain ⟨hP, hD⟩ := ty_ipPD (E1 := [(rf_RW ct 0 mf 958 g)]) (E2 := [(rf_MO mo mw ma mf m0 m1 mu mv u0 u1 iz th mb mn y_10 (rp_sk b mn mpt) mwr (0) mlf men), (rf_RW ct 0 mb 800 b)]) hP hD rfl ty_mva
    refine ty_Ki hP hD hS hA (va_runV (As := [.int y_10]) (rest := []) ⟨hx, hb, hml, hown, hts⟩ (m_X11_isDigit l D ct S ws ph xx mo mw ma mf m0 m1 mu mv u0 u1 iz mb th mn y_10 (rp_sk b mn mpt) mwr (0 : Int32) mlf men b y_10 _ hT hph hy1 hmn (by have := hex_25.1; omega)) (cm_V 1 hts kc_X11_isDigit ki_RX11 kl_RX11_109 kv_X11_isDigit kx_X11_isDigit kd_X11_isDigit ⟨Nat.le_of_ble_eq_true rfl, Nat.le_of_ble_eq_true rfl⟩) (ty_preE (ci := 11) (q0 := 1) hP hK hD hS hA hX rfl rfl) rfl rfl hl.1 rfl (lv_room (Nat.le_of_ble_eq_true rfl)) dX11_reads_30 ⟨Nat.le_of_ble_eq_true rfl, Nat.le_of_ble_eq_true rfl⟩) (fun r_11 u H locs hw_12 hP hD hS => ?_)
    obtain ⟨ws_13, rfl⟩ : ∃ z, z = u := ⟨_, rfl⟩
    obtain ⟨hT, rfl⟩ := hw_12
    obtain ⟨hP, hD⟩ := ty_shPD (w2 := ([(rf_RW ct 0 mf 958 g), (rf_MO mo mw ma mf m0 m1 mu mv u0 u1 iz th mb mn y_10 (rp_sk b mn mpt) mwr (0) mlf men), (rf_RW ct 0 mb 800 b)] ++ ws_13)) hP hD rfl
    refine lv_if_eq (tgt := 77) hx hb dX11_reads_33 (by decide) (fun hc_14 => ?_) (fun hc_14 => ?_)
    · have he_15 : rp_de b mn (rp_sk b mn mpt) = y_10 ∧ rp_num b mn (rp_sk b mn mpt) 0 = y_9.toInt := ⟨hex_25.2.2.1.trans (rp_toE (by have := hex_25.1; omega) (rm_digN hc_14)), hex_25.2.2.2.trans (rp_numE (by have := hex_25.1; omega) (rm_digN hc_14))⟩
      refine lv_lload hx hb dX11_reads_77 (lv_at hl 4 rfl) ?_
      refine lv_iload_n hx hb dX11_reads_79 rfl (lv_at hl 2 rfl) ?_
      refine lv_i2l hx hb dX11_reads_80 rfl ?_
      refine lv_iload_n hx hb dX11_reads_81 rfl (lv_at hl 3 rfl) ?_
      refine lv_i2l hx hb dX11_reads_82 rfl ?_
      obtain ⟨hP, hD⟩ := ty_ipPD (E1 := [(rf_RW ct 0 mf 958 g), (rf_MO mo mw ma mf m0 m1 mu mv u0 u1 iz th mb mn y_10 (rp_sk b mn mpt) mwr (0) mlf men), (rf_RW ct 0 mb 800 b)]) (E2 := []) hP hD rfl ty_mva
      refine ty_Ki hP hD hS hA (va_runS (As := [.long y_9, .long p2.toInt64, .long p3.toInt64]) (rest := []) ⟨hx, hb, hml, hown, hts⟩ (m_X11_in l D ct S ws_13 ph xx y_9 p2.toInt64 p3.toInt64 _ hT hph hy1) (cm_S 3 hts kc_X11_in ki_RX11 kl_RX11_70 ks_X11_in kd_X11_in ⟨Nat.le_of_ble_eq_true rfl, Nat.le_of_ble_eq_true rfl⟩) (ty_preS hP hK hD hS hA hX) rfl rfl hl.1 rfl (lv_room (Nat.le_of_ble_eq_true rfl)) dX11_reads_83 ⟨Nat.le_of_ble_eq_true rfl, Nat.le_of_ble_eq_true rfl⟩) (fun r_16 u H locs hw_17 hP hD hS => ?_)
      obtain ⟨ws_18, rfl⟩ : ∃ z, z = u := ⟨_, rfl⟩
      obtain ⟨hT, rfl⟩ := hw_17
      obtain ⟨hP, hD⟩ := ty_shPD (w2 := ([(rf_RW ct 0 mf 958 g), (rf_MO mo mw ma mf m0 m1 mu mv u0 u1 iz th mb mn y_10 (rp_sk b mn mpt) mwr (0) mlf men), (rf_RW ct 0 mb 800 b)] ++ ws_18)) hP hD rfl
      refine lv_if_ne (tgt := 95) hx hb dX11_reads_86 (by decide) (fun hc_19 => ?_) (fun hc_19 => ?_)
      · refine lv_aload_n hx hb dX11_reads_95 rfl (lv_at hl 0 rfl) ?_
        refine va_get (v := .ref mf) (D := D) (ci := 11) (C := RX11) (T := TX11) (N := 19) hx hb hts in_X11 hown hK hP 1 rfl rfl 2 (by decide) (hts _ kl_RX11_16) (fun _ h9 => h9) rfl dX11_reads_96 ?_
        refine lv_iload_n hx hb dX11_reads_99 rfl (lv_at hl 1 rfl) ?_
        refine lv_lload hx hb dX11_reads_100 (lv_at hl 4 rfl) ?_
        refine lv_l2i hx hb dX11_reads_102 rfl ?_
        refine va_iast hx hb hK hP hD hS 0 0 rfl rfl (rf_in1 hpl) dX11_reads_103 (fun H locs hP hD hS => ?_)
        have hP : va_P D vwCl ([(rf_RW ct 0 mf 958 (upd g p1.toNatClampNeg y_9.toInt32)), (rf_MO mo mw ma mf m0 m1 mu mv u0 u1 iz th mb mn y_10 (rp_sk b mn mpt) mwr (0) mlf men), (rf_RW ct 0 mb 800 b)] ++ ws_18) H := hP
        have hD : va_D A ([(rf_RW ct 0 mf 958 (upd g p1.toNatClampNeg y_9.toInt32)), (rf_MO mo mw ma mf m0 m1 mu mv u0 u1 iz th mb mn y_10 (rp_sk b mn mpt) mwr (0) mlf men), (rf_RW ct 0 mb 800 b)] ++ ws_18) := hD
        refine lv_iconst (v := 1) hx hb dX11_reads_104 (by decide) ?_
        obtain ⟨hP, hD⟩ := ty_ordPD (E2 := [(rf_MO mo mw ma mf m0 m1 mu mv u0 u1 iz th mb mn y_10 (rp_sk b mn mpt) mwr (0) mlf men), (rf_RW ct 0 mb 800 b), (rf_RW ct 0 mf 958 (upd g p1.toNatClampNeg y_9.toInt32))]) (n := 3) [1, 2, 0] hP hD rfl rfl (by decide +kernel)
        exact W.zret (v := 1) hx hb hr (by decide) (fun t ht hW => ⟨⟨1, (ws_18, y_10, mwr, (0 : Int32), (upd g p1.toNatClampNeg y_9.toInt32)), rfl, ⟨hT, ⟨(by have := hex_25.1; omega), Or.inr ⟨rfl, ⟨(rm_rd0 (rm_dig hc_8) hex_25.2.1 hc_19 he_15).1.1, rfl, (rm_rd0 (rm_dig hc_8) hex_25.2.1 hc_19 he_15).1.2⟩, _, (rm_rd0 (rm_dig hc_8) hex_25.2.1 hc_19 he_15).2.1, (rm_rd0 (rm_dig hc_8) hex_25.2.1 hc_19 he_15).2.2, rfl⟩⟩⟩, by rw [ht]; exact hP, by rw [hAe]; exact hD⟩, hS.F ht⟩) hS.2.2 dX11_reads_105
      · refine lv_aload_n hx hb dX11_reads_89 rfl (lv_at hl 0 rfl) ?_
        refine lv_iconst (v := 2) hx hb dX11_reads_90 (by decide) ?_
        obtain ⟨hP, hD⟩ := ty_opPD (E1 := [(rf_RW ct 0 mf 958 g), (rf_RW ct 0 mb 800 b)]) (E2 := [(rf_MO mo mw ma mf m0 m1 mu mv u0 u1 iz th mb mn y_10 (rp_sk b mn mpt) mwr (0) mlf men)]) (n := 3) [0, 2, 1] hP hD rfl rfl (by decide +kernel) ty_mva
        refine ty_Ki hP hD hS hA (va_runV (As := [.int 2]) (rest := []) ⟨hx, hb, hml, hown, hts⟩ (m_X11_fails l D ct S ws_18 ph xx mo mw ma mf m0 m1 mu mv u0 u1 iz mb th mn y_10 (rp_sk b mn mpt) mwr mlf men (2 : Int32) _ hT hph hy1) (cm_V 1 hts kc_X11_fails ki_RX11 kl_RX11_112 kv_X11_fails kx_X11_fails kd_X11_fails ⟨Nat.le_of_ble_eq_true rfl, Nat.le_of_ble_eq_true rfl⟩) (ty_preE (ci := 11) (q0 := 2) hP hK hD hS hA hX rfl rfl) rfl rfl hl.1 rfl (lv_room (Nat.le_of_ble_eq_true rfl)) dX11_reads_91 ⟨Nat.le_of_ble_eq_true rfl, Nat.le_of_ble_eq_true rfl⟩) (fun r_20 u H locs hw_21 hP hD hS => ?_)
        obtain ⟨ws_22, rfl⟩ : ∃ z, z = u := ⟨_, rfl⟩
        obtain ⟨hT, rfl⟩ := hw_21
        obtain ⟨hP, hD⟩ := ty_shPD (w2 := ([(rf_RW ct 0 mf 958 g), (rf_RW ct 0 mb 800 b), (rf_MO mo mw ma mf m0 m1 mu mv u0 u1 iz th mb mn y_10 (rp_sk b mn mpt) (rp_sk b mn mpt) (2) mlf men)] ++ ws_22)) hP hD rfl
        obtain ⟨hP, hD⟩ := ty_ordPD (E2 := [(rf_MO mo mw ma mf m0 m1 mu mv u0 u1 iz th mb mn y_10 (rp_sk b mn mpt) (rp_sk b mn mpt) (2) mlf men), (rf_RW ct 0 mb 800 b), (rf_RW ct 0 mf 958 g)]) (n := 3) [2, 1, 0] hP hD rfl rfl (by decide +kernel)
        exact W.zret (v := 0) hx hb hr (by decide) (fun t ht hW => ⟨⟨0, (ws_22, y_10, (rp_sk b mn mpt), (2 : Int32), g), rfl, ⟨hT, ⟨(by have := hex_25.1; omega), Or.inl ⟨rfl, rm_rd2 (rm_dig hc_8) hc_19 he_15.2⟩⟩⟩, by rw [ht]; exact hP, by rw [hAe]; exact hD⟩, hS.F ht⟩) hS.2.2 dX11_reads_94
    · refine lv_ldc2 hx hb hown (hts _ kl_RX11_115) dX11_reads_36 ?_
      refine lv_ldc2 hx hb hown (hts _ kl_RX11_117) dX11_reads_39 ?_
      refine lv_lload hx hb dX11_reads_42 (lv_at hl 4 rfl) ?_
      refine lv_lmul hx hb dX11_reads_44 ?_
      refine lv_aload_n hx hb dX11_reads_45 rfl (lv_at hl 0 rfl) ?_
      refine lv_aload_n hx hb dX11_reads_46 rfl (lv_at hl 0 rfl) ?_
      refine va_get (v := .int y_10) (D := D) (ci := 11) (C := RX11) (T := TX11) (N := 19) hx hb hts in_X11 hown hK hP 1 rfl rfl 13 (by decide) (hts _ kl_RX11_78) (fun _ h9 => h9) rfl dX11_reads_47 ?_
      obtain ⟨hP, hD⟩ := ty_ipPD (E1 := [(rf_RW ct 0 mf 958 g)]) (E2 := [(rf_MO mo mw ma mf m0 m1 mu mv u0 u1 iz th mb mn y_10 (rp_sk b mn mpt) mwr (0) mlf men), (rf_RW ct 0 mb 800 b)]) hP hD rfl ty_mva
      refine ty_Ki hP hD hS hA (va_runV (As := [.int y_10]) (rest := [.long (10 * y_9), .long 100000000]) ⟨hx, hb, hml, hown, hts⟩ (m_X11_byteAt l D ct S ws_13 ph xx mo mw ma mf m0 m1 mu mv u0 u1 iz mb th mn y_10 (rp_sk b mn mpt) mwr (0 : Int32) mlf men b y_10 _ hT hph hy1 hmn (by have := hex_25.1; omega)) (cm_V 1 hts kc_X11_byteAt ki_RX11 kl_RX11_62 kv_X11_byteAt kx_X11_byteAt kd_X11_byteAt ⟨Nat.le_of_ble_eq_true rfl, Nat.le_of_ble_eq_true rfl⟩) (ty_preE (ci := 11) (q0 := 1) hP hK hD hS hA hX rfl rfl) rfl rfl hl.1 rfl (lv_room (Nat.le_of_ble_eq_true rfl)) dX11_reads_50 ⟨Nat.le_of_ble_eq_true rfl, Nat.le_of_ble_eq_true rfl⟩) (fun r_23 u H locs hw_24 hP hD hS => ?_)
      obtain ⟨ws_25, rfl⟩ : ∃ z, z = u := ⟨_, rfl⟩
      obtain ⟨hT, rfl⟩ := hw_24
      obtain ⟨hP, hD⟩ := ty_shPD (w2 := ([(rf_RW ct 0 mf 958 g), (rf_MO mo mw ma mf m0 m1 mu mv u0 u1 iz th mb mn y_10 (rp_sk b mn mpt) mwr (0) mlf men), (rf_RW ct 0 mb 800 b)] ++ ws_25)) hP hD rfl
      refine lv_i2l hx hb dX11_reads_53 rfl ?_
      refine lv_ladd hx hb dX11_reads_54 ?_
      refine lv_ldc2 hx hb hown (hts _ kl_RX11_74) dX11_reads_55 ?_
      refine lv_lsub hx hb dX11_reads_58 ?_
      refine va_mmin_long hx hb (hml.trans hl.1.symm) hown (hts _ kl_RX11_119) (hts _ jm_min_long_s) (hts _ ki_RJ9) (hts _ jm_min_long_c) (Nat.le_of_ble_eq_true rfl) (Nat.le_of_ble_eq_true rfl) (Nat.le_of_ble_eq_true rfl) (Nat.le_of_ble_eq_true rfl) dX11_reads_59 ?_
      refine lv_lstore (lv' := [(4, .long (if (((10 * y_9) + ((rf_bt b mn y_10).toInt64)) - 48) < 100000000 then (((10 * y_9) + ((rf_bt b mn y_10).toInt64)) - 48) else 100000000)), (0, .ref mo), (1, .int p1), (2, .int p2), (3, .int p3)]) hx hb dX11_reads_62 hl (by decide) rfl (fun ls hl => ?_)
      refine lv_aload_n hx hb dX11_reads_64 rfl (lv_at hl 1 rfl) ?_
      refine lv_dup hx hb dX11_reads_65 rfl ?_
      refine va_get (v := .int y_10) (D := D) (ci := 11) (C := RX11) (T := TX11) (N := 19) hx hb hts in_X11 hown hK hP 1 rfl rfl 13 (by decide) (hts _ kl_RX11_78) (fun _ h9 => h9) rfl dX11_reads_66 ?_
      refine lv_iconst (v := 1) hx hb dX11_reads_69 (by decide) ?_
      refine lv_iadd hx hb dX11_reads_70 ?_
      refine va_put (v := .int (y_10 + 1)) (ty := .int) (D := D) (ci := 11) (C := RX11) (T := TX11) (N := 19) hx hb hts in_X11 tyX11 tyX11_ok nmX11 hown hK hP hD hS 1 rfl rfl 13 (by decide) (hts _ kl_RX11_78) (fun _ h9 => h9) rfl (by decide +kernel) rfl rfl (Nat.le_of_ble_eq_true rfl) dX11_reads_71 (fun H locs hP hD hS => ?_)
      have hP : va_P D vwCl ([(rf_RW ct 0 mf 958 g), (rf_MO mo mw ma mf m0 m1 mu mv u0 u1 iz th mb mn (y_10 + 1) (rp_sk b mn mpt) mwr (0) mlf men), (rf_RW ct 0 mb 800 b)] ++ ws_25) H := hP
      have hD : va_D A ([(rf_RW ct 0 mf 958 g), (rf_MO mo mw ma mf m0 m1 mu mv u0 u1 iz th mb mn (y_10 + 1) (rp_sk b mn mpt) mwr (0) mlf men), (rf_RW ct 0 mb 800 b)] ++ ws_25) := hD
      refine lv_goto (tgt := 25) hx hb dX11_reads_74 (by decide) ?_
      exact ih_25 _ _ _ _ (ty_inc1 (rf_tlt (N := mn) (rf_btr (by decide) hc_14))) ⟨ws_25, (if (((10 * y_9) + ((rf_bt b mn y_10).toInt64)) - 48) < 100000000 then (((10 * y_9) + ((rf_bt b mn y_10).toInt64)) - 48) else 100000000), (y_10 + 1), rfl, hT, hP, hD, hS, (lv_sub hl [1, 2, 3, 4, 0] rfl), (by have := hex_25.1; have := rf_btr (by decide) hc_14; have e := rf_p1 (x := y_10) (by omega); omega), (by have e := rm_sum hex_25.2.1 (rm_digB (rm_dig hc_14)); rw [e]; have := rm_digB (rm_dig hc_14); have := hex_25.2.1; omega), hex_25.2.2.1.trans (rp_toS (by have := hex_25.1; omega) (rm_dig hc_14)), (by rw [hex_25.2.2.2, rp_numS (by have := hex_25.1; omega) (rm_dig hc_14)]; exact congrArg _ (rm_sum hex_25.2.1 (rm_digB (rm_dig hc_14))).symm)⟩
  · refine lv_aload_n hx hb dX11_reads_16 rfl (lv_at hl 0 rfl) ?_
    refine lv_iconst (v := 1) hx hb dX11_reads_17 (by decide) ?_
    obtain ⟨hP, hD⟩ := ty_opPD (E1 := [(rf_RW ct 0 mf 958 g), (rf_RW ct 0 mb 800 b)]) (E2 := [(rf_MO mo mw ma mf m0 m1 mu mv u0 u1 iz th mb mn (rp_sk b mn mpt) (rp_sk b mn mpt) mwr (0) mlf men)]) (n := 3) [0, 2, 1] hP hD rfl rfl (by decide +kernel) ty_mva
    refine ty_Ki hP hD hS hA (va_runV (As := [.int 1]) (rest := []) ⟨hx, hb, hml, hown, hts⟩ (m_X11_fails l D ct S ws_7 ph xx mo mw ma mf m0 m1 mu mv u0 u1 iz mb th mn (rp_sk b mn mpt) (rp_sk b mn mpt) mwr mlf men (1 : Int32) _ hT hph hy1) (cm_V 1 hts kc_X11_fails ki_RX11 kl_RX11_112 kv_X11_fails kx_X11_fails kd_X11_fails ⟨Nat.le_of_ble_eq_true rfl, Nat.le_of_ble_eq_true rfl⟩) (ty_preE (ci := 11) (q0 := 2) hP hK hD hS hA hX rfl rfl) rfl rfl hl.1 rfl (lv_room (Nat.le_of_ble_eq_true rfl)) dX11_reads_18 ⟨Nat.le_of_ble_eq_true rfl, Nat.le_of_ble_eq_true rfl⟩) (fun r_26 u H locs hw_27 hP hD hS => ?_)
    obtain ⟨ws_28, rfl⟩ : ∃ z, z = u := ⟨_, rfl⟩
    obtain ⟨hT, rfl⟩ := hw_27
    obtain ⟨hP, hD⟩ := ty_shPD (w2 := ([(rf_RW ct 0 mf 958 g), (rf_RW ct 0 mb 800 b), (rf_MO mo mw ma mf m0 m1 mu mv u0 u1 iz th mb mn (rp_sk b mn mpt) (rp_sk b mn mpt) (rp_sk b mn mpt) (1) mlf men)] ++ ws_28)) hP hD rfl
    obtain ⟨hP, hD⟩ := ty_ordPD (E2 := [(rf_MO mo mw ma mf m0 m1 mu mv u0 u1 iz th mb mn (rp_sk b mn mpt) (rp_sk b mn mpt) (rp_sk b mn mpt) (1) mlf men), (rf_RW ct 0 mb 800 b), (rf_RW ct 0 mf 958 g)]) (n := 3) [2, 1, 0] hP hD rfl rfl (by decide +kernel)
    exact W.zret (v := 0) hx hb hr (by decide) (fun t ht hW => ⟨⟨0, (ws_28, (rp_sk b mn mpt), (rp_sk b mn mpt), (1 : Int32), g), rfl, ⟨hT, ⟨by omega, Or.inl ⟨rfl, rm_rd1 (rm_digN hc_8)⟩⟩⟩, by rw [ht]; exact hP, by rw [hAe]; exact hD⟩, hS.F ht⟩) hS.2.2 dX11_reads_21
set_option maxRecDepth 100000 in
set_option maxHeartbeats 4000000 in
theorem m_isNamed_v (l : Launch) (D : va_G) (ct : Nat → ClassId) (S : ty_S) (ws : va_W) (ph : va_W → Prop) (xx : Nat → Nat → Nat → Prop) (mo : Nat) (mw : Nat) (ma : Nat) (mf : Nat) (m0 : Nat) (m1 : Nat) (mu : Nat) (mv : Nat) (u0 : Nat) (u1 : Nat) (iz : Nat) (mb : Nat) (th : Int32) (mn : Int32) (mpt : Int32) (mbg : Int32) (mwr : Int32) (mwk : Int32) (mlf : Int32) (men : Int32) (b : Nat → Int32) (p1 : Nat) (p2 : Int32) (p3 : Int32) (p4 : Int32) (g : Nat → Int32) (wN : List Int32) (sz : Nat) (hT : ty_V ct S ph ws) (hph : ty_C ph xx) (hy1 : ty_y1 xx) (hcv : 0 ≤ p2.toInt ∧ p2.toInt < 4) (hfm : 0 ≤ p3.toInt ∧ p3.toInt ≤ 800 ∧ p3.toInt + p4.toInt ≤ 800) (hW : rm_W g p2.toInt.toNat wN) (hWl : 1 ≤ wN.length ∧ wN.length ≤ 6) : Met l yX11_isNamed (ws_ yX11_isNamed cX11_isNamed 8 (some .boolean)) ({ frames := 0, cells := 0, slots := 0, locals := 0 } : Room) (va_Pc [.ref mo, .ref p1, .int p2, .int p3, .int p4] (cmP D ct sz ([(rf_MO mo mw ma mf m0 m1 mu mv u0 u1 iz th mb mn mpt mbg mwr mwk mlf men), (rf_RW ct 0 mb 800 b), (rf_RW ct 0 p1 958 g)] ++ ws))) (va_Qi (fun (r : Int32) (u9 : va_W) => ty_V ct S ph u9 ∧ ((r = 0 ∧ ¬ rm_w b p3 p4 = wN) ∨ (r = 1 ∧ rm_w b p3 p4 = wN))) (cmB D ([(rf_MO mo mw ma mf m0 m1 mu mv u0 u1 iz th mb mn mpt mbg mwr mwk mlf men), (rf_RW ct 0 mb 800 b), (rf_RW ct 0 p1 958 g)] ++ ws) sz (fun (u9 : va_W) => ([(rf_MO mo mw ma mf m0 m1 mu mv u0 u1 iz th mb mn mpt mbg mwr mwk mlf men), (rf_RW ct 0 mb 800 b), (rf_RW ct 0 p1 958 g)] ++ u9))) (va_A ([(rf_MO mo mw ma mf m0 m1 mu mv u0 u1 iz th mb mn mpt mbg mwr mwk mlf men), (rf_RW ct 0 mb 800 b), (rf_RW ct 0 p1 958 g)] ++ ws) sz)) 0 0 (va_A ([(rf_MO mo mw ma mf m0 m1 mu mv u0 u1 iz th mb mn mpt mbg mwr mwk mlf men), (rf_RW ct 0 mb 800 b), (rf_RW ct 0 p1 958 g)] ++ ws) sz) := by
  refine Met.ofW (cc := cX11_isNamed) (maxL := 8) (ret := (some .boolean)) (by decide) rfl ?_
  intro p e s m args below meth c s₁ B hml hv
  obtain ⟨rfl, hsz, hP, hK, hD0, hX⟩ := hv
  have hx := B.exec
  have hb := B.bytes
  have hr := B.returns
  have hts := ws_all (atoms_spec (ws := ws_ yX11_isNamed cX11_isNamed 8 (some .boolean)) B.pre)
  have hown : s.vm.findClass RX11 = some m.cls := findClass_of_methodNamed B.named
  have hlocks := B.notSynchronized
  subst hsz
  have hD := hD0.self (sz := s.heap.size)
  generalize hAe : va_A ([(rf_MO mo mw ma mf m0 m1 mu mv u0 u1 iz th mb mn mpt mbg mwr mwk mlf men), (rf_RW ct 0 mb 800 b), (rf_RW ct 0 p1 958 g)] ++ ws) s.heap.size = A at hD hX ⊢
  have hA : ∀ q : Nat, s.heap.size ≤ q → A q := fun q h => by rw [← hAe]; exact Or.inr h
  have hS : va_S A s.heap s.heap [] := va_S.rf
  have hl := lv_entry ([.ref mo, .ref p1, .int p2, .int p3, .int p4]) (n := 8) (Nat.le_of_ble_eq_true rfl)
  rw [lg_entry_eq]
  generalize (lg_sl ([.ref mo, .ref p1, .int p2, .int p3, .int p4]) ++ List.replicate (8 - (lg_sl ([.ref mo, .ref p1, .int p2, .int p3, .int p4])).length) Slot.unset).toArray = ls at hl ⊢
  have hl : lv_has ls 8 [(0, .ref mo), (1, .ref p1), (2, .int p2), (3, .int p3), (4, .int p4)] := hl
  refine lv_bipush (v := 20) hx hb dX11_isNamed_0 (by decide) ?_
  refine lv_bipush (v := 19) hx hb dX11_isNamed_2 (by decide) ?_
  refine lv_iload_n hx hb dX11_isNamed_4 rfl (lv_at hl 2 rfl) ?_
  refine lv_imul hx hb dX11_isNamed_5 ?_
  refine lv_iadd hx hb dX11_isNamed_6 ?_
  refine lv_istore (lv' := [(5, .int (20 + (19 * p2))), (0, .ref mo), (1, .ref p1), (2, .int p2), (3, .int p3), (4, .int p4)]) hx hb dX11_isNamed_7 hl (by decide) rfl (fun ls hl => ?_)
  refine lv_iload hx hb dX11_isNamed_9 (lv_at hl 5 rfl) ?_
  refine lv_if_le (tgt := 34) hx hb dX11_isNamed_11 (by decide) (fun hc_1 => ?_) (fun hc_1 => ?_)
  · refine lv_iconst (v := 0) hx hb dX11_isNamed_34 (by decide) ?_
    refine lv_istore (lv' := [(6, .int 0), (5, .int (20 + (19 * p2))), (0, .ref mo), (1, .ref p1), (2, .int p2), (3, .int p3), (4, .int p4)]) hx hb dX11_isNamed_35 hl (by decide) rfl (fun ls hl => ?_)
    refine lv_iconst (v := 0) hx hb dX11_isNamed_37 (by decide) ?_
    refine lv_istore (lv' := [(7, .int 0), (6, .int 0), (5, .int (20 + (19 * p2))), (0, .ref mo), (1, .ref p1), (2, .int p2), (3, .int p3), (4, .int p4)]) hx hb dX11_isNamed_38 hl (by decide) rfl (fun ls hl => ?_)
    refine ty_loop (I := fun μ H locs ls => ∃ (ws : va_W) (y_2 : Int32) (y_3 : Int32), μ = (2147483648 - y_3.toInt).toNat ∧ ty_V ct S ph ws ∧ va_P D vwCl ([(rf_MO mo mw ma mf m0 m1 mu mv u0 u1 iz th mb mn mpt mbg mwr mwk mlf men), (rf_RW ct 0 mb 800 b), (rf_RW ct 0 p1 958 g)] ++ ws) H ∧ va_D A ([(rf_MO mo mw ma mf m0 m1 mu mv u0 u1 iz th mb mn mpt mbg mwr mwk mlf men), (rf_RW ct 0 mb 800 b), (rf_RW ct 0 p1 958 g)] ++ ws) ∧ va_S A s.heap H locs ∧ lv_has ls 8 [(0, .ref mo), (1, .ref p1), (2, .int p2), (3, .int p3), (4, .int p4), (5, .int (20 + (19 * p2))), (6, .int y_2), (7, .int y_3)] ∧ 0 ≤ y_3.toInt ∧ rm_is b p3 p4 wN y_2 y_3) ⟨_, ws, (0 : Int32), (0 : Int32), rfl, hT, hP, hD, hS, (lv_sub hl [3, 4, 5, 6, 7, 2, 1, 0] rfl), (by decide), rm_isC hWl (Or.inl (by have := hc_1; rw [Int32.le_iff_toInt_le, show (0 : Int32).toInt = 0 from by decide] at this; exact this))⟩ (fun μ H locs ls hI ih_40 => ?_)
    obtain ⟨ws, y_2, y_3, rfl, hT, hP, hD, hS, hl, hex_40⟩ := hI
    refine lv_iload hx hb dX11_isNamed_40 (lv_at hl 6 rfl) ?_
    refine lv_if_eq (tgt := 86) hx hb dX11_isNamed_42 (by decide) (fun hc_4 => ?_) (fun hc_4 => ?_)
    · refine lv_iload hx hb dX11_isNamed_86 (lv_at hl 6 rfl) ?_
      exact W.zret (v := y_2) hx hb hr (rf_z01 (hex_40.2.elim (fun q => Or.inl q.1) (fun q => Or.inr q.1))) (fun t ht hW => ⟨⟨y_2, ws, rfl, ⟨hT, (rm_ise hex_40.2 (Or.inl hc_4))⟩, by rw [ht]; exact hP, by rw [hAe]; exact hD⟩, hS.F ht⟩) hS.2.2 dX11_isNamed_88
    · refine lv_iload hx hb dX11_isNamed_45 (lv_at hl 7 rfl) ?_
      refine lv_iload hx hb dX11_isNamed_47 (lv_at hl 4 rfl) ?_
      refine lv_icmp_ge (tgt := 86) hx hb dX11_isNamed_49 (by decide) (fun hc_5 => ?_) (fun hc_5 => ?_)
      · refine lv_iload hx hb dX11_isNamed_86 (lv_at hl 6 rfl) ?_
        exact W.zret (v := y_2) hx hb hr (rf_z01 (hex_40.2.elim (fun q => Or.inl q.1) (fun q => Or.inr q.1))) (fun t ht hW => ⟨⟨y_2, ws, rfl, ⟨hT, (rm_ise hex_40.2 (Or.inr (Int32.le_iff_toInt_le.mp hc_5)))⟩, by rw [ht]; exact hP, by rw [hAe]; exact hD⟩, hS.F ht⟩) hS.2.2 dX11_isNamed_88
      · refine lv_aload_n hx hb dX11_isNamed_52 rfl (lv_at hl 1 rfl) ?_
        refine lv_iload hx hb dX11_isNamed_53 (lv_at hl 5 rfl) ?_
        refine lv_iconst (v := 1) hx hb dX11_isNamed_55 (by decide) ?_
        refine lv_iadd hx hb dX11_isNamed_56 ?_
        refine lv_iload hx hb dX11_isNamed_57 (lv_at hl 7 rfl) ?_
        refine lv_iadd hx hb dX11_isNamed_59 ?_
        refine va_iald hx hb hK hP 2 0 rfl rfl (rf_vin (by have := rm_isX hcv hfm hWl hex_40.2 hc_4 hex_40.1 hc_5; have := hex_40.1; omega)) dX11_isNamed_60 ?_
        refine lv_aload_n hx hb dX11_isNamed_61 rfl (lv_at hl 0 rfl) ?_
        refine va_get (v := .ref mb) (D := D) (ci := 11) (C := RX11) (T := TX11) (N := 19) hx hb hts in_X11 hown hK hP 0 rfl rfl 11 (by decide) (hts _ kl_RX11_42) (fun _ h9 => h9) rfl dX11_isNamed_62 ?_
        refine lv_iload_n hx hb dX11_isNamed_65 rfl (lv_at hl 3 rfl) ?_
        refine lv_iload hx hb dX11_isNamed_66 (lv_at hl 7 rfl) ?_
        refine lv_iadd hx hb dX11_isNamed_68 ?_
        refine va_iald hx hb hK hP 1 0 rfl rfl (rf_vin (by have := rm_isX hcv hfm hWl hex_40.2 hc_4 hex_40.1 hc_5; have := hex_40.1; omega)) dX11_isNamed_69 ?_
        refine lv_icmp_ne (tgt := 77) hx hb dX11_isNamed_70 (by decide) (fun hc_6 => ?_) (fun hc_6 => ?_)
        · refine lv_iconst (v := 0) hx hb dX11_isNamed_77 (by decide) ?_
          refine lv_istore (lv' := [(6, .int 0), (0, .ref mo), (1, .ref p1), (2, .int p2), (3, .int p3), (4, .int p4), (5, .int (20 + (19 * p2))), (7, .int y_3)]) hx hb dX11_isNamed_78 hl (by decide) rfl (fun ls hl => ?_)
          refine lv_iinc (v := (y_3 + Int32.ofInt 1)) (lv' := [(7, .int (y_3 + Int32.ofInt 1)), (6, .int 0), (0, .ref mo), (1, .ref p1), (2, .int p2), (3, .int p3), (4, .int p4), (5, .int (20 + (19 * p2)))]) hx hb dX11_isNamed_80 hl (k := 7) rfl rfl (by decide) rfl (fun ls hl => ?_)
          refine lv_goto (tgt := 40) hx hb dX11_isNamed_83 (by decide) ?_
          exact ih_40 _ _ _ _ (ty_inc (cm_lt hc_5)) ⟨ws, (0 : Int32), (y_3 + Int32.ofInt 1), rfl, hT, hP, hD, hS, (lv_sub hl [2, 3, 4, 5, 6, 7, 1, 0] rfl), ty_nn hex_40.1 (cm_lt hc_5), rm_isN hcv hfm hW hWl hex_40.2 hc_4 hex_40.1 hc_5 hc_6⟩
        · refine lv_iconst (v := 1) hx hb dX11_isNamed_73 (by decide) ?_
          refine lv_goto (tgt := 78) hx hb dX11_isNamed_74 (by decide) ?_
          refine lv_istore (lv' := [(6, .int 1), (0, .ref mo), (1, .ref p1), (2, .int p2), (3, .int p3), (4, .int p4), (5, .int (20 + (19 * p2))), (7, .int y_3)]) hx hb dX11_isNamed_78 hl (by decide) rfl (fun ls hl => ?_)
          refine lv_iinc (v := (y_3 + Int32.ofInt 1)) (lv' := [(7, .int (y_3 + Int32.ofInt 1)), (6, .int 1), (0, .ref mo), (1, .ref p1), (2, .int p2), (3, .int p3), (4, .int p4), (5, .int (20 + (19 * p2)))]) hx hb dX11_isNamed_80 hl (k := 7) rfl rfl (by decide) rfl (fun ls hl => ?_)
          refine lv_goto (tgt := 40) hx hb dX11_isNamed_83 (by decide) ?_
          exact ih_40 _ _ _ _ (ty_inc (cm_lt hc_5)) ⟨ws, (1 : Int32), (y_3 + Int32.ofInt 1), rfl, hT, hP, hD, hS, (lv_sub hl [2, 3, 4, 5, 6, 7, 1, 0] rfl), ty_nn hex_40.1 (cm_lt hc_5), rm_isY hcv hfm hW hWl hex_40.2 hc_4 hex_40.1 hc_5 hc_6⟩
  · refine lv_iload hx hb dX11_isNamed_14 (lv_at hl 5 rfl) ?_
    refine lv_bipush (v := 6) hx hb dX11_isNamed_16 (by decide) ?_
    refine lv_icmp_gt (tgt := 34) hx hb dX11_isNamed_18 (by decide) (fun hc_7 => ?_) (fun hc_7 => ?_)
    · refine lv_iconst (v := 0) hx hb dX11_isNamed_34 (by decide) ?_
      refine lv_istore (lv' := [(6, .int 0), (5, .int (20 + (19 * p2))), (0, .ref mo), (1, .ref p1), (2, .int p2), (3, .int p3), (4, .int p4)]) hx hb dX11_isNamed_35 hl (by decide) rfl (fun ls hl => ?_)
      refine lv_iconst (v := 0) hx hb dX11_isNamed_37 (by decide) ?_
      refine lv_istore (lv' := [(7, .int 0), (6, .int 0), (5, .int (20 + (19 * p2))), (0, .ref mo), (1, .ref p1), (2, .int p2), (3, .int p3), (4, .int p4)]) hx hb dX11_isNamed_38 hl (by decide) rfl (fun ls hl => ?_)
      refine ty_loop (I := fun μ H locs ls => ∃ (ws : va_W) (y_8 : Int32) (y_9 : Int32), μ = (2147483648 - y_9.toInt).toNat ∧ ty_V ct S ph ws ∧ va_P D vwCl ([(rf_MO mo mw ma mf m0 m1 mu mv u0 u1 iz th mb mn mpt mbg mwr mwk mlf men), (rf_RW ct 0 mb 800 b), (rf_RW ct 0 p1 958 g)] ++ ws) H ∧ va_D A ([(rf_MO mo mw ma mf m0 m1 mu mv u0 u1 iz th mb mn mpt mbg mwr mwk mlf men), (rf_RW ct 0 mb 800 b), (rf_RW ct 0 p1 958 g)] ++ ws) ∧ va_S A s.heap H locs ∧ lv_has ls 8 [(0, .ref mo), (1, .ref p1), (2, .int p2), (3, .int p3), (4, .int p4), (5, .int (20 + (19 * p2))), (6, .int y_8), (7, .int y_9)] ∧ 0 ≤ y_9.toInt ∧ rm_is b p3 p4 wN y_8 y_9) ⟨_, ws, (0 : Int32), (0 : Int32), rfl, hT, hP, hD, hS, (lv_sub hl [3, 4, 5, 6, 7, 2, 1, 0] rfl), (by decide), rm_isC hWl (Or.inr (rm_gt6 hc_7))⟩ (fun μ H locs ls hI ih_40 => ?_)
      obtain ⟨ws, y_8, y_9, rfl, hT, hP, hD, hS, hl, hex_40⟩ := hI
      refine lv_iload hx hb dX11_isNamed_40 (lv_at hl 6 rfl) ?_
      refine lv_if_eq (tgt := 86) hx hb dX11_isNamed_42 (by decide) (fun hc_10 => ?_) (fun hc_10 => ?_)
      · refine lv_iload hx hb dX11_isNamed_86 (lv_at hl 6 rfl) ?_
        exact W.zret (v := y_8) hx hb hr (rf_z01 (hex_40.2.elim (fun q => Or.inl q.1) (fun q => Or.inr q.1))) (fun t ht hW => ⟨⟨y_8, ws, rfl, ⟨hT, (rm_ise hex_40.2 (Or.inl hc_10))⟩, by rw [ht]; exact hP, by rw [hAe]; exact hD⟩, hS.F ht⟩) hS.2.2 dX11_isNamed_88
      · refine lv_iload hx hb dX11_isNamed_45 (lv_at hl 7 rfl) ?_
        refine lv_iload hx hb dX11_isNamed_47 (lv_at hl 4 rfl) ?_
        refine lv_icmp_ge (tgt := 86) hx hb dX11_isNamed_49 (by decide) (fun hc_11 => ?_) (fun hc_11 => ?_)
        · refine lv_iload hx hb dX11_isNamed_86 (lv_at hl 6 rfl) ?_
          exact W.zret (v := y_8) hx hb hr (rf_z01 (hex_40.2.elim (fun q => Or.inl q.1) (fun q => Or.inr q.1))) (fun t ht hW => ⟨⟨y_8, ws, rfl, ⟨hT, (rm_ise hex_40.2 (Or.inr (Int32.le_iff_toInt_le.mp hc_11)))⟩, by rw [ht]; exact hP, by rw [hAe]; exact hD⟩, hS.F ht⟩) hS.2.2 dX11_isNamed_88
        · refine lv_aload_n hx hb dX11_isNamed_52 rfl (lv_at hl 1 rfl) ?_
          refine lv_iload hx hb dX11_isNamed_53 (lv_at hl 5 rfl) ?_
          refine lv_iconst (v := 1) hx hb dX11_isNamed_55 (by decide) ?_
          refine lv_iadd hx hb dX11_isNamed_56 ?_
          refine lv_iload hx hb dX11_isNamed_57 (lv_at hl 7 rfl) ?_
          refine lv_iadd hx hb dX11_isNamed_59 ?_
          refine va_iald hx hb hK hP 2 0 rfl rfl (rf_vin (by have := rm_isX hcv hfm hWl hex_40.2 hc_10 hex_40.1 hc_11; have := hex_40.1; omega)) dX11_isNamed_60 ?_
          refine lv_aload_n hx hb dX11_isNamed_61 rfl (lv_at hl 0 rfl) ?_
          refine va_get (v := .ref mb) (D := D) (ci := 11) (C := RX11) (T := TX11) (N := 19) hx hb hts in_X11 hown hK hP 0 rfl rfl 11 (by decide) (hts _ kl_RX11_42) (fun _ h9 => h9) rfl dX11_isNamed_62 ?_
          refine lv_iload_n hx hb dX11_isNamed_65 rfl (lv_at hl 3 rfl) ?_
          refine lv_iload hx hb dX11_isNamed_66 (lv_at hl 7 rfl) ?_
          refine lv_iadd hx hb dX11_isNamed_68 ?_
          refine va_iald hx hb hK hP 1 0 rfl rfl (rf_vin (by have := rm_isX hcv hfm hWl hex_40.2 hc_10 hex_40.1 hc_11; have := hex_40.1; omega)) dX11_isNamed_69 ?_
          refine lv_icmp_ne (tgt := 77) hx hb dX11_isNamed_70 (by decide) (fun hc_12 => ?_) (fun hc_12 => ?_)
          · refine lv_iconst (v := 0) hx hb dX11_isNamed_77 (by decide) ?_
            refine lv_istore (lv' := [(6, .int 0), (0, .ref mo), (1, .ref p1), (2, .int p2), (3, .int p3), (4, .int p4), (5, .int (20 + (19 * p2))), (7, .int y_9)]) hx hb dX11_isNamed_78 hl (by decide) rfl (fun ls hl => ?_)
            refine lv_iinc (v := (y_9 + Int32.ofInt 1)) (lv' := [(7, .int (y_9 + Int32.ofInt 1)), (6, .int 0), (0, .ref mo), (1, .ref p1), (2, .int p2), (3, .int p3), (4, .int p4), (5, .int (20 + (19 * p2)))]) hx hb dX11_isNamed_80 hl (k := 7) rfl rfl (by decide) rfl (fun ls hl => ?_)
            refine lv_goto (tgt := 40) hx hb dX11_isNamed_83 (by decide) ?_
            exact ih_40 _ _ _ _ (ty_inc (cm_lt hc_11)) ⟨ws, (0 : Int32), (y_9 + Int32.ofInt 1), rfl, hT, hP, hD, hS, (lv_sub hl [2, 3, 4, 5, 6, 7, 1, 0] rfl), ty_nn hex_40.1 (cm_lt hc_11), rm_isN hcv hfm hW hWl hex_40.2 hc_10 hex_40.1 hc_11 hc_12⟩
          · refine lv_iconst (v := 1) hx hb dX11_isNamed_73 (by decide) ?_
            refine lv_goto (tgt := 78) hx hb dX11_isNamed_74 (by decide) ?_
            refine lv_istore (lv' := [(6, .int 1), (0, .ref mo), (1, .ref p1), (2, .int p2), (3, .int p3), (4, .int p4), (5, .int (20 + (19 * p2))), (7, .int y_9)]) hx hb dX11_isNamed_78 hl (by decide) rfl (fun ls hl => ?_)
            refine lv_iinc (v := (y_9 + Int32.ofInt 1)) (lv' := [(7, .int (y_9 + Int32.ofInt 1)), (6, .int 1), (0, .ref mo), (1, .ref p1), (2, .int p2), (3, .int p3), (4, .int p4), (5, .int (20 + (19 * p2)))]) hx hb dX11_isNamed_80 hl (k := 7) rfl rfl (by decide) rfl (fun ls hl => ?_)
            refine lv_goto (tgt := 40) hx hb dX11_isNamed_83 (by decide) ?_
            exact ih_40 _ _ _ _ (ty_inc (cm_lt hc_11)) ⟨ws, (1 : Int32), (y_9 + Int32.ofInt 1), rfl, hT, hP, hD, hS, (lv_sub hl [2, 3, 4, 5, 6, 7, 1, 0] rfl), ty_nn hex_40.1 (cm_lt hc_11), rm_isY hcv hfm hW hWl hex_40.2 hc_10 hex_40.1 hc_11 hc_12⟩
    · refine lv_aload_n hx hb dX11_isNamed_21 rfl (lv_at hl 2 rfl) ?_
      refine lv_iload hx hb dX11_isNamed_22 (lv_at hl 0 rfl) ?_
      refine va_iald hx hb hK hP 2 0 rfl rfl (rf_vin (by have := (rm_i20 hcv).1; omega)) dX11_isNamed_24 ?_
      refine lv_iload hx hb dX11_isNamed_25 (lv_at hl 5 rfl) ?_
      refine lv_icmp_ne (tgt := 34) hx hb dX11_isNamed_27 (by decide) (fun hc_13 => ?_) (fun hc_13 => ?_)
      · refine lv_iconst (v := 0) hx hb dX11_isNamed_34 (by decide) ?_
        refine lv_istore (lv' := [(6, .int 0), (5, .int (20 + (19 * p2))), (0, .ref mo), (1, .ref p1), (2, .int p2), (3, .int p3), (4, .int p4)]) hx hb dX11_isNamed_35 hl (by decide) rfl (fun ls hl => ?_)
        refine lv_iconst (v := 0) hx hb dX11_isNamed_37 (by decide) ?_
        refine lv_istore (lv' := [(7, .int 0), (6, .int 0), (5, .int (20 + (19 * p2))), (0, .ref mo), (1, .ref p1), (2, .int p2), (3, .int p3), (4, .int p4)]) hx hb dX11_isNamed_38 hl (by decide) rfl (fun ls hl => ?_)
        refine ty_loop (I := fun μ H locs ls => ∃ (ws : va_W) (y_14 : Int32) (y_15 : Int32), μ = (2147483648 - y_15.toInt).toNat ∧ ty_V ct S ph ws ∧ va_P D vwCl ([(rf_MO mo mw ma mf m0 m1 mu mv u0 u1 iz th mb mn mpt mbg mwr mwk mlf men), (rf_RW ct 0 mb 800 b), (rf_RW ct 0 p1 958 g)] ++ ws) H ∧ va_D A ([(rf_MO mo mw ma mf m0 m1 mu mv u0 u1 iz th mb mn mpt mbg mwr mwk mlf men), (rf_RW ct 0 mb 800 b), (rf_RW ct 0 p1 958 g)] ++ ws) ∧ va_S A s.heap H locs ∧ lv_has ls 8 [(0, .ref mo), (1, .ref p1), (2, .int p2), (3, .int p3), (4, .int p4), (5, .int (20 + (19 * p2))), (6, .int y_14), (7, .int y_15)] ∧ 0 ≤ y_15.toInt ∧ rm_is b p3 p4 wN y_14 y_15) ⟨_, ws, (0 : Int32), (0 : Int32), rfl, hT, hP, hD, hS, (lv_sub hl [3, 4, 5, 6, 7, 2, 1, 0] rfl), (by decide), rm_isB hcv hW (by have := hc_1; rw [Int32.le_iff_toInt_le, show (0 : Int32).toInt = 0 from by decide] at this; omega) hc_13⟩ (fun μ H locs ls hI ih_40 => ?_)
        obtain ⟨ws, y_14, y_15, rfl, hT, hP, hD, hS, hl, hex_40⟩ := hI
        refine lv_iload hx hb dX11_isNamed_40 (lv_at hl 6 rfl) ?_
        refine lv_if_eq (tgt := 86) hx hb dX11_isNamed_42 (by decide) (fun hc_16 => ?_) (fun hc_16 => ?_)
        · refine lv_iload hx hb dX11_isNamed_86 (lv_at hl 6 rfl) ?_
          exact W.zret (v := y_14) hx hb hr (rf_z01 (hex_40.2.elim (fun q => Or.inl q.1) (fun q => Or.inr q.1))) (fun t ht hW => ⟨⟨y_14, ws, rfl, ⟨hT, (rm_ise hex_40.2 (Or.inl hc_16))⟩, by rw [ht]; exact hP, by rw [hAe]; exact hD⟩, hS.F ht⟩) hS.2.2 dX11_isNamed_88
        · refine lv_iload hx hb dX11_isNamed_45 (lv_at hl 7 rfl) ?_
          refine lv_iload hx hb dX11_isNamed_47 (lv_at hl 4 rfl) ?_
          refine lv_icmp_ge (tgt := 86) hx hb dX11_isNamed_49 (by decide) (fun hc_17 => ?_) (fun hc_17 => ?_)
          · refine lv_iload hx hb dX11_isNamed_86 (lv_at hl 6 rfl) ?_
            exact W.zret (v := y_14) hx hb hr (rf_z01 (hex_40.2.elim (fun q => Or.inl q.1) (fun q => Or.inr q.1))) (fun t ht hW => ⟨⟨y_14, ws, rfl, ⟨hT, (rm_ise hex_40.2 (Or.inr (Int32.le_iff_toInt_le.mp hc_17)))⟩, by rw [ht]; exact hP, by rw [hAe]; exact hD⟩, hS.F ht⟩) hS.2.2 dX11_isNamed_88
          · refine lv_aload_n hx hb dX11_isNamed_52 rfl (lv_at hl 1 rfl) ?_
            refine lv_iload hx hb dX11_isNamed_53 (lv_at hl 5 rfl) ?_
            refine lv_iconst (v := 1) hx hb dX11_isNamed_55 (by decide) ?_
            refine lv_iadd hx hb dX11_isNamed_56 ?_
            refine lv_iload hx hb dX11_isNamed_57 (lv_at hl 7 rfl) ?_
            refine lv_iadd hx hb dX11_isNamed_59 ?_
            refine va_iald hx hb hK hP 2 0 rfl rfl (rf_vin (by have := rm_isX hcv hfm hWl hex_40.2 hc_16 hex_40.1 hc_17; have := hex_40.1; omega)) dX11_isNamed_60 ?_
            refine lv_aload_n hx hb dX11_isNamed_61 rfl (lv_at hl 0 rfl) ?_
            refine va_get (v := .ref mb) (D := D) (ci := 11) (C := RX11) (T := TX11) (N := 19) hx hb hts in_X11 hown hK hP 0 rfl rfl 11 (by decide) (hts _ kl_RX11_42) (fun _ h9 => h9) rfl dX11_isNamed_62 ?_
            refine lv_iload_n hx hb dX11_isNamed_65 rfl (lv_at hl 3 rfl) ?_
            refine lv_iload hx hb dX11_isNamed_66 (lv_at hl 7 rfl) ?_
            refine lv_iadd hx hb dX11_isNamed_68 ?_
            refine va_iald hx hb hK hP 1 0 rfl rfl (rf_vin (by have := rm_isX hcv hfm hWl hex_40.2 hc_16 hex_40.1 hc_17; have := hex_40.1; omega)) dX11_isNamed_69 ?_
            refine lv_icmp_ne (tgt := 77) hx hb dX11_isNamed_70 (by decide) (fun hc_18 => ?_) (fun hc_18 => ?_)
            · refine lv_iconst (v := 0) hx hb dX11_isNamed_77 (by decide) ?_
              refine lv_istore (lv' := [(6, .int 0), (0, .ref mo), (1, .ref p1), (2, .int p2), (3, .int p3), (4, .int p4), (5, .int (20 + (19 * p2))), (7, .int y_15)]) hx hb dX11_isNamed_78 hl (by decide) rfl (fun ls hl => ?_)
              refine lv_iinc (v := (y_15 + Int32.ofInt 1)) (lv' := [(7, .int (y_15 + Int32.ofInt 1)), (6, .int 0), (0, .ref mo), (1, .ref p1), (2, .int p2), (3, .int p3), (4, .int p4), (5, .int (20 + (19 * p2)))]) hx hb dX11_isNamed_80 hl (k := 7) rfl rfl (by decide) rfl (fun ls hl => ?_)
              refine lv_goto (tgt := 40) hx hb dX11_isNamed_83 (by decide) ?_
              exact ih_40 _ _ _ _ (ty_inc (cm_lt hc_17)) ⟨ws, (0 : Int32), (y_15 + Int32.ofInt 1), rfl, hT, hP, hD, hS, (lv_sub hl [2, 3, 4, 5, 6, 7, 1, 0] rfl), ty_nn hex_40.1 (cm_lt hc_17), rm_isN hcv hfm hW hWl hex_40.2 hc_16 hex_40.1 hc_17 hc_18⟩
            · refine lv_iconst (v := 1) hx hb dX11_isNamed_73 (by decide) ?_
              refine lv_goto (tgt := 78) hx hb dX11_isNamed_74 (by decide) ?_
              refine lv_istore (lv' := [(6, .int 1), (0, .ref mo), (1, .ref p1), (2, .int p2), (3, .int p3), (4, .int p4), (5, .int (20 + (19 * p2))), (7, .int y_15)]) hx hb dX11_isNamed_78 hl (by decide) rfl (fun ls hl => ?_)
              refine lv_iinc (v := (y_15 + Int32.ofInt 1)) (lv' := [(7, .int (y_15 + Int32.ofInt 1)), (6, .int 1), (0, .ref mo), (1, .ref p1), (2, .int p2), (3, .int p3), (4, .int p4), (5, .int (20 + (19 * p2)))]) hx hb dX11_isNamed_80 hl (k := 7) rfl rfl (by decide) rfl (fun ls hl => ?_)
              refine lv_goto (tgt := 40) hx hb dX11_isNamed_83 (by decide) ?_
              exact ih_40 _ _ _ _ (ty_inc (cm_lt hc_17)) ⟨ws, (1 : Int32), (y_15 + Int32.ofInt 1), rfl, hT, hP, hD, hS, (lv_sub hl [2, 3, 4, 5, 6, 7, 1, 0] rfl), ty_nn hex_40.1 (cm_lt hc_17), rm_isY hcv hfm hW hWl hex_40.2 hc_16 hex_40.1 hc_17 hc_18⟩
      · refine lv_iconst (v := 1) hx hb dX11_isNamed_30 (by decide) ?_
        refine lv_goto (tgt := 35) hx hb dX11_isNamed_31 (by decide) ?_
        refine lv_istore (lv' := [(6, .int 1), (5, .int (20 + (19 * p2))), (0, .ref mo), (1, .ref p1), (2, .int p2), (3, .int p3), (4, .int p4)]) hx hb dX11_isNamed_35 hl (by decide) rfl (fun ls hl => ?_)
        refine lv_iconst (v := 0) hx hb dX11_isNamed_37 (by decide) ?_
        refine lv_istore (lv' := [(7, .int 0), (6, .int 1), (5, .int (20 + (19 * p2))), (0, .ref mo), (1, .ref p1), (2, .int p2), (3, .int p3), (4, .int p4)]) hx hb dX11_isNamed_38 hl (by decide) rfl (fun ls hl => ?_)
        refine ty_loop (I := fun μ H locs ls => ∃ (ws : va_W) (y_19 : Int32) (y_20 : Int32), μ = (2147483648 - y_20.toInt).toNat ∧ ty_V ct S ph ws ∧ va_P D vwCl ([(rf_MO mo mw ma mf m0 m1 mu mv u0 u1 iz th mb mn mpt mbg mwr mwk mlf men), (rf_RW ct 0 mb 800 b), (rf_RW ct 0 p1 958 g)] ++ ws) H ∧ va_D A ([(rf_MO mo mw ma mf m0 m1 mu mv u0 u1 iz th mb mn mpt mbg mwr mwk mlf men), (rf_RW ct 0 mb 800 b), (rf_RW ct 0 p1 958 g)] ++ ws) ∧ va_S A s.heap H locs ∧ lv_has ls 8 [(0, .ref mo), (1, .ref p1), (2, .int p2), (3, .int p3), (4, .int p4), (5, .int (20 + (19 * p2))), (6, .int y_19), (7, .int y_20)] ∧ 0 ≤ y_20.toInt ∧ rm_is b p3 p4 wN y_19 y_20) ⟨_, ws, (1 : Int32), (0 : Int32), rfl, hT, hP, hD, hS, (lv_sub hl [3, 4, 5, 6, 7, 2, 1, 0] rfl), (by decide), rm_isA hcv hW hc_13⟩ (fun μ H locs ls hI ih_40 => ?_)
        obtain ⟨ws, y_19, y_20, rfl, hT, hP, hD, hS, hl, hex_40⟩ := hI
        refine lv_iload hx hb dX11_isNamed_40 (lv_at hl 6 rfl) ?_
        refine lv_if_eq (tgt := 86) hx hb dX11_isNamed_42 (by decide) (fun hc_21 => ?_) (fun hc_21 => ?_)
        · refine lv_iload hx hb dX11_isNamed_86 (lv_at hl 6 rfl) ?_
          exact W.zret (v := y_19) hx hb hr (rf_z01 (hex_40.2.elim (fun q => Or.inl q.1) (fun q => Or.inr q.1))) (fun t ht hW => ⟨⟨y_19, ws, rfl, ⟨hT, (rm_ise hex_40.2 (Or.inl hc_21))⟩, by rw [ht]; exact hP, by rw [hAe]; exact hD⟩, hS.F ht⟩) hS.2.2 dX11_isNamed_88
        · refine lv_iload hx hb dX11_isNamed_45 (lv_at hl 7 rfl) ?_
          refine lv_iload hx hb dX11_isNamed_47 (lv_at hl 4 rfl) ?_
          refine lv_icmp_ge (tgt := 86) hx hb dX11_isNamed_49 (by decide) (fun hc_22 => ?_) (fun hc_22 => ?_)
          · refine lv_iload hx hb dX11_isNamed_86 (lv_at hl 6 rfl) ?_
            exact W.zret (v := y_19) hx hb hr (rf_z01 (hex_40.2.elim (fun q => Or.inl q.1) (fun q => Or.inr q.1))) (fun t ht hW => ⟨⟨y_19, ws, rfl, ⟨hT, (rm_ise hex_40.2 (Or.inr (Int32.le_iff_toInt_le.mp hc_22)))⟩, by rw [ht]; exact hP, by rw [hAe]; exact hD⟩, hS.F ht⟩) hS.2.2 dX11_isNamed_88
          · refine lv_aload_n hx hb dX11_isNamed_52 rfl (lv_at hl 1 rfl) ?_
            refine lv_iload hx hb dX11_isNamed_53 (lv_at hl 5 rfl) ?_
            refine lv_iconst (v := 1) hx hb dX11_isNamed_55 (by decide) ?_
            refine lv_iadd hx hb dX11_isNamed_56 ?_
            refine lv_iload hx hb dX11_isNamed_57 (lv_at hl 7 rfl) ?_
            refine lv_iadd hx hb dX11_isNamed_59 ?_
            refine va_iald hx hb hK hP 2 0 rfl rfl (rf_vin (by have := rm_isX hcv hfm hWl hex_40.2 hc_21 hex_40.1 hc_22; have := hex_40.1; omega)) dX11_isNamed_60 ?_
            refine lv_aload_n hx hb dX11_isNamed_61 rfl (lv_at hl 0 rfl) ?_
            refine va_get (v := .ref mb) (D := D) (ci := 11) (C := RX11) (T := TX11) (N := 19) hx hb hts in_X11 hown hK hP 0 rfl rfl 11 (by decide) (hts _ kl_RX11_42) (fun _ h9 => h9) rfl dX11_isNamed_62 ?_
            refine lv_iload_n hx hb dX11_isNamed_65 rfl (lv_at hl 3 rfl) ?_
            refine lv_iload hx hb dX11_isNamed_66 (lv_at hl 7 rfl) ?_
            refine lv_iadd hx hb dX11_isNamed_68 ?_
            refine va_iald hx hb hK hP 1 0 rfl rfl (rf_vin (by have := rm_isX hcv hfm hWl hex_40.2 hc_21 hex_40.1 hc_22; have := hex_40.1; omega)) dX11_isNamed_69 ?_
            refine lv_icmp_ne (tgt := 77) hx hb dX11_isNamed_70 (by decide) (fun hc_23 => ?_) (fun hc_23 => ?_)
            · refine lv_iconst (v := 0) hx hb dX11_isNamed_77 (by decide) ?_
              refine lv_istore (lv' := [(6, .int 0), (0, .ref mo), (1, .ref p1), (2, .int p2), (3, .int p3), (4, .int p4), (5, .int (20 + (19 * p2))), (7, .int y_20)]) hx hb dX11_isNamed_78 hl (by decide) rfl (fun ls hl => ?_)
              refine lv_iinc (v := (y_20 + Int32.ofInt 1)) (lv' := [(7, .int (y_20 + Int32.ofInt 1)), (6, .int 0), (0, .ref mo), (1, .ref p1), (2, .int p2), (3, .int p3), (4, .int p4), (5, .int (20 + (19 * p2)))]) hx hb dX11_isNamed_80 hl (k := 7) rfl rfl (by decide) rfl (fun ls hl => ?_)
              refine lv_goto (tgt := 40) hx hb dX11_isNamed_83 (by decide) ?_
              exact ih_40 _ _ _ _ (ty_inc (cm_lt hc_22)) ⟨ws, (0 : Int32), (y_20 + Int32.ofInt 1), rfl, hT, hP, hD, hS, (lv_sub hl [2, 3, 4, 5, 6, 7, 1, 0] rfl), ty_nn hex_40.1 (cm_lt hc_22), rm_isN hcv hfm hW hWl hex_40.2 hc_21 hex_40.1 hc_22 hc_23⟩
            · refine lv_iconst (v := 1) hx hb dX11_isNamed_73 (by decide) ?_
              refine lv_goto (tgt := 78) hx hb dX11_isNamed_74 (by decide) ?_
              refine lv_istore (lv' := [(6, .int 1), (0, .ref mo), (1, .ref p1), (2, .int p2), (3, .int p3), (4, .int p4), (5, .int (20 + (19 * p2))), (7, .int y_20)]) hx hb dX11_isNamed_78 hl (by decide) rfl (fun ls hl => ?_)
              refine lv_iinc (v := (y_20 + Int32.ofInt 1)) (lv' := [(7, .int (y_20 + Int32.ofInt 1)), (6, .int 1), (0, .ref mo), (1, .ref p1), (2, .int p2), (3, .int p3), (4, .int p4), (5, .int (20 + (19 * p2)))]) hx hb dX11_isNamed_80 hl (k := 7) rfl rfl (by decide) rfl (fun ls hl => ?_)
              refine lv_goto (tgt := 40) hx hb dX11_isNamed_83 (by decide) ?_
              exact ih_40 _ _ _ _ (ty_inc (cm_lt hc_22)) ⟨ws, (1 : Int32), (y_20 + Int32.ofInt 1), rfl, hT, hP, hD, hS, (lv_sub hl [2, 3, 4, 5, 6, 7, 1, 0] rfl), ty_nn hex_40.1 (cm_lt hc_22), rm_isY hcv hfm hW hWl hex_40.2 hc_21 hex_40.1 hc_22 hc_23⟩
set_option maxRecDepth 100000 in
set_option maxHeartbeats 4000000 in
theorem m_named_v (l : Launch) (D : va_G) (ct : Nat → ClassId) (S : ty_S) (ws : va_W) (ph : va_W → Prop) (xx : Nat → Nat → Nat → Prop) (mo : Nat) (mw : Nat) (ma : Nat) (mf : Nat) (m0 : Nat) (m1 : Nat) (mu : Nat) (mv : Nat) (u0 : Nat) (u1 : Nat) (iz : Nat) (mb : Nat) (th : Int32) (mn : Int32) (mpt : Int32) (mbg : Int32) (mwr : Int32) (mwk : Int32) (mlf : Int32) (men : Int32) (b : Nat → Int32) (p1 : Nat) (p2 : Int32) (p3 : Int32) (g : Nat → Int32) (N : List (List Int32)) (sz : Nat) (hT : ty_V ct S ph ws) (hph : ty_C ph xx) (hy1 : ty_y1 xx) (hg11 : 0 ≤ (g 11).toInt ∧ (g 11).toInt ≤ 4) (hfm : 0 ≤ p2.toInt ∧ p2.toInt ≤ 800 ∧ p2.toInt + p3.toInt ≤ 800) (hN : rm_N N g) : Met l yX11_named (ws_ yX11_named cX11_named 6 (some .int)) ({ frames := 1, cells := 0, slots := 0, locals := 27 } : Room) (va_Pc [.ref mo, .ref p1, .int p2, .int p3] (cmP D ct sz ([(rf_MO mo mw ma mf m0 m1 mu mv u0 u1 iz th mb mn mpt mbg mwr mwk mlf men), (rf_RW ct 0 mb 800 b), (rf_RW ct 0 p1 958 g)] ++ ws))) (va_Qi (fun (r : Int32) (u9 : va_W) => ty_V ct S ph u9 ∧ ((r = -1 ∧ ¬ (rm_w b p2 p3) ∈ N) ∨ ((0 ≤ r.toInt ∧ r.toInt < N.length) ∧ (rm_w b p2 p3) ∈ N)) ∧ r = rq_ix N (rm_w b p2 p3) N.length) (cmB D ([(rf_MO mo mw ma mf m0 m1 mu mv u0 u1 iz th mb mn mpt mbg mwr mwk mlf men), (rf_RW ct 0 mb 800 b), (rf_RW ct 0 p1 958 g)] ++ ws) sz (fun (u9 : va_W) => ([(rf_MO mo mw ma mf m0 m1 mu mv u0 u1 iz th mb mn mpt mbg mwr mwk mlf men), (rf_RW ct 0 mb 800 b), (rf_RW ct 0 p1 958 g)] ++ u9))) (va_A ([(rf_MO mo mw ma mf m0 m1 mu mv u0 u1 iz th mb mn mpt mbg mwr mwk mlf men), (rf_RW ct 0 mb 800 b), (rf_RW ct 0 p1 958 g)] ++ ws) sz)) 0 0 (va_A ([(rf_MO mo mw ma mf m0 m1 mu mv u0 u1 iz th mb mn mpt mbg mwr mwk mlf men), (rf_RW ct 0 mb 800 b), (rf_RW ct 0 p1 958 g)] ++ ws) sz) := by
  refine Met.ofW (cc := cX11_named) (maxL := 6) (ret := (some .int)) (by decide) rfl ?_
  intro p e s m args below meth c s₁ B hml hv
  obtain ⟨rfl, hsz, hP, hK, hD0, hX⟩ := hv
  have hx := B.exec
  have hb := B.bytes
  have hr := B.returns
  have hts := ws_all (atoms_spec (ws := ws_ yX11_named cX11_named 6 (some .int)) B.pre)
  have hown : s.vm.findClass RX11 = some m.cls := findClass_of_methodNamed B.named
  have hlocks := B.notSynchronized
  subst hsz
  have hD := hD0.self (sz := s.heap.size)
  generalize hAe : va_A ([(rf_MO mo mw ma mf m0 m1 mu mv u0 u1 iz th mb mn mpt mbg mwr mwk mlf men), (rf_RW ct 0 mb 800 b), (rf_RW ct 0 p1 958 g)] ++ ws) s.heap.size = A at hD hX ⊢
  have hA : ∀ q : Nat, s.heap.size ≤ q → A q := fun q h => by rw [← hAe]; exact Or.inr h
  have hS : va_S A s.heap s.heap [] := va_S.rf
  have hl := lv_entry ([.ref mo, .ref p1, .int p2, .int p3]) (n := 6) (Nat.le_of_ble_eq_true rfl)
  rw [lg_entry_eq]
  generalize (lg_sl ([.ref mo, .ref p1, .int p2, .int p3]) ++ List.replicate (6 - (lg_sl ([.ref mo, .ref p1, .int p2, .int p3])).length) Slot.unset).toArray = ls at hl ⊢
  have hl : lv_has ls 6 [(0, .ref mo), (1, .ref p1), (2, .int p2), (3, .int p3)] := hl
  refine lv_iconst (v := (-1)) hx hb dX11_named_0 (by decide) ?_
  refine lv_istore (lv' := [(4, .int (-1)), (0, .ref mo), (1, .ref p1), (2, .int p2), (3, .int p3)]) hx hb dX11_named_1 hl (by decide) rfl (fun ls hl => ?_)
  refine lv_iconst (v := 0) hx hb dX11_named_3 (by decide) ?_
  refine lv_istore (lv' := [(5, .int 0), (4, .int (-1)), (0, .ref mo), (1, .ref p1), (2, .int p2), (3, .int p3)]) hx hb dX11_named_4 hl (by decide) rfl (fun ls hl => ?_)
  refine ty_loop (I := fun μ H locs ls => ∃ (ws : va_W) (y_1 : Int32) (y_2 : Int32), μ = (2147483648 - y_2.toInt).toNat ∧ ty_V ct S ph ws ∧ va_P D vwCl ([(rf_MO mo mw ma mf m0 m1 mu mv u0 u1 iz th mb mn mpt mbg mwr mwk mlf men), (rf_RW ct 0 mb 800 b), (rf_RW ct 0 p1 958 g)] ++ ws) H ∧ va_D A ([(rf_MO mo mw ma mf m0 m1 mu mv u0 u1 iz th mb mn mpt mbg mwr mwk mlf men), (rf_RW ct 0 mb 800 b), (rf_RW ct 0 p1 958 g)] ++ ws) ∧ va_S A s.heap H locs ∧ lv_has ls 6 [(0, .ref mo), (1, .ref p1), (2, .int p2), (3, .int p3), (4, .int y_1), (5, .int y_2)] ∧ 0 ≤ y_2.toInt ∧ rm_nd N (rm_w b p2 p3) y_1 y_2 ∧ y_2.toInt ≤ (g 11).toInt ∧ y_1 = rq_ix N (rm_w b p2 p3) y_2.toInt.toNat) ⟨_, ws, ((-1) : Int32), (0 : Int32), rfl, hT, hP, hD, hS, (lv_sub hl [2, 3, 4, 5, 1, 0] rfl), (by decide), rm_nd0, (by rw [show (0 : Int32).toInt = 0 from by decide]; exact hg11.1), rq_ix0⟩ (fun μ H locs ls hI ih_6 => ?_)
  obtain ⟨ws, y_1, y_2, rfl, hT, hP, hD, hS, hl, hex_6⟩ := hI
  refine lv_iload hx hb dX11_named_6 (lv_at hl 5 rfl) ?_
  refine lv_aload_n hx hb dX11_named_8 rfl (lv_at hl 1 rfl) ?_
  refine lv_bipush (v := 11) hx hb dX11_named_9 (by decide) ?_
  refine va_iald hx hb hK hP 2 0 rfl rfl (cm_vin (by decide)) dX11_named_11 ?_
  refine cm_cst (y := (g 11)) (by first | rfl | decide +kernel) ?_
  refine lv_icmp_ge (tgt := 42) hx hb dX11_named_12 (by decide) (fun hc_3 => ?_) (fun hc_3 => ?_)
  · refine lv_iload hx hb dX11_named_42 (lv_at hl 4 rfl) ?_
    exact W.iret (v := y_1) hx hb hr (fun t ht hW => ⟨⟨y_1, ws, rfl, ⟨hT, ⟨rm_nde hex_6.2.1 (by have := hN.1; have := (Int32.le_iff_toInt_le.mp hc_3); omega), (by have e9 := hex_6.2.2.2; rw [show y_2.toInt.toNat = N.length from by have := hN.1; have := (Int32.le_iff_toInt_le.mp hc_3); have := hex_6.2.2.1; omega] at e9; exact e9)⟩⟩, by rw [ht]; exact hP, by rw [hAe]; exact hD⟩, hS.F ht⟩) hS.2.2 dX11_named_44
  · obtain ⟨W_4, hw_5, hw_6⟩ := rm_nx hN hex_6.1 (rf_ylt rfl hc_3)
    refine lv_aload_n hx hb dX11_named_15 rfl (lv_at hl 0 rfl) ?_
    refine lv_aload_n hx hb dX11_named_16 rfl (lv_at hl 1 rfl) ?_
    refine lv_iload hx hb dX11_named_17 (lv_at hl 5 rfl) ?_
    refine lv_iload_n hx hb dX11_named_19 rfl (lv_at hl 2 rfl) ?_
    refine lv_iload_n hx hb dX11_named_20 rfl (lv_at hl 3 rfl) ?_
    obtain ⟨hP, hD⟩ := ty_ipPD (E1 := []) (E2 := [(rf_MO mo mw ma mf m0 m1 mu mv u0 u1 iz th mb mn mpt mbg mwr mwk mlf men), (rf_RW ct 0 mb 800 b), (rf_RW ct 0 p1 958 g)]) hP hD rfl ty_mva
    refine ty_Ki hP hD hS hA (va_runV (As := [.ref p1, .int y_2, .int p2, .int p3]) (rest := []) ⟨hx, hb, hml, hown, hts⟩ (m_isNamed_v l D ct S ws ph xx mo mw ma mf m0 m1 mu mv u0 u1 iz mb th mn mpt mbg mwr mwk mlf men b p1 y_2 p2 p3 g W_4 _ hT hph hy1 (by have := rf_ylt rfl hc_3; have := hex_6.1; omega) hfm hw_6.1 hw_6.2) (cm_V 4 hts kc_X11_isNamed ki_RX11 kl_RX11_125 kv_X11_isNamed kx_X11_isNamed kd_X11_isNamed ⟨Nat.le_of_ble_eq_true rfl, Nat.le_of_ble_eq_true rfl⟩) (ty_preE (ci := 11) (q0 := 0) hP hK hD hS hA hX rfl rfl) rfl rfl hl.1 rfl (lv_room (Nat.le_of_ble_eq_true rfl)) dX11_named_21 ⟨Nat.le_of_ble_eq_true rfl, Nat.le_of_ble_eq_true rfl⟩) (fun r_7 u H locs hw_8 hP hD hS => ?_)
    obtain ⟨ws_9, rfl⟩ : ∃ z, z = u := ⟨_, rfl⟩
    obtain ⟨hT, hp_10⟩ := hw_8
    have hp_10 : ((r_7 = 0 ∧ ¬ rm_w b p2 p3 = W_4) ∨ (r_7 = 1 ∧ rm_w b p2 p3 = W_4)) := hp_10
    obtain ⟨hP, hD⟩ := ty_shPD (w2 := ([(rf_MO mo mw ma mf m0 m1 mu mv u0 u1 iz th mb mn mpt mbg mwr mwk mlf men), (rf_RW ct 0 mb 800 b), (rf_RW ct 0 p1 958 g)] ++ ws_9)) hP hD rfl
    rcases hp_10 with ⟨rfl, hz_11⟩ | ⟨rfl, hz_12⟩
    · refine lv_if_eq (tgt := 32) hx hb dX11_named_24 (by decide) (fun _ => ?_) (fun hc => absurd (by decide) hc)
      refine lv_iload hx hb dX11_named_32 (lv_at hl 4 rfl) ?_
      refine lv_istore (lv' := [(4, .int y_1), (0, .ref mo), (1, .ref p1), (2, .int p2), (3, .int p3), (5, .int y_2)]) hx hb dX11_named_34 hl (by decide) rfl (fun ls hl => ?_)
      refine lv_iinc (v := (y_2 + Int32.ofInt 1)) (lv' := [(5, .int (y_2 + Int32.ofInt 1)), (4, .int y_1), (0, .ref mo), (1, .ref p1), (2, .int p2), (3, .int p3)]) hx hb dX11_named_36 hl (k := 5) rfl rfl (by decide) rfl (fun ls hl => ?_)
      refine lv_goto (tgt := 6) hx hb dX11_named_39 (by decide) ?_
      exact ih_6 _ _ _ _ (ty_inc (cm_lt hc_3)) ⟨ws_9, y_1, (y_2 + Int32.ofInt 1), rfl, hT, hP, hD, hS, (lv_sub hl [2, 3, 4, 5, 1, 0] rfl), ty_nn hex_6.1 (cm_lt hc_3), rm_ndn hex_6.2.1 (by have := rf_ylt rfl hc_3; have := hg11; have := hex_6.1; omega) hw_5 hz_11, (by have := rf_ylt rfl hc_3; have := rf_oi (n := y_2) (by omega); omega), rq_ixn hex_6.2.2.2 (by have := rf_ylt rfl hc_3; have := hg11; have := hex_6.1; omega) hw_5 hz_11⟩
    · refine lv_if_eq (tgt := 32) hx hb dX11_named_24 (by decide) (fun hc => absurd hc (by decide)) (fun _ => ?_)
      refine lv_iload hx hb dX11_named_27 (lv_at hl 5 rfl) ?_
      refine lv_goto (tgt := 34) hx hb dX11_named_29 (by decide) ?_
      refine lv_istore (lv' := [(4, .int y_2), (0, .ref mo), (1, .ref p1), (2, .int p2), (3, .int p3), (5, .int y_2)]) hx hb dX11_named_34 hl (by decide) rfl (fun ls hl => ?_)
      refine lv_iinc (v := (y_2 + Int32.ofInt 1)) (lv' := [(5, .int (y_2 + Int32.ofInt 1)), (4, .int y_2), (0, .ref mo), (1, .ref p1), (2, .int p2), (3, .int p3)]) hx hb dX11_named_36 hl (k := 5) rfl rfl (by decide) rfl (fun ls hl => ?_)
      refine lv_goto (tgt := 6) hx hb dX11_named_39 (by decide) ?_
      exact ih_6 _ _ _ _ (ty_inc (cm_lt hc_3)) ⟨ws_9, y_2, (y_2 + Int32.ofInt 1), rfl, hT, hP, hD, hS, (lv_sub hl [2, 3, 4, 5, 1, 0] rfl), ty_nn hex_6.1 (cm_lt hc_3), rm_ndy hex_6.1 hw_5 hz_12, (by have := rf_ylt rfl hc_3; have := rf_oi (n := y_2) (by omega); omega), rq_ixy (by have := rf_ylt rfl hc_3; have := hg11; have := hex_6.1; omega) hw_5 hz_12⟩
