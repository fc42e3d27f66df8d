theorem rf_Ec {f h : Nat → Int32} (hE : rf_E f) (he : ∀ j : Nat, j < 958 → h j = f j) : rf_E h := by
  obtain ⟨G, hR⟩ := hE
  exact ⟨G, rf_Req hR he⟩
theorem rf_sv0 {k s : Nat → Int32} {p v : Int32} (hp : p = 0) (h : k 1 = 0 ∨ rf_E s) : upd k p.toNatClampNeg v 1 = 0 ∨ rf_E s := by
  subst hp
  rw [rf_upd_ne (by decide)]
  exact h
theorem rf_sv1 {k s : Nat → Int32} {p v : Int32} (hp : p = 0 ∨ p = 1) (hn : ¬ p = 0) (h : k 0 = 0 ∨ rf_E s) : upd k p.toNatClampNeg v 0 = 0 ∨ rf_E s := by
  rcases hp with q | q
  · exact absurd q hn
  · subst q
    rw [rf_upd_ne (by decide)]
    exact h
theorem rf_i2s {p : Int32} (h : p = 0 ∨ p = 1) : vp_in p 2 := by
  rcases h with q | q
  · subst q
    exact cm_vin (by decide)
  · subst q
    exact cm_vin (by decide)
theorem rf_rs0 {k s : Nat → Int32} {p : Int32} (hp : p = 0) (h : ¬ k p.toNatClampNeg = 0) (hs : k 0 = 0 ∨ rf_E s) : rf_E s := by
  subst hp
  exact hs.elim (fun q => absurd q h) (fun q => q)
theorem rf_rs1 {k s : Nat → Int32} {p : Int32} (hp : p = 0 ∨ p = 1) (hn : ¬ p = 0) (h : ¬ k p.toNatClampNeg = 0) (hs : k 1 = 0 ∨ rf_E s) : rf_E s := by
  rcases hp with q | q
  · exact absurd q hn
  · subst q
    exact hs.elim (fun q => absurd q h) (fun q => q)
theorem rf_slot {p : Int32} (h : ¬ cm_rng p.toInt64 0 1 = 0) : p = 0 ∨ p = 1 := by
  have r := rf_rng h
  rw [Jvm.Kit.i64_of_i32, show (0 : Int64).toInt = 0 from by decide, show (1 : Int64).toInt = 1 from by decide] at r
  rcases (by omega : p.toInt = 0 ∨ p.toInt = 1) with q | q
  · exact Or.inl (Int32.toInt_inj.mp (q.trans (by decide)))
  · exact Or.inr (Int32.toInt_inj.mp (q.trans (by decide)))
set_option maxRecDepth 100000 in
set_option maxHeartbeats 4000000 in
theorem m_noSlot (l : Launch) (D : va_G) (ct : Nat → ClassId) (S : ty_S) (ws : va_W) (ph : va_W → Prop) (xx : Nat → Nat → Nat → Prop) (mo : Nat) (mw : Nat) (ma : Nat) (mf : Nat) (m0 : Nat) (m1 : Nat) (mu : Nat) (mv : Nat) (u0 : Nat) (u1 : Nat) (iz : Nat) (mb : Nat) (th : Int32) (mn : Int32) (mpt : Int32) (mbg : Int32) (mwr : Int32) (mwk : Int32) (mlf : Int32) (men : Int32) (p1 : Int32) (sz : Nat) (hT : ty_V ct S ph ws) (h_mu : S mu = some (.inr (1, 42))) (h_mv : S mv = some (.inr (1, 42))) (h_u0 : S u0 = some (.inr (1, 42))) (h_u1 : S u1 = some (.inr (1, 42))) (hph : ty_C ph xx) (hy1 : ty_y1 xx) : Met l yX11_noSlot (ws_ yX11_noSlot cX11_noSlot 2 (some .boolean)) ({ frames := 1, cells := 0, slots := 0, locals := 25 } : Room) (va_Pc [.ref mo, .int p1] (cmP D ct sz ([(rf_MO mo mw ma mf m0 m1 mu mv u0 u1 iz th mb mn mpt mbg mwr mwk mlf men)] ++ ws))) (va_Qi (fun (r : Int32) (u : va_W × Int32) => match u with | (u9, th1) => ty_V ct S ph u9 ∧ ((r = 0 ∧ (p1 = 0 ∨ p1 = 1) ∧ th1 = 0) ∨ (r = 1 ∧ ¬ (p1 = 0 ∨ p1 = 1) ∧ th1 = 1))) (cmB D ([(rf_MO mo mw ma mf m0 m1 mu mv u0 u1 iz th mb mn mpt mbg mwr mwk mlf men)] ++ ws) sz (fun (u : va_W × Int32) => match u with | (u9, th1) => ([(rf_MO mo mw ma mf m0 m1 mu mv u0 u1 iz th1 mb mn mpt mbg mwr mwk mlf men)] ++ u9))) (va_A ([(rf_MO mo mw ma mf m0 m1 mu mv u0 u1 iz th mb mn mpt mbg mwr mwk mlf men)] ++ ws) sz)) 0 0 (va_A ([(rf_MO mo mw ma mf m0 m1 mu mv u0 u1 iz th mb mn mpt mbg mwr mwk mlf men)] ++ ws) sz) := by
  refine Met.ofW (cc := cX11_noSlot) (maxL := 2) (ret := (some .boolean)) (by decide) rfl ?_
  intro p e s m args below meth c s₁ B hml hv
  obtain ⟨rfl, hsz, hP, hK, hD0, hX⟩ := hv
  have hx := B.exec
  have hb := B.bytes
  have hr := B.returns
  have hts := ws_all (atoms_spec (ws := ws_ yX11_noSlot cX11_noSlot 2 (some .boolean)) B.pre)
  have hown : s.vm.findClass RX11 = some m.cls := findClass_of_methodNamed B.named
  have hlocks := B.notSynchronized
  subst hsz
  have hD := hD0.self (sz := s.heap.size)
  generalize hAe : va_A ([(rf_MO mo mw ma mf m0 m1 mu mv u0 u1 iz th mb mn mpt mbg mwr mwk mlf men)] ++ ws) s.heap.size = A at hD hX ⊢
  have hA : ∀ q : Nat, s.heap.size ≤ q → A q := fun q h => by rw [← hAe]; exact Or.inr h
  have hS : va_S A s.heap s.heap [] := va_S.rf
  have hl := lv_entry ([.ref mo, .int p1]) (n := 2) (Nat.le_of_ble_eq_true rfl)
  rw [lg_entry_eq]
  generalize (lg_sl ([.ref mo, .int p1]) ++ List.replicate (2 - (lg_sl ([.ref mo, .int p1])).length) Slot.unset).toArray = ls at hl ⊢
  have hl : lv_has ls 2 [(0, .ref mo), (1, .int p1)] := hl
  refine lv_aload_n hx hb dX11_noSlot_0 rfl (lv_at hl 0 rfl) ?_
  refine lv_iconst (v := 0) hx hb dX11_noSlot_1 (by decide) ?_
  refine va_put (v := .int 0) (ty := .int) (D := D) (ci := 11) (C := RX11) (T := TX11) (N := 19) hx hb hts in_X11 tyX11 tyX11_ok nmX11 hown hK hP hD hS 0 rfl rfl 10 (by decide) (hts _ kl_RX11_49) (fun _ h9 => h9) rfl (by decide +kernel) rfl rfl (Nat.le_of_ble_eq_true rfl) dX11_noSlot_2 (fun H locs hP hD hS => ?_)
  have hP : va_P D vwCl ([(rf_MO mo mw ma mf m0 m1 mu mv u0 u1 iz (0) mb mn mpt mbg mwr mwk mlf men)] ++ ws) H := hP
  have hD : va_D A ([(rf_MO mo mw ma mf m0 m1 mu mv u0 u1 iz (0) mb mn mpt mbg mwr mwk mlf men)] ++ ws) := hD
  refine lv_aload_n hx hb dX11_noSlot_5 rfl (lv_at hl 0 rfl) ?_
  refine lv_iload_n hx hb dX11_noSlot_6 rfl (lv_at hl 1 rfl) ?_
  refine lv_i2l hx hb dX11_noSlot_7 rfl ?_
  refine lv_lconst (v := 0) hx hb dX11_noSlot_8 (by decide) ?_
  refine lv_lconst (v := 1) hx hb dX11_noSlot_9 (by decide) ?_
  refine ty_ki (wr := [(rf_MO mo mw ma mf m0 m1 mu mv u0 u1 iz (0) mb mn mpt mbg mwr mwk mlf men)]) (wc := ([] ++ ws)) (va_runS (As := [.long p1.toInt64, .long 0, .long 1]) (rest := [.ref mo]) ⟨hx, hb, hml, hown, hts⟩ (m_X11_in l D ct S ws ph xx p1.toInt64 (0 : Int64) (1 : Int64) _ hT hph hy1) (cm_S 3 hts kc_X11_in ki_RX11 kl_RX11_70 ks_X11_in kd_X11_in ⟨Nat.le_of_ble_eq_true rfl, Nat.le_of_ble_eq_true rfl⟩) (ty_preS (wr := [(rf_MO mo mw ma mf m0 m1 mu mv u0 u1 iz (0) mb mn mpt mbg mwr mwk mlf men)]) (wc := ([] ++ ws)) hP hK hD hS hA hX) rfl rfl hl.1 rfl (lv_room (Nat.le_of_ble_eq_true rfl)) dX11_noSlot_10 ⟨Nat.le_of_ble_eq_true rfl, Nat.le_of_ble_eq_true rfl⟩) hP hD hS hA (fun r_1 u H locs hw_2 hP hD hS => ?_)
  obtain ⟨ws_3, rfl⟩ : ∃ z, z = u := ⟨_, rfl⟩
  obtain ⟨hT, rfl⟩ := hw_2
  have hP : va_P D vwCl ([(rf_MO mo mw ma mf m0 m1 mu mv u0 u1 iz (0) mb mn mpt mbg mwr mwk mlf men)] ++ ws_3) H := hP
  have hD : va_D A ([(rf_MO mo mw ma mf m0 m1 mu mv u0 u1 iz (0) mb mn mpt mbg mwr mwk mlf men)] ++ ws_3) := hD
  refine lv_if_ne (tgt := 20) hx hb dX11_noSlot_13 (by decide) (fun hc_4 => ?_) (fun hc_4 => ?_)
  · refine lv_iconst (v := 0) hx hb dX11_noSlot_20 (by decide) ?_
    refine lv_iconst (v := 1) hx hb dX11_noSlot_21 (by decide) ?_
    refine ty_ki (wr := []) (wc := ([(rf_MO mo mw ma mf m0 m1 mu mv u0 u1 iz (0) mb mn mpt mbg mwr mwk mlf men)] ++ ws_3)) (va_runV (As := [.int 0, .int 1]) (rest := []) ⟨hx, hb, hml, hown, hts⟩ (m_throwsIf_0 l D ct S ws_3 ph xx mo mw ma mf m0 m1 mu mv u0 u1 iz mb mn mpt mbg mwr mwk mlf men (0 : Int32) (1 : Int32) _ hT h_mu h_mv h_u0 h_u1 hph hy1 (by decide)) (cm_V 2 hts kc_X11_throwsIf ki_RX11 kl_RX11_328 kv_X11_throwsIf kx_X11_throwsIf kd_X11_throwsIf ⟨Nat.le_of_ble_eq_true rfl, Nat.le_of_ble_eq_true rfl⟩) (ty_preE (wr := []) (wc := ([(rf_MO mo mw ma mf m0 m1 mu mv u0 u1 iz (0) mb mn mpt mbg mwr mwk mlf men)] ++ ws_3)) (ci := 11) (q0 := 0) hP hK hD hS hA hX rfl rfl) rfl rfl hl.1 rfl (lv_room (Nat.le_of_ble_eq_true rfl)) dX11_noSlot_22 ⟨Nat.le_of_ble_eq_true rfl, Nat.le_of_ble_eq_true rfl⟩) hP hD hS hA (fun r_5 u H locs hw_6 hP hD hS => ?_)
    obtain ⟨ws_7, th1_8⟩ := u
    obtain ⟨hT, hp_9⟩ := hw_6
    have hp_9 : ((r_5 = 0 ∧ (0 : Int32) = 0 ∧ th1_8 = 0) ∨ (r_5 = 1 ∧ ¬ (0 : Int32) = 0 ∧ th1_8 = (1 : Int32))) := hp_9
    have hP : va_P D vwCl ([(rf_MO mo mw ma mf m0 m1 mu mv u0 u1 iz th1_8 mb mn mpt mbg mwr mwk mlf men)] ++ ws_7) H := hP
    have hD : va_D A ([(rf_MO mo mw ma mf m0 m1 mu mv u0 u1 iz th1_8 mb mn mpt mbg mwr mwk mlf men)] ++ ws_7) := hD
    rcases hp_9 with ⟨rfl, hz_10⟩ | ⟨rfl, hz_11⟩
    · exact W.zret (v := 0) hx hb hr (by decide) (fun t ht hW => ⟨⟨0, (ws_7, th1_8), rfl, ⟨hT, (Or.inl ⟨rfl, rf_slot hc_4, hz_10.2⟩)⟩, by rw [ht]; exact hP, by rw [hAe]; exact hD⟩, hS.F ht⟩) hS.2.2 dX11_noSlot_25
    · exact absurd rfl hz_11.1
  · refine lv_iconst (v := 1) hx hb dX11_noSlot_16 (by decide) ?_
    refine lv_goto (tgt := 21) hx hb dX11_noSlot_17 (by decide) ?_
    refine lv_iconst (v := 1) hx hb dX11_noSlot_21 (by decide) ?_
    refine ty_ki (wr := []) (wc := ([(rf_MO mo mw ma mf m0 m1 mu mv u0 u1 iz (0) mb mn mpt mbg mwr mwk mlf men)] ++ ws_3)) (va_runV (As := [.int 1, .int 1]) (rest := []) ⟨hx, hb, hml, hown, hts⟩ (m_throwsIf_0 l D ct S ws_3 ph xx mo mw ma mf m0 m1 mu mv u0 u1 iz mb mn mpt mbg mwr mwk mlf men (1 : Int32) (1 : Int32) _ hT h_mu h_mv h_u0 h_u1 hph hy1 (by decide)) (cm_V 2 hts kc_X11_throwsIf ki_RX11 kl_RX11_328 kv_X11_throwsIf kx_X11_throwsIf kd_X11_throwsIf ⟨Nat.le_of_ble_eq_true rfl, Nat.le_of_ble_eq_true rfl⟩) (ty_preE (wr := []) (wc := ([(rf_MO mo mw ma mf m0 m1 mu mv u0 u1 iz (0) mb mn mpt mbg mwr mwk mlf men)] ++ ws_3)) (ci := 11) (q0 := 0) hP hK hD hS hA hX rfl rfl) rfl rfl hl.1 rfl (lv_room (Nat.le_of_ble_eq_true rfl)) dX11_noSlot_22 ⟨Nat.le_of_ble_eq_true rfl, Nat.le_of_ble_eq_true rfl⟩) hP hD hS hA (fun r_12 u H locs hw_13 hP hD hS => ?_)
    obtain ⟨ws_14, th1_15⟩ := u
    obtain ⟨hT, hp_16⟩ := hw_13
    have hp_16 : ((r_12 = 0 ∧ (1 : Int32) = 0 ∧ th1_15 = 0) ∨ (r_12 = 1 ∧ ¬ (1 : Int32) = 0 ∧ th1_15 = (1 : Int32))) := hp_16
    have hP : va_P D vwCl ([(rf_MO mo mw ma mf m0 m1 mu mv u0 u1 iz th1_15 mb mn mpt mbg mwr mwk mlf men)] ++ ws_14) H := hP
    have hD : va_D A ([(rf_MO mo mw ma mf m0 m1 mu mv u0 u1 iz th1_15 mb mn mpt mbg mwr mwk mlf men)] ++ ws_14) := hD
    rcases hp_16 with ⟨rfl, hz_17⟩ | ⟨rfl, hz_18⟩
    · exact absurd hz_17.1 (by decide)
    · exact W.zret (v := 1) hx hb hr (by decide) (fun t ht hW => ⟨⟨1, (ws_14, th1_15), rfl, ⟨hT, (Or.inr ⟨rfl, rf_nsl hc_4, hz_18.2⟩)⟩, by rw [ht]; exact hP, by rw [hAe]; exact hD⟩, hS.F ht⟩) hS.2.2 dX11_noSlot_25
theorem dX11_saveSnapshot_0 : decode cX11_saveSnapshot 0 = .ok (.aload_n 0, 1) := by decide +kernel
theorem dX11_saveSnapshot_1 : decode cX11_saveSnapshot 1 = .ok (.iload_n 1, 1) := by decide +kernel
theorem dX11_saveSnapshot_2 : decode cX11_saveSnapshot 2 = .ok (.invokevirtual 402, 3) := by decide +kernel
theorem dX11_saveSnapshot_5 : decode cX11_saveSnapshot 5 = .ok (.ifCond .eq 5, 3) := by decide +kernel
theorem dX11_saveSnapshot_8 : decode cX11_saveSnapshot 8 = .ok (.iconst 0, 1) := by decide +kernel
theorem dX11_saveSnapshot_9 : decode cX11_saveSnapshot 9 = .ok (.ireturn, 1) := by decide +kernel
theorem dX11_saveSnapshot_10 : decode cX11_saveSnapshot 10 = .ok (.aload_n 0, 1) := by decide +kernel
theorem dX11_saveSnapshot_11 : decode cX11_saveSnapshot 11 = .ok (.getfield 9, 3) := by decide +kernel
theorem dX11_saveSnapshot_14 : decode cX11_saveSnapshot 14 = .ok (.iload_n 1, 1) := by decide +kernel
theorem dX11_saveSnapshot_15 : decode cX11_saveSnapshot 15 = .ok (.ifCond .ne 10, 3) := by decide +kernel
theorem dX11_saveSnapshot_18 : decode cX11_saveSnapshot 18 = .ok (.aload_n 0, 1) := by decide +kernel
theorem dX11_saveSnapshot_19 : decode cX11_saveSnapshot 19 = .ok (.getfield 19, 3) := by decide +kernel
theorem dX11_saveSnapshot_22 : decode cX11_saveSnapshot 22 = .ok (.goto 7, 3) := by decide +kernel
theorem dX11_saveSnapshot_25 : decode cX11_saveSnapshot 25 = .ok (.aload_n 0, 1) := by decide +kernel
theorem dX11_saveSnapshot_26 : decode cX11_saveSnapshot 26 = .ok (.getfield 22, 3) := by decide +kernel
theorem dX11_saveSnapshot_29 : decode cX11_saveSnapshot 29 = .ok (.invokestatic 205, 3) := by decide +kernel
theorem dX11_saveSnapshot_32 : decode cX11_saveSnapshot 32 = .ok (.aload_n 0, 1) := by decide +kernel
theorem dX11_saveSnapshot_33 : decode cX11_saveSnapshot 33 = .ok (.getfield 25, 3) := by decide +kernel
theorem dX11_saveSnapshot_36 : decode cX11_saveSnapshot 36 = .ok (.iload_n 1, 1) := by decide +kernel
theorem dX11_saveSnapshot_37 : decode cX11_saveSnapshot 37 = .ok (.ifCond .ne 10, 3) := by decide +kernel
theorem dX11_saveSnapshot_40 : decode cX11_saveSnapshot 40 = .ok (.aload_n 0, 1) := by decide +kernel
theorem dX11_saveSnapshot_41 : decode cX11_saveSnapshot 41 = .ok (.getfield 32, 3) := by decide +kernel
theorem dX11_saveSnapshot_44 : decode cX11_saveSnapshot 44 = .ok (.goto 7, 3) := by decide +kernel
theorem dX11_saveSnapshot_47 : decode cX11_saveSnapshot 47 = .ok (.aload_n 0, 1) := by decide +kernel
theorem dX11_saveSnapshot_48 : decode cX11_saveSnapshot 48 = .ok (.getfield 35, 3) := by decide +kernel
theorem dX11_saveSnapshot_51 : decode cX11_saveSnapshot 51 = .ok (.invokestatic 375, 3) := by decide +kernel
theorem dX11_saveSnapshot_54 : decode cX11_saveSnapshot 54 = .ok (.aload_n 0, 1) := by decide +kernel
theorem dX11_saveSnapshot_55 : decode cX11_saveSnapshot 55 = .ok (.getfield 38, 3) := by decide +kernel
theorem dX11_saveSnapshot_58 : decode cX11_saveSnapshot 58 = .ok (.iload_n 1, 1) := by decide +kernel
theorem dX11_saveSnapshot_59 : decode cX11_saveSnapshot 59 = .ok (.iconst 1, 1) := by decide +kernel
theorem dX11_saveSnapshot_60 : decode cX11_saveSnapshot 60 = .ok (.bastore, 1) := by decide +kernel
theorem dX11_saveSnapshot_61 : decode cX11_saveSnapshot 61 = .ok (.aload_n 0, 1) := by decide +kernel
theorem dX11_saveSnapshot_62 : decode cX11_saveSnapshot 62 = .ok (.getfield 9, 3) := by decide +kernel
theorem dX11_saveSnapshot_65 : decode cX11_saveSnapshot 65 = .ok (.bipush 8, 2) := by decide +kernel
theorem dX11_saveSnapshot_67 : decode cX11_saveSnapshot 67 = .ok (.iaload, 1) := by decide +kernel
theorem dX11_saveSnapshot_68 : decode cX11_saveSnapshot 68 = .ok (.ireturn, 1) := by decide +kernel
set_option maxRecDepth 100000 in
set_option maxHeartbeats 4000000 in
theorem m_saveSnapshot (l : Launch) (D : va_G) (ct : Nat → ClassId) (S : ty_S) (ws : va_W) (ph : va_W → Prop) (xx : Nat → Nat → Nat → Prop) (mo : Nat) (mw : Nat) (ma : Nat) (mf : Nat) (m0 : Nat) (m1 : Nat) (mu : Nat) (mv : Nat) (u0 : Nat) (u1 : Nat) (iz : Nat) (mb : Nat) (th : Int32) (mn : Int32) (mpt : Int32) (mbg : Int32) (mwr : Int32) (mwk : Int32) (mlf : Int32) (men : Int32) (f : Nat → Int32) (s0 : Nat → Int32) (s1 : Nat → Int32) (k : Nat → Int32) (p1 : Int32) (sz : Nat) (hT : ty_V ct S ph ws) (h_mu : S mu = some (.inr (1, 42))) (h_mv : S mv = some (.inr (1, 42))) (h_u0 : S u0 = some (.inr (1, 42))) (h_u1 : S u1 = some (.inr (1, 42))) (hph : ty_C ph xx) (hy1 : ty_y1 xx) (hy11 : ty_y0 xx 11) (hE : rf_E f) (hs0 : k 0 = 0 ∨ rf_E s0) (hs1 : k 1 = 0 ∨ rf_E s1) : Met l yX11_saveSnapshot (ws_ yX11_saveSnapshot cX11_saveSnapshot 2 (some .int)) ({ frames := 2, cells := 0, slots := 0, locals := 46 } : Room) (va_Pc [.ref mo, .int p1] (cmP D ct sz ([(rf_MO mo mw ma mf m0 m1 mu mv u0 u1 iz th mb mn mpt mbg mwr mwk mlf men), (rf_RW ct 0 mw 958 f), (rf_RW ct 0 m0 958 s0), (rf_RW ct 0 m1 958 s1), (rf_RW ct 2 iz 2 k)] ++ ws))) (va_Qi (fun (r : Int32) (u : va_W × Int32 × (Nat → Int32) × (Nat → Int32) × (Nat → Int32)) => match u with | (u9, th1, s01, s11, k1) => ty_V ct S ph u9 ∧ ((k1 0 = 0 ∨ rf_E s01) ∧ (k1 1 = 0 ∨ rf_E s11)) ∧ rf_sv p1 k s0 s1 f k1 s01 s11 r th1) (cmB D ([(rf_MO mo mw ma mf m0 m1 mu mv u0 u1 iz th mb mn mpt mbg mwr mwk mlf men), (rf_RW ct 0 mw 958 f), (rf_RW ct 0 m0 958 s0), (rf_RW ct 0 m1 958 s1), (rf_RW ct 2 iz 2 k)] ++ ws) sz (fun (u : va_W × Int32 × (Nat → Int32) × (Nat → Int32) × (Nat → Int32)) => match u with | (u9, th1, s01, s11, k1) => ([(rf_MO mo mw ma mf m0 m1 mu mv u0 u1 iz th1 mb mn mpt mbg mwr mwk mlf men), (rf_RW ct 0 mw 958 f), (rf_RW ct 0 m0 958 s01), (rf_RW ct 0 m1 958 s11), (rf_RW ct 2 iz 2 k1)] ++ u9))) (va_A ([(rf_MO mo mw ma mf m0 m1 mu mv u0 u1 iz th mb mn mpt mbg mwr mwk mlf men), (rf_RW ct 0 mw 958 f), (rf_RW ct 0 m0 958 s0), (rf_RW ct 0 m1 958 s1), (rf_RW ct 2 iz 2 k)] ++ ws) sz)) 0 0 (va_A ([(rf_MO mo mw ma mf m0 m1 mu mv u0 u1 iz th mb mn mpt mbg mwr mwk mlf men), (rf_RW ct 0 mw 958 f), (rf_RW ct 0 m0 958 s0), (rf_RW ct 0 m1 958 s1), (rf_RW ct 2 iz 2 k)] ++ ws) sz) := by
  refine Met.ofW (cc := cX11_saveSnapshot) (maxL := 2) (ret := (some .int)) (by decide) rfl ?_
  intro p e s m args below meth c s₁ B hml hv
  obtain ⟨rfl, hsz, hP, hK, hD0, hX⟩ := hv
  have hx := B.exec
  have hb := B.bytes
  have hr := B.returns
  have hts := ws_all (atoms_spec (ws := ws_ yX11_saveSnapshot cX11_saveSnapshot 2 (some .int)) B.pre)
  have hown : s.vm.findClass RX11 = some m.cls := findClass_of_methodNamed B.named
  have hlocks := B.notSynchronized
  subst hsz
  have hD := hD0.self (sz := s.heap.size)
  generalize hAe : va_A ([(rf_MO mo mw ma mf m0 m1 mu mv u0 u1 iz th mb mn mpt mbg mwr mwk mlf men), (rf_RW ct 0 mw 958 f), (rf_RW ct 0 m0 958 s0), (rf_RW ct 0 m1 958 s1), (rf_RW ct 2 iz 2 k)] ++ ws) s.heap.size = A at hD hX ⊢
  have hA : ∀ q : Nat, s.heap.size ≤ q → A q := fun q h => by rw [← hAe]; exact Or.inr h
  have hS : va_S A s.heap s.heap [] := va_S.rf
  have hl := lv_entry ([.ref mo, .int p1]) (n := 2) (Nat.le_of_ble_eq_true rfl)
  rw [lg_entry_eq]
  generalize (lg_sl ([.ref mo, .int p1]) ++ List.replicate (2 - (lg_sl ([.ref mo, .int p1])).length) Slot.unset).toArray = ls at hl ⊢
  have hl : lv_has ls 2 [(0, .ref mo), (1, .int p1)] := hl
  refine lv_aload_n hx hb dX11_saveSnapshot_0 rfl (lv_at hl 0 rfl) ?_
  refine lv_iload_n hx hb dX11_saveSnapshot_1 rfl (lv_at hl 1 rfl) ?_
  have hP : va_P D vwCl ([(rf_RW ct 0 mw 958 f), (rf_RW ct 0 m0 958 s0), (rf_RW ct 0 m1 958 s1), (rf_RW ct 2 iz 2 k), (rf_MO mo mw ma mf m0 m1 mu mv u0 u1 iz th mb mn mpt mbg mwr mwk mlf men)] ++ ws) s.heap := ty_permP hP (ty_ordp (E := [(rf_MO mo mw ma mf m0 m1 mu mv u0 u1 iz th mb mn mpt mbg mwr mwk mlf men), (rf_RW ct 0 mw 958 f), (rf_RW ct 0 m0 958 s0), (rf_RW ct 0 m1 958 s1), (rf_RW ct 2 iz 2 k)]) (E2 := [(rf_RW ct 0 mw 958 f), (rf_RW ct 0 m0 958 s0), (rf_RW ct 0 m1 958 s1), (rf_RW ct 2 iz 2 k), (rf_MO mo mw ma mf m0 m1 mu mv u0 u1 iz th mb mn mpt mbg mwr mwk mlf men)]) (n := 5) [1, 2, 3, 4, 0] rfl rfl (by decide))
  have hD : va_D A ([(rf_RW ct 0 mw 958 f), (rf_RW ct 0 m0 958 s0), (rf_RW ct 0 m1 958 s1), (rf_RW ct 2 iz 2 k), (rf_MO mo mw ma mf m0 m1 mu mv u0 u1 iz th mb mn mpt mbg mwr mwk mlf men)] ++ ws) := ty_permD hD (ty_ordp (E := [(rf_MO mo mw ma mf m0 m1 mu mv u0 u1 iz th mb mn mpt mbg mwr mwk mlf men), (rf_RW ct 0 mw 958 f), (rf_RW ct 0 m0 958 s0), (rf_RW ct 0 m1 958 s1), (rf_RW ct 2 iz 2 k)]) (E2 := [(rf_RW ct 0 mw 958 f), (rf_RW ct 0 m0 958 s0), (rf_RW ct 0 m1 958 s1), (rf_RW ct 2 iz 2 k), (rf_MO mo mw ma mf m0 m1 mu mv u0 u1 iz th mb mn mpt mbg mwr mwk mlf men)]) (n := 5) [1, 2, 3, 4, 0] rfl rfl (by decide))
  refine ty_ki (wr := [(rf_RW ct 0 mw 958 f), (rf_RW ct 0 m0 958 s0), (rf_RW ct 0 m1 958 s1), (rf_RW ct 2 iz 2 k)]) (wc := ([(rf_MO mo mw ma mf m0 m1 mu mv u0 u1 iz th mb mn mpt mbg mwr mwk mlf men)] ++ ws)) (va_runV (As := [.int p1]) (rest := []) ⟨hx, hb, hml, hown, hts⟩ (m_noSlot l D ct S ws ph xx mo mw ma mf m0 m1 mu mv u0 u1 iz mb th mn mpt mbg mwr mwk mlf men p1 _ hT h_mu h_mv h_u0 h_u1 hph hy1) (cm_V 1 hts kc_X11_noSlot ki_RX11 kl_RX11_402 kv_X11_noSlot kx_X11_noSlot kd_X11_noSlot ⟨Nat.le_of_ble_eq_true rfl, Nat.le_of_ble_eq_true rfl⟩) (ty_preE (wr := [(rf_RW ct 0 mw 958 f), (rf_RW ct 0 m0 958 s0), (rf_RW ct 0 m1 958 s1), (rf_RW ct 2 iz 2 k)]) (wc := ([(rf_MO mo mw ma mf m0 m1 mu mv u0 u1 iz th mb mn mpt mbg mwr mwk mlf men)] ++ ws)) (ci := 11) (q0 := 4) hP hK hD hS hA hX rfl rfl) rfl rfl hl.1 rfl (lv_room (Nat.le_of_ble_eq_true rfl)) dX11_saveSnapshot_2 ⟨Nat.le_of_ble_eq_true rfl, Nat.le_of_ble_eq_true rfl⟩) hP hD hS hA (fun r_1 u H locs hw_2 hP hD hS => ?_)
  obtain ⟨ws_3, th1_4⟩ := u
  obtain ⟨hT, hp_5⟩ := hw_2
  have hp_5 : ((r_1 = 0 ∧ (p1 = 0 ∨ p1 = 1) ∧ th1_4 = 0) ∨ (r_1 = 1 ∧ ¬ (p1 = 0 ∨ p1 = 1) ∧ th1_4 = 1)) := hp_5
  have hP : va_P D vwCl ([(rf_RW ct 0 mw 958 f), (rf_RW ct 0 m0 958 s0), (rf_RW ct 0 m1 958 s1), (rf_RW ct 2 iz 2 k), (rf_MO mo mw ma mf m0 m1 mu mv u0 u1 iz th1_4 mb mn mpt mbg mwr mwk mlf men)] ++ ws_3) H := hP
  have hD : va_D A ([(rf_RW ct 0 mw 958 f), (rf_RW ct 0 m0 958 s0), (rf_RW ct 0 m1 958 s1), (rf_RW ct 2 iz 2 k), (rf_MO mo mw ma mf m0 m1 mu mv u0 u1 iz th1_4 mb mn mpt mbg mwr mwk mlf men)] ++ ws_3) := hD
  rcases hp_5 with ⟨rfl, hz_6⟩ | ⟨rfl, hz_7⟩
  · refine lv_if_eq (tgt := 10) hx hb dX11_saveSnapshot_5 (by decide) (fun _ => ?_) (fun hc => absurd (by decide) hc)
    refine lv_aload_n hx hb dX11_saveSnapshot_10 rfl (lv_at hl 0 rfl) ?_
    refine va_get (v := .ref mw) (D := D) (ci := 11) (C := RX11) (T := TX11) (N := 19) hx hb hts in_X11 hown hK hP 4 rfl rfl 0 (by decide) (hts _ kl_RX11_9) (fun _ h9 => h9) rfl dX11_saveSnapshot_11 ?_
    refine lv_iload_n hx hb dX11_saveSnapshot_14 rfl (lv_at hl 1 rfl) ?_
    refine lv_if_ne (tgt := 25) hx hb dX11_saveSnapshot_15 (by decide) (fun hc_8 => ?_) (fun hc_8 => ?_)
    · refine lv_aload_n hx hb dX11_saveSnapshot_25 rfl (lv_at hl 0 rfl) ?_
      refine va_get (v := .ref m1) (D := D) (ci := 11) (C := RX11) (T := TX11) (N := 19) hx hb hts in_X11 hown hK hP 4 rfl rfl 4 (by decide) (hts _ kl_RX11_22) (fun _ h9 => h9) rfl dX11_saveSnapshot_26 ?_
      have hP : va_P D vwCl ([(rf_RW ct 0 m0 958 s0), (rf_RW ct 2 iz 2 k), (rf_MO mo mw ma mf m0 m1 mu mv u0 u1 iz th1_4 mb mn mpt mbg mwr mwk mlf men), (rf_RW ct 0 mw 958 f), (rf_RW ct 0 m1 958 s1)] ++ ws_3) H := ty_permP hP (ty_ordp (E := [(rf_RW ct 0 mw 958 f), (rf_RW ct 0 m0 958 s0), (rf_RW ct 0 m1 958 s1), (rf_RW ct 2 iz 2 k), (rf_MO mo mw ma mf m0 m1 mu mv u0 u1 iz th1_4 mb mn mpt mbg mwr mwk mlf men)]) (E2 := [(rf_RW ct 0 m0 958 s0), (rf_RW ct 2 iz 2 k), (rf_MO mo mw ma mf m0 m1 mu mv u0 u1 iz th1_4 mb mn mpt mbg mwr mwk mlf men), (rf_RW ct 0 mw 958 f), (rf_RW ct 0 m1 958 s1)]) (n := 5) [1, 3, 4, 0, 2] rfl rfl (by decide))
      have hD : va_D A ([(rf_RW ct 0 m0 958 s0), (rf_RW ct 2 iz 2 k), (rf_MO mo mw ma mf m0 m1 mu mv u0 u1 iz th1_4 mb mn mpt mbg mwr mwk mlf men), (rf_RW ct 0 mw 958 f), (rf_RW ct 0 m1 958 s1)] ++ ws_3) := ty_permD hD (ty_ordp (E := [(rf_RW ct 0 mw 958 f), (rf_RW ct 0 m0 958 s0), (rf_RW ct 0 m1 958 s1), (rf_RW ct 2 iz 2 k), (rf_MO mo mw ma mf m0 m1 mu mv u0 u1 iz th1_4 mb mn mpt mbg mwr mwk mlf men)]) (E2 := [(rf_RW ct 0 m0 958 s0), (rf_RW ct 2 iz 2 k), (rf_MO mo mw ma mf m0 m1 mu mv u0 u1 iz th1_4 mb mn mpt mbg mwr mwk mlf men), (rf_RW ct 0 mw 958 f), (rf_RW ct 0 m1 958 s1)]) (n := 5) [1, 3, 4, 0, 2] rfl rfl (by decide))
      refine ty_kv (wr := [(rf_RW ct 0 m0 958 s0), (rf_RW ct 2 iz 2 k), (rf_MO mo mw ma mf m0 m1 mu mv u0 u1 iz th1_4 mb mn mpt mbg mwr mwk mlf men)]) (wc := ([(rf_RW ct 0 mw 958 f), (rf_RW ct 0 m1 958 s1)] ++ ws_3)) (va_runS (As := [.ref mw, .ref m1]) (rest := []) ⟨hx, hb, hml, hown, hts⟩ (m_copies l D ct S ws_3 ph xx mw m1 f s1 _ hT hph hy1) (cm_S 2 hts kc_X11_copies ki_RX11 kl_RX11_205 ks_X11_copies kd_X11_copies ⟨Nat.le_of_ble_eq_true rfl, Nat.le_of_ble_eq_true rfl⟩) (ty_preS (wr := [(rf_RW ct 0 m0 958 s0), (rf_RW ct 2 iz 2 k), (rf_MO mo mw ma mf m0 m1 mu mv u0 u1 iz th1_4 mb mn mpt mbg mwr mwk mlf men)]) (wc := ([(rf_RW ct 0 mw 958 f), (rf_RW ct 0 m1 958 s1)] ++ ws_3)) hP hK hD hS hA hX) rfl rfl hl.1 rfl (lv_room (Nat.le_of_ble_eq_true rfl)) dX11_saveSnapshot_29 ⟨Nat.le_of_ble_eq_true rfl, Nat.le_of_ble_eq_true rfl⟩) hP hD hS hA (fun u H locs hw_10 hP hD hS => ?_)
      obtain ⟨ws_11, h_12⟩ := u
      obtain ⟨hT, hp_13⟩ := hw_10
      have hp_13 : ∀ j : Nat, j < 958 → h_12 j = f j := hp_13
      have hP : va_P D vwCl ([(rf_RW ct 0 m0 958 s0), (rf_RW ct 2 iz 2 k), (rf_MO mo mw ma mf m0 m1 mu mv u0 u1 iz th1_4 mb mn mpt mbg mwr mwk mlf men), (rf_RW ct 0 mw 958 f), (rf_RW ct 0 m1 958 h_12)] ++ ws_11) H := hP
      have hD : va_D A ([(rf_RW ct 0 m0 958 s0), (rf_RW ct 2 iz 2 k), (rf_MO mo mw ma mf m0 m1 mu mv u0 u1 iz th1_4 mb mn mpt mbg mwr mwk mlf men), (rf_RW ct 0 mw 958 f), (rf_RW ct 0 m1 958 h_12)] ++ ws_11) := hD
      refine lv_aload_n hx hb dX11_saveSnapshot_32 rfl (lv_at hl 0 rfl) ?_
      refine va_get (v := .ref mu) (D := D) (ci := 11) (C := RX11) (T := TX11) (N := 19) hx hb hts in_X11 hown hK hP 2 rfl rfl 5 (by decide) (hts _ kl_RX11_25) (fun _ h9 => h9) rfl dX11_saveSnapshot_33 ?_
      refine lv_iload_n hx hb dX11_saveSnapshot_36 rfl (lv_at hl 1 rfl) ?_
      refine lv_if_ne (tgt := 47) hx hb dX11_saveSnapshot_37 (by decide) (fun hc_14 => ?_) (fun hc_14 => ?_)
      · refine lv_aload_n hx hb dX11_saveSnapshot_47 rfl (lv_at hl 0 rfl) ?_
        refine va_get (v := .ref u1) (D := D) (ci := 11) (C := RX11) (T := TX11) (N := 19) hx hb hts in_X11 hown hK hP 2 rfl rfl 8 (by decide) (hts _ kl_RX11_35) (fun _ h9 => h9) rfl dX11_saveSnapshot_48 ?_
        refine ty_kv (wr := [(rf_RW ct 0 m0 958 s0), (rf_RW ct 2 iz 2 k), (rf_MO mo mw ma mf m0 m1 mu mv u0 u1 iz th1_4 mb mn mpt mbg mwr mwk mlf men), (rf_RW ct 0 mw 958 f), (rf_RW ct 0 m1 958 h_12)]) (wc := ([] ++ ws_11)) (va_runS (As := [.ref mu, .ref u1]) (rest := []) ⟨hx, hb, hml, hown, hts⟩ (m_copiesSums l D ct S ws_11 ph xx mu u1 _ hT h_mu h_u1 hph hy1 hy11) (cm_S 2 hts kc_X11_copiesSums ki_RX11 kl_RX11_375 ks_X11_copiesSums kd_X11_copiesSums ⟨Nat.le_of_ble_eq_true rfl, Nat.le_of_ble_eq_true rfl⟩) (ty_preS (wr := [(rf_RW ct 0 m0 958 s0), (rf_RW ct 2 iz 2 k), (rf_MO mo mw ma mf m0 m1 mu mv u0 u1 iz th1_4 mb mn mpt mbg mwr mwk mlf men), (rf_RW ct 0 mw 958 f), (rf_RW ct 0 m1 958 h_12)]) (wc := ([] ++ ws_11)) hP hK hD hS hA hX) rfl rfl hl.1 rfl (lv_room (Nat.le_of_ble_eq_true rfl)) dX11_saveSnapshot_51 ⟨Nat.le_of_ble_eq_true rfl, Nat.le_of_ble_eq_true rfl⟩) hP hD hS hA (fun u H locs hw_16 hP hD hS => ?_)
        obtain ⟨ws_17, rfl⟩ : ∃ z, z = u := ⟨_, rfl⟩
        have hT := hw_16
        have hP : va_P D vwCl ([(rf_RW ct 0 m0 958 s0), (rf_RW ct 2 iz 2 k), (rf_MO mo mw ma mf m0 m1 mu mv u0 u1 iz th1_4 mb mn mpt mbg mwr mwk mlf men), (rf_RW ct 0 mw 958 f), (rf_RW ct 0 m1 958 h_12)] ++ ws_17) H := hP
        have hD : va_D A ([(rf_RW ct 0 m0 958 s0), (rf_RW ct 2 iz 2 k), (rf_MO mo mw ma mf m0 m1 mu mv u0 u1 iz th1_4 mb mn mpt mbg mwr mwk mlf men), (rf_RW ct 0 mw 958 f), (rf_RW ct 0 m1 958 h_12)] ++ ws_17) := hD
        refine lv_aload_n hx hb dX11_saveSnapshot_54 rfl (lv_at hl 0 rfl) ?_
        refine va_get (v := .ref iz) (D := D) (ci := 11) (C := RX11) (T := TX11) (N := 19) hx hb hts in_X11 hown hK hP 2 rfl rfl 9 (by decide) (hts _ kl_RX11_38) (fun _ h9 => h9) rfl dX11_saveSnapshot_55 ?_
        refine lv_iload_n hx hb dX11_saveSnapshot_58 rfl (lv_at hl 1 rfl) ?_
        refine lv_iconst (v := 1) hx hb dX11_saveSnapshot_59 (by decide) ?_
        refine va_zast hx hb hK hP hD hS 1 2 rfl rfl (rf_i2s hz_6.1) dX11_saveSnapshot_60 (fun H locs hP hD hS => ?_)
        have hP : va_P D vwCl ([(rf_RW ct 0 m0 958 s0), (rf_RW ct 2 iz 2 (upd k p1.toNatClampNeg (vp_nar .boolean 1))), (rf_MO mo mw ma mf m0 m1 mu mv u0 u1 iz th1_4 mb mn mpt mbg mwr mwk mlf men), (rf_RW ct 0 mw 958 f), (rf_RW ct 0 m1 958 h_12)] ++ ws_17) H := hP
        have hD : va_D A ([(rf_RW ct 0 m0 958 s0), (rf_RW ct 2 iz 2 (upd k p1.toNatClampNeg (vp_nar .boolean 1))), (rf_MO mo mw ma mf m0 m1 mu mv u0 u1 iz th1_4 mb mn mpt mbg mwr mwk mlf men), (rf_RW ct 0 mw 958 f), (rf_RW ct 0 m1 958 h_12)] ++ ws_17) := hD
        refine lv_aload_n hx hb dX11_saveSnapshot_61 rfl (lv_at hl 0 rfl) ?_
        refine va_get (v := .ref mw) (D := D) (ci := 11) (C := RX11) (T := TX11) (N := 19) hx hb hts in_X11 hown hK hP 2 rfl rfl 0 (by decide) (hts _ kl_RX11_9) (fun _ h9 => h9) rfl dX11_saveSnapshot_62 ?_
        refine lv_bipush (v := 8) hx hb dX11_saveSnapshot_65 (by decide) ?_
        refine va_iald hx hb hK hP 3 0 rfl rfl (cm_vin (by decide)) dX11_saveSnapshot_67 ?_
        refine cm_cst (y := (f 8)) (by first | rfl | decide +kernel) ?_
        have hP : va_P D vwCl ([(rf_MO mo mw ma mf m0 m1 mu mv u0 u1 iz th1_4 mb mn mpt mbg mwr mwk mlf men), (rf_RW ct 0 mw 958 f), (rf_RW ct 0 m0 958 s0), (rf_RW ct 0 m1 958 h_12), (rf_RW ct 2 iz 2 (upd k p1.toNatClampNeg (vp_nar .boolean 1)))] ++ ws_17) H := ty_permP hP (ty_ordp (E := [(rf_RW ct 0 m0 958 s0), (rf_RW ct 2 iz 2 (upd k p1.toNatClampNeg (vp_nar .boolean 1))), (rf_MO mo mw ma mf m0 m1 mu mv u0 u1 iz th1_4 mb mn mpt mbg mwr mwk mlf men), (rf_RW ct 0 mw 958 f), (rf_RW ct 0 m1 958 h_12)]) (E2 := [(rf_MO mo mw ma mf m0 m1 mu mv u0 u1 iz th1_4 mb mn mpt mbg mwr mwk mlf men), (rf_RW ct 0 mw 958 f), (rf_RW ct 0 m0 958 s0), (rf_RW ct 0 m1 958 h_12), (rf_RW ct 2 iz 2 (upd k p1.toNatClampNeg (vp_nar .boolean 1)))]) (n := 5) [2, 3, 0, 4, 1] rfl rfl (by decide))
        have hD : va_D A ([(rf_MO mo mw ma mf m0 m1 mu mv u0 u1 iz th1_4 mb mn mpt mbg mwr mwk mlf men), (rf_RW ct 0 mw 958 f), (rf_RW ct 0 m0 958 s0), (rf_RW ct 0 m1 958 h_12), (rf_RW ct 2 iz 2 (upd k p1.toNatClampNeg (vp_nar .boolean 1)))] ++ ws_17) := ty_permD hD (ty_ordp (E := [(rf_RW ct 0 m0 958 s0), (rf_RW ct 2 iz 2 (upd k p1.toNatClampNeg (vp_nar .boolean 1))), (rf_MO mo mw ma mf m0 m1 mu mv u0 u1 iz th1_4 mb mn mpt mbg mwr mwk mlf men), (rf_RW ct 0 mw 958 f), (rf_RW ct 0 m1 958 h_12)]) (E2 := [(rf_MO mo mw ma mf m0 m1 mu mv u0 u1 iz th1_4 mb mn mpt mbg mwr mwk mlf men), (rf_RW ct 0 mw 958 f), (rf_RW ct 0 m0 958 s0), (rf_RW ct 0 m1 958 h_12), (rf_RW ct 2 iz 2 (upd k p1.toNatClampNeg (vp_nar .boolean 1)))]) (n := 5) [2, 3, 0, 4, 1] rfl rfl (by decide))
        exact W.iret (v := (f 8)) hx hb hr (fun t ht hW => ⟨⟨(f 8), (ws_17, th1_4, s0, h_12, (upd k p1.toNatClampNeg (vp_nar .boolean 1))), rfl, ⟨hT, ⟨⟨rf_sv1 hz_6.1 hc_8 hs0, Or.inr (rf_Ec hE hp_13)⟩, rf_svB hz_6.1 hc_8 (hp_13 8 (by omega)) hz_6.2⟩⟩, by rw [ht]; exact hP, by rw [hAe]; exact hD⟩, hS.F ht⟩) hS.2.2 dX11_saveSnapshot_68
      · refine lv_aload_n hx hb dX11_saveSnapshot_40 rfl (lv_at hl 0 rfl) ?_
        refine va_get (v := .ref u0) (D := D) (ci := 11) (C := RX11) (T := TX11) (N := 19) hx hb hts in_X11 hown hK hP 2 rfl rfl 7 (by decide) (hts _ kl_RX11_32) (fun _ h9 => h9) rfl dX11_saveSnapshot_41 ?_
        refine lv_goto (tgt := 51) hx hb dX11_saveSnapshot_44 (by decide) ?_
        refine ty_kv (wr := [(rf_RW ct 0 m0 958 s0), (rf_RW ct 2 iz 2 k), (rf_MO mo mw ma mf m0 m1 mu mv u0 u1 iz th1_4 mb mn mpt mbg mwr mwk mlf men), (rf_RW ct 0 mw 958 f), (rf_RW ct 0 m1 958 h_12)]) (wc := ([] ++ ws_11)) (va_runS (As := [.ref mu, .ref u0]) (rest := []) ⟨hx, hb, hml, hown, hts⟩ (m_copiesSums l D ct S ws_11 ph xx mu u0 _ hT h_mu h_u0 hph hy1 hy11) (cm_S 2 hts kc_X11_copiesSums ki_RX11 kl_RX11_375 ks_X11_copiesSums kd_X11_copiesSums ⟨Nat.le_of_ble_eq_true rfl, Nat.le_of_ble_eq_true rfl⟩) (ty_preS (wr := [(rf_RW ct 0 m0 958 s0), (rf_RW ct 2 iz 2 k), (rf_MO mo mw ma mf m0 m1 mu mv u0 u1 iz th1_4 mb mn mpt mbg mwr mwk mlf men), (rf_RW ct 0 mw 958 f), (rf_RW ct 0 m1 958 h_12)]) (wc := ([] ++ ws_11)) hP hK hD hS hA hX) rfl rfl hl.1 rfl (lv_room (Nat.le_of_ble_eq_true rfl)) dX11_saveSnapshot_51 ⟨Nat.le_of_ble_eq_true rfl, Nat.le_of_ble_eq_true rfl⟩) hP hD hS hA (fun u H locs hw_19 hP hD hS => ?_)
        obtain ⟨ws_20, rfl⟩ : ∃ z, z = u := ⟨_, rfl⟩
        have hT := hw_19
        have hP : va_P D vwCl ([(rf_RW ct 0 m0 958 s0), (rf_RW ct 2 iz 2 k), (rf_MO mo mw ma mf m0 m1 mu mv u0 u1 iz th1_4 mb mn mpt mbg mwr mwk mlf men), (rf_RW ct 0 mw 958 f), (rf_RW ct 0 m1 958 h_12)] ++ ws_20) H := hP
        have hD : va_D A ([(rf_RW ct 0 m0 958 s0), (rf_RW ct 2 iz 2 k), (rf_MO mo mw ma mf m0 m1 mu mv u0 u1 iz th1_4 mb mn mpt mbg mwr mwk mlf men), (rf_RW ct 0 mw 958 f), (rf_RW ct 0 m1 958 h_12)] ++ ws_20) := hD
        refine lv_aload_n hx hb dX11_saveSnapshot_54 rfl (lv_at hl 0 rfl) ?_
        refine va_get (v := .ref iz) (D := D) (ci := 11) (C := RX11) (T := TX11) (N := 19) hx hb hts in_X11 hown hK hP 2 rfl rfl 9 (by decide) (hts _ kl_RX11_38) (fun _ h9 => h9) rfl dX11_saveSnapshot_55 ?_
        refine lv_iload_n hx hb dX11_saveSnapshot_58 rfl (lv_at hl 1 rfl) ?_
        refine lv_iconst (v := 1) hx hb dX11_saveSnapshot_59 (by decide) ?_
        refine va_zast hx hb hK hP hD hS 1 2 rfl rfl (rf_i2s hz_6.1) dX11_saveSnapshot_60 (fun H locs hP hD hS => ?_)
        have hP : va_P D vwCl ([(rf_RW ct 0 m0 958 s0), (rf_RW ct 2 iz 2 (upd k p1.toNatClampNeg (vp_nar .boolean 1))), (rf_MO mo mw ma mf m0 m1 mu mv u0 u1 iz th1_4 mb mn mpt mbg mwr mwk mlf men), (rf_RW ct 0 mw 958 f), (rf_RW ct 0 m1 958 h_12)] ++ ws_20) H := hP
        have hD : va_D A ([(rf_RW ct 0 m0 958 s0), (rf_RW ct 2 iz 2 (upd k p1.toNatClampNeg (vp_nar .boolean 1))), (rf_MO mo mw ma mf m0 m1 mu mv u0 u1 iz th1_4 mb mn mpt mbg mwr mwk mlf men), (rf_RW ct 0 mw 958 f), (rf_RW ct 0 m1 958 h_12)] ++ ws_20) := hD
        refine lv_aload_n hx hb dX11_saveSnapshot_61 rfl (lv_at hl 0 rfl) ?_
        refine va_get (v := .ref mw) (D := D) (ci := 11) (C := RX11) (T := TX11) (N := 19) hx hb hts in_X11 hown hK hP 2 rfl rfl 0 (by decide) (hts _ kl_RX11_9) (fun _ h9 => h9) rfl dX11_saveSnapshot_62 ?_
        refine lv_bipush (v := 8) hx hb dX11_saveSnapshot_65 (by decide) ?_
        refine va_iald hx hb hK hP 3 0 rfl rfl (cm_vin (by decide)) dX11_saveSnapshot_67 ?_
        refine cm_cst (y := (f 8)) (by first | rfl | decide +kernel) ?_
        have hP : va_P D vwCl ([(rf_MO mo mw ma mf m0 m1 mu mv u0 u1 iz th1_4 mb mn mpt mbg mwr mwk mlf men), (rf_RW ct 0 mw 958 f), (rf_RW ct 0 m0 958 s0), (rf_RW ct 0 m1 958 h_12), (rf_RW ct 2 iz 2 (upd k p1.toNatClampNeg (vp_nar .boolean 1)))] ++ ws_20) H := ty_permP hP (ty_ordp (E := [(rf_RW ct 0 m0 958 s0), (rf_RW ct 2 iz 2 (upd k p1.toNatClampNeg (vp_nar .boolean 1))), (rf_MO mo mw ma mf m0 m1 mu mv u0 u1 iz th1_4 mb mn mpt mbg mwr mwk mlf men), (rf_RW ct 0 mw 958 f), (rf_RW ct 0 m1 958 h_12)]) (E2 := [(rf_MO mo mw ma mf m0 m1 mu mv u0 u1 iz th1_4 mb mn mpt mbg mwr mwk mlf men), (rf_RW ct 0 mw 958 f), (rf_RW ct 0 m0 958 s0), (rf_RW ct 0 m1 958 h_12), (rf_RW ct 2 iz 2 (upd k p1.toNatClampNeg (vp_nar .boolean 1)))]) (n := 5) [2, 3, 0, 4, 1] rfl rfl (by decide))
        have hD : va_D A ([(rf_MO mo mw ma mf m0 m1 mu mv u0 u1 iz th1_4 mb mn mpt mbg mwr mwk mlf men), (rf_RW ct 0 mw 958 f), (rf_RW ct 0 m0 958 s0), (rf_RW ct 0 m1 958 h_12), (rf_RW ct 2 iz 2 (upd k p1.toNatClampNeg (vp_nar .boolean 1)))] ++ ws_20) := ty_permD hD (ty_ordp (E := [(rf_RW ct 0 m0 958 s0), (rf_RW ct 2 iz 2 (upd k p1.toNatClampNeg (vp_nar .boolean 1))), (rf_MO mo mw ma mf m0 m1 mu mv u0 u1 iz th1_4 mb mn mpt mbg mwr mwk mlf men), (rf_RW ct 0 mw 958 f), (rf_RW ct 0 m1 958 h_12)]) (E2 := [(rf_MO mo mw ma mf m0 m1 mu mv u0 u1 iz th1_4 mb mn mpt mbg mwr mwk mlf men), (rf_RW ct 0 mw 958 f), (rf_RW ct 0 m0 958 s0), (rf_RW ct 0 m1 958 h_12), (rf_RW ct 2 iz 2 (upd k p1.toNatClampNeg (vp_nar .boolean 1)))]) (n := 5) [2, 3, 0, 4, 1] rfl rfl (by decide))
        exact W.iret (v := (f 8)) hx hb hr (fun t ht hW => ⟨⟨(f 8), (ws_20, th1_4, s0, h_12, (upd k p1.toNatClampNeg (vp_nar .boolean 1))), rfl, ⟨hT, ⟨⟨rf_sv1 hz_6.1 hc_8 hs0, Or.inr (rf_Ec hE hp_13)⟩, rf_svB hz_6.1 hc_8 (hp_13 8 (by omega)) hz_6.2⟩⟩, by rw [ht]; exact hP, by rw [hAe]; exact hD⟩, hS.F ht⟩) hS.2.2 dX11_saveSnapshot_68
    · refine lv_aload_n hx hb dX11_saveSnapshot_18 rfl (lv_at hl 0 rfl) ?_
      refine va_get (v := .ref m0) (D := D) (ci := 11) (C := RX11) (T := TX11) (N := 19) hx hb hts in_X11 hown hK hP 4 rfl rfl 3 (by decide) (hts _ kl_RX11_19) (fun _ h9 => h9) rfl dX11_saveSnapshot_19 ?_
      refine lv_goto (tgt := 29) hx hb dX11_saveSnapshot_22 (by decide) ?_
      have hP : va_P D vwCl ([(rf_RW ct 0 m1 958 s1), (rf_RW ct 2 iz 2 k), (rf_MO mo mw ma mf m0 m1 mu mv u0 u1 iz th1_4 mb mn mpt mbg mwr mwk mlf men), (rf_RW ct 0 mw 958 f), (rf_RW ct 0 m0 958 s0)] ++ ws_3) H := ty_permP hP (ty_ordp (E := [(rf_RW ct 0 mw 958 f), (rf_RW ct 0 m0 958 s0), (rf_RW ct 0 m1 958 s1), (rf_RW ct 2 iz 2 k), (rf_MO mo mw ma mf m0 m1 mu mv u0 u1 iz th1_4 mb mn mpt mbg mwr mwk mlf men)]) (E2 := [(rf_RW ct 0 m1 958 s1), (rf_RW ct 2 iz 2 k), (rf_MO mo mw ma mf m0 m1 mu mv u0 u1 iz th1_4 mb mn mpt mbg mwr mwk mlf men), (rf_RW ct 0 mw 958 f), (rf_RW ct 0 m0 958 s0)]) (n := 5) [2, 3, 4, 0, 1] rfl rfl (by decide))
      have hD : va_D A ([(rf_RW ct 0 m1 958 s1), (rf_RW ct 2 iz 2 k), (rf_MO mo mw ma mf m0 m1 mu mv u0 u1 iz th1_4 mb mn mpt mbg mwr mwk mlf men), (rf_RW ct 0 mw 958 f), (rf_RW ct 0 m0 958 s0)] ++ ws_3) := ty_permD hD (ty_ordp (E := [(rf_RW ct 0 mw 958 f), (rf_RW ct 0 m0 958 s0), (rf_RW ct 0 m1 958 s1), (rf_RW ct 2 iz 2 k), (rf_MO mo mw ma mf m0 m1 mu mv u0 u1 iz th1_4 mb mn mpt mbg mwr mwk mlf men)]) (E2 := [(rf_RW ct 0 m1 958 s1), (rf_RW ct 2 iz 2 k), (rf_MO mo mw ma mf m0 m1 mu mv u0 u1 iz th1_4 mb mn mpt mbg mwr mwk mlf men), (rf_RW ct 0 mw 958 f), (rf_RW ct 0 m0 958 s0)]) (n := 5) [2, 3, 4, 0, 1] rfl rfl (by decide))
      refine ty_kv (wr := [(rf_RW ct 0 m1 958 s1), (rf_RW ct 2 iz 2 k), (rf_MO mo mw ma mf m0 m1 mu mv u0 u1 iz th1_4 mb mn mpt mbg mwr mwk mlf men)]) (wc := ([(rf_RW ct 0 mw 958 f), (rf_RW ct 0 m0 958 s0)] ++ ws_3)) (va_runS (As := [.ref mw, .ref m0]) (rest := []) ⟨hx, hb, hml, hown, hts⟩ (m_copies l D ct S ws_3 ph xx mw m0 f s0 _ hT hph hy1) (cm_S 2 hts kc_X11_copies ki_RX11 kl_RX11_205 ks_X11_copies kd_X11_copies ⟨Nat.le_of_ble_eq_true rfl, Nat.le_of_ble_eq_true rfl⟩) (ty_preS (wr := [(rf_RW ct 0 m1 958 s1), (rf_RW ct 2 iz 2 k), (rf_MO mo mw ma mf m0 m1 mu mv u0 u1 iz th1_4 mb mn mpt mbg mwr mwk mlf men)]) (wc := ([(rf_RW ct 0 mw 958 f), (rf_RW ct 0 m0 958 s0)] ++ ws_3)) hP hK hD hS hA hX) rfl rfl hl.1 rfl (lv_room (Nat.le_of_ble_eq_true rfl)) dX11_saveSnapshot_29 ⟨Nat.le_of_ble_eq_true rfl, Nat.le_of_ble_eq_true rfl⟩) hP hD hS hA (fun u H locs hw_22 hP hD hS => ?_)
      obtain ⟨ws_23, h_24⟩ := u
      obtain ⟨hT, hp_25⟩ := hw_22
      have hp_25 : ∀ j : Nat, j < 958 → h_24 j = f j := hp_25
      have hP : va_P D vwCl ([(rf_RW ct 0 m1 958 s1), (rf_RW ct 2 iz 2 k), (rf_MO mo mw ma mf m0 m1 mu mv u0 u1 iz th1_4 mb mn mpt mbg mwr mwk mlf men), (rf_RW ct 0 mw 958 f), (rf_RW ct 0 m0 958 h_24)] ++ ws_23) H := hP
      have hD : va_D A ([(rf_RW ct 0 m1 958 s1), (rf_RW ct 2 iz 2 k), (rf_MO mo mw ma mf m0 m1 mu mv u0 u1 iz th1_4 mb mn mpt mbg mwr mwk mlf men), (rf_RW ct 0 mw 958 f), (rf_RW ct 0 m0 958 h_24)] ++ ws_23) := hD
      refine lv_aload_n hx hb dX11_saveSnapshot_32 rfl (lv_at hl 0 rfl) ?_
      refine va_get (v := .ref mu) (D := D) (ci := 11) (C := RX11) (T := TX11) (N := 19) hx hb hts in_X11 hown hK hP 2 rfl rfl 5 (by decide) (hts _ kl_RX11_25) (fun _ h9 => h9) rfl dX11_saveSnapshot_33 ?_
      refine lv_iload_n hx hb dX11_saveSnapshot_36 rfl (lv_at hl 1 rfl) ?_
      refine lv_if_ne (tgt := 47) hx hb dX11_saveSnapshot_37 (by decide) (fun hc_26 => ?_) (fun hc_26 => ?_)
      · refine lv_aload_n hx hb dX11_saveSnapshot_47 rfl (lv_at hl 0 rfl) ?_
        refine va_get (v := .ref u1) (D := D) (ci := 11) (C := RX11) (T := TX11) (N := 19) hx hb hts in_X11 hown hK hP 2 rfl rfl 8 (by decide) (hts _ kl_RX11_35) (fun _ h9 => h9) rfl dX11_saveSnapshot_48 ?_
        refine ty_kv (wr := [(rf_RW ct 0 m1 958 s1), (rf_RW ct 2 iz 2 k), (rf_MO mo mw ma mf m0 m1 mu mv u0 u1 iz th1_4 mb mn mpt mbg mwr mwk mlf men), (rf_RW ct 0 mw 958 f), (rf_RW ct 0 m0 958 h_24)]) (wc := ([] ++ ws_23)) (va_runS (As := [.ref mu, .ref u1]) (rest := []) ⟨hx, hb, hml, hown, hts⟩ (m_copiesSums l D ct S ws_23 ph xx mu u1 _ hT h_mu h_u1 hph hy1 hy11) (cm_S 2 hts kc_X11_copiesSums ki_RX11 kl_RX11_375 ks_X11_copiesSums kd_X11_copiesSums ⟨Nat.le_of_ble_eq_true rfl, Nat.le_of_ble_eq_true rfl⟩) (ty_preS (wr := [(rf_RW ct 0 m1 958 s1), (rf_RW ct 2 iz 2 k), (rf_MO mo mw ma mf m0 m1 mu mv u0 u1 iz th1_4 mb mn mpt mbg mwr mwk mlf men), (rf_RW ct 0 mw 958 f), (rf_RW ct 0 m0 958 h_24)]) (wc := ([] ++ ws_23)) hP hK hD hS hA hX) rfl rfl hl.1 rfl (lv_room (Nat.le_of_ble_eq_true rfl)) dX11_saveSnapshot_51 ⟨Nat.le_of_ble_eq_true rfl, Nat.le_of_ble_eq_true rfl⟩) hP hD hS hA (fun u H locs hw_28 hP hD hS => ?_)
        obtain ⟨ws_29, rfl⟩ : ∃ z, z = u := ⟨_, rfl⟩
        have hT := hw_28
        have hP : va_P D vwCl ([(rf_RW ct 0 m1 958 s1), (rf_RW ct 2 iz 2 k), (rf_MO mo mw ma mf m0 m1 mu mv u0 u1 iz th1_4 mb mn mpt mbg mwr mwk mlf men), (rf_RW ct 0 mw 958 f), (rf_RW ct 0 m0 958 h_24)] ++ ws_29) H := hP
        have hD : va_D A ([(rf_RW ct 0 m1 958 s1), (rf_RW ct 2 iz 2 k), (rf_MO mo mw ma mf m0 m1 mu mv u0 u1 iz th1_4 mb mn mpt mbg mwr mwk mlf men), (rf_RW ct 0 mw 958 f), (rf_RW ct 0 m0 958 h_24)] ++ ws_29) := hD
        refine lv_aload_n hx hb dX11_saveSnapshot_54 rfl (lv_at hl 0 rfl) ?_
        refine va_get (v := .ref iz) (D := D) (ci := 11) (C := RX11) (T := TX11) (N := 19) hx hb hts in_X11 hown hK hP 2 rfl rfl 9 (by decide) (hts _ kl_RX11_38) (fun _ h9 => h9) rfl dX11_saveSnapshot_55 ?_
        refine lv_iload_n hx hb dX11_saveSnapshot_58 rfl (lv_at hl 1 rfl) ?_
        refine lv_iconst (v := 1) hx hb dX11_saveSnapshot_59 (by decide) ?_
        refine va_zast hx hb hK hP hD hS 1 2 rfl rfl (rf_i2s hz_6.1) dX11_saveSnapshot_60 (fun H locs hP hD hS => ?_)
        have hP : va_P D vwCl ([(rf_RW ct 0 m1 958 s1), (rf_RW ct 2 iz 2 (upd k p1.toNatClampNeg (vp_nar .boolean 1))), (rf_MO mo mw ma mf m0 m1 mu mv u0 u1 iz th1_4 mb mn mpt mbg mwr mwk mlf men), (rf_RW ct 0 mw 958 f), (rf_RW ct 0 m0 958 h_24)] ++ ws_29) H := hP
        have hD : va_D A ([(rf_RW ct 0 m1 958 s1), (rf_RW ct 2 iz 2 (upd k p1.toNatClampNeg (vp_nar .boolean 1))), (rf_MO mo mw ma mf m0 m1 mu mv u0 u1 iz th1_4 mb mn mpt mbg mwr mwk mlf men), (rf_RW ct 0 mw 958 f), (rf_RW ct 0 m0 958 h_24)] ++ ws_29) := hD
        refine lv_aload_n hx hb dX11_saveSnapshot_61 rfl (lv_at hl 0 rfl) ?_
        refine va_get (v := .ref mw) (D := D) (ci := 11) (C := RX11) (T := TX11) (N := 19) hx hb hts in_X11 hown hK hP 2 rfl rfl 0 (by decide) (hts _ kl_RX11_9) (fun _ h9 => h9) rfl dX11_saveSnapshot_62 ?_
        refine lv_bipush (v := 8) hx hb dX11_saveSnapshot_65 (by decide) ?_
        refine va_iald hx hb hK hP 3 0 rfl rfl (cm_vin (by decide)) dX11_saveSnapshot_67 ?_
        refine cm_cst (y := (f 8)) (by first | rfl | decide +kernel) ?_
        have hP : va_P D vwCl ([(rf_MO mo mw ma mf m0 m1 mu mv u0 u1 iz th1_4 mb mn mpt mbg mwr mwk mlf men), (rf_RW ct 0 mw 958 f), (rf_RW ct 0 m0 958 h_24), (rf_RW ct 0 m1 958 s1), (rf_RW ct 2 iz 2 (upd k p1.toNatClampNeg (vp_nar .boolean 1)))] ++ ws_29) H := ty_permP hP (ty_ordp (E := [(rf_RW ct 0 m1 958 s1), (rf_RW ct 2 iz 2 (upd k p1.toNatClampNeg (vp_nar .boolean 1))), (rf_MO mo mw ma mf m0 m1 mu mv u0 u1 iz th1_4 mb mn mpt mbg mwr mwk mlf men), (rf_RW ct 0 mw 958 f), (rf_RW ct 0 m0 958 h_24)]) (E2 := [(rf_MO mo mw ma mf m0 m1 mu mv u0 u1 iz th1_4 mb mn mpt mbg mwr mwk mlf men), (rf_RW ct 0 mw 958 f), (rf_RW ct 0 m0 958 h_24), (rf_RW ct 0 m1 958 s1), (rf_RW ct 2 iz 2 (upd k p1.toNatClampNeg (vp_nar .boolean 1)))]) (n := 5) [2, 3, 4, 0, 1] rfl rfl (by decide))
        have hD : va_D A ([(rf_MO mo mw ma mf m0 m1 mu mv u0 u1 iz th1_4 mb mn mpt mbg mwr mwk mlf men), (rf_RW ct 0 mw 958 f), (rf_RW ct 0 m0 958 h_24), (rf_RW ct 0 m1 958 s1), (rf_RW ct 2 iz 2 (upd k p1.toNatClampNeg (vp_nar .boolean 1)))] ++ ws_29) := ty_permD hD (ty_ordp (E := [(rf_RW ct 0 m1 958 s1), (rf_RW ct 2 iz 2 (upd k p1.toNatClampNeg (vp_nar .boolean 1))), (rf_MO mo mw ma mf m0 m1 mu mv u0 u1 iz th1_4 mb mn mpt mbg mwr mwk mlf men), (rf_RW ct 0 mw 958 f), (rf_RW ct 0 m0 958 h_24)]) (E2 := [(rf_MO mo mw ma mf m0 m1 mu mv u0 u1 iz th1_4 mb mn mpt mbg mwr mwk mlf men), (rf_RW ct 0 mw 958 f), (rf_RW ct 0 m0 958 h_24), (rf_RW ct 0 m1 958 s1), (rf_RW ct 2 iz 2 (upd k p1.toNatClampNeg (vp_nar .boolean 1)))]) (n := 5) [2, 3, 4, 0, 1] rfl rfl (by decide))
        exact W.iret (v := (f 8)) hx hb hr (fun t ht hW => ⟨⟨(f 8), (ws_29, th1_4, h_24, s1, (upd k p1.toNatClampNeg (vp_nar .boolean 1))), rfl, ⟨hT, ⟨⟨Or.inr (rf_Ec hE hp_25), rf_sv0 hc_8 hs1⟩, rf_svA hc_8 (hp_25 8 (by omega)) hz_6.2⟩⟩, by rw [ht]; exact hP, by rw [hAe]; exact hD⟩, hS.F ht⟩) hS.2.2 dX11_saveSnapshot_68
      · refine lv_aload_n hx hb dX11_saveSnapshot_40 rfl (lv_at hl 0 rfl) ?_
        refine va_get (v := .ref u0) (D := D) (ci := 11) (C := RX11) (T := TX11) (N := 19) hx hb hts in_X11 hown hK hP 2 rfl rfl 7 (by decide) (hts _ kl_RX11_32) (fun _ h9 => h9) rfl dX11_saveSnapshot_41 ?_
        refine lv_goto (tgt := 51) hx hb dX11_saveSnapshot_44 (by decide) ?_
        refine ty_kv (wr := [(rf_RW ct 0 m1 958 s1), (rf_RW ct 2 iz 2 k), (rf_MO mo mw ma mf m0 m1 mu mv u0 u1 iz th1_4 mb mn mpt mbg mwr mwk mlf men), (rf_RW ct 0 mw 958 f), (rf_RW ct 0 m0 958 h_24)]) (wc := ([] ++ ws_23)) (va_runS (As := [.ref mu, .ref u0]) (rest := []) ⟨hx, hb, hml, hown, hts⟩ (m_copiesSums l D ct S ws_23 ph xx mu u0 _ hT h_mu h_u0 hph hy1 hy11) (cm_S 2 hts kc_X11_copiesSums ki_RX11 kl_RX11_375 ks_X11_copiesSums kd_X11_copiesSums ⟨Nat.le_of_ble_eq_true rfl, Nat.le_of_ble_eq_true rfl⟩) (ty_preS (wr := [(rf_RW ct 0 m1 958 s1), (rf_RW ct 2 iz 2 k), (rf_MO mo mw ma mf m0 m1 mu mv u0 u1 iz th1_4 mb mn mpt mbg mwr mwk mlf men), (rf_RW ct 0 mw 958 f), (rf_RW ct 0 m0 958 h_24)]) (wc := ([] ++ ws_23)) hP hK hD hS hA hX) rfl rfl hl.1 rfl (lv_room (Nat.le_of_ble_eq_true rfl)) dX11_saveSnapshot_51 ⟨Nat.le_of_ble_eq_true rfl, Nat.le_of_ble_eq_true rfl⟩) hP hD hS hA (fun u H locs hw_31 hP hD hS => ?_)
        obtain ⟨ws_32, rfl⟩ : ∃ z, z = u := ⟨_, rfl⟩
        have hT := hw_31
        have hP : va_P D vwCl ([(rf_RW ct 0 m1 958 s1), (rf_RW ct 2 iz 2 k), (rf_MO mo mw ma mf m0 m1 mu mv u0 u1 iz th1_4 mb mn mpt mbg mwr mwk mlf men), (rf_RW ct 0 mw 958 f), (rf_RW ct 0 m0 958 h_24)] ++ ws_32) H := hP
        have hD : va_D A ([(rf_RW ct 0 m1 958 s1), (rf_RW ct 2 iz 2 k), (rf_MO mo mw ma mf m0 m1 mu mv u0 u1 iz th1_4 mb mn mpt mbg mwr mwk mlf men), (rf_RW ct 0 mw 958 f), (rf_RW ct 0 m0 958 h_24)] ++ ws_32) := hD
        refine lv_aload_n hx hb dX11_saveSnapshot_54 rfl (lv_at hl 0 rfl) ?_
        refine va_get (v := .ref iz) (D := D) (ci := 11) (C := RX11) (T := TX11) (N := 19) hx hb hts in_X11 hown hK hP 2 rfl rfl 9 (by decide) (hts _ kl_RX11_38) (fun _ h9 => h9) rfl dX11_saveSnapshot_55 ?_
        refine lv_iload_n hx hb dX11_saveSnapshot_58 rfl (lv_at hl 1 rfl) ?_
        refine lv_iconst (v := 1) hx hb dX11_saveSnapshot_59 (by decide) ?_
        refine va_zast hx hb hK hP hD hS 1 2 rfl rfl (rf_i2s hz_6.1) dX11_saveSnapshot_60 (fun H locs hP hD hS => ?_)
        have hP : va_P D vwCl ([(rf_RW ct 0 m1 958 s1), (rf_RW ct 2 iz 2 (upd k p1.toNatClampNeg (vp_nar .boolean 1))), (rf_MO mo mw ma mf m0 m1 mu mv u0 u1 iz th1_4 mb mn mpt mbg mwr mwk mlf men), (rf_RW ct 0 mw 958 f), (rf_RW ct 0 m0 958 h_24)] ++ ws_32) H := hP
        have hD : va_D A ([(rf_RW ct 0 m1 958 s1), (rf_RW ct 2 iz 2 (upd k p1.toNatClampNeg (vp_nar .boolean 1))), (rf_MO mo mw ma mf m0 m1 mu mv u0 u1 iz th1_4 mb mn mpt mbg mwr mwk mlf men), (rf_RW ct 0 mw 958 f), (rf_RW ct 0 m0 958 h_24)] ++ ws_32) := hD
        refine lv_aload_n hx hb dX11_saveSnapshot_61 rfl (lv_at hl 0 rfl) ?_
        refine va_get (v := .ref mw) (D := D) (ci := 11) (C := RX11) (T := TX11) (N := 19) hx hb hts in_X11 hown hK hP 2 rfl rfl 0 (by decide) (hts _ kl_RX11_9) (fun _ h9 => h9) rfl dX11_saveSnapshot_62 ?_
        refine lv_bipush (v := 8) hx hb dX11_saveSnapshot_65 (by decide) ?_
        refine va_iald hx hb hK hP 3 0 rfl rfl (cm_vin (by decide)) dX11_saveSnapshot_67 ?_
        refine cm_cst (y := (f 8)) (by first | rfl | decide +kernel) ?_
        have hP : va_P D vwCl ([(rf_MO mo mw ma mf m0 m1 mu mv u0 u1 iz th1_4 mb mn mpt mbg mwr mwk mlf men), (rf_RW ct 0 mw 958 f), (rf_RW ct 0 m0 958 h_24), (rf_RW ct 0 m1 958 s1), (rf_RW ct 2 iz 2 (upd k p1.toNatClampNeg (vp_nar .boolean 1)))] ++ ws_32) H := ty_permP hP (ty_ordp (E := [(rf_RW ct 0 m1 958 s1), (rf_RW ct 2 iz 2 (upd k p1.toNatClampNeg (vp_nar .boolean 1))), (rf_MO mo mw ma mf m0 m1 mu mv u0 u1 iz th1_4 mb mn mpt mbg mwr mwk mlf men), (rf_RW ct 0 mw 958 f), (rf_RW ct 0 m0 958 h_24)]) (E2 := [(rf_MO mo mw ma mf m0 m1 mu mv u0 u1 iz th1_4 mb mn mpt mbg mwr mwk mlf men), (rf_RW ct 0 mw 958 f), (rf_RW ct 0 m0 958 h_24), (rf_RW ct 0 m1 958 s1), (rf_RW ct 2 iz 2 (upd k p1.toNatClampNeg (vp_nar .boolean 1)))]) (n := 5) [2, 3, 4, 0, 1] rfl rfl (by decide))
        have hD : va_D A ([(rf_MO mo mw ma mf m0 m1 mu mv u0 u1 iz th1_4 mb mn mpt mbg mwr mwk mlf men), (rf_RW ct 0 mw 958 f), (rf_RW ct 0 m0 958 h_24), (rf_RW ct 0 m1 958 s1), (rf_RW ct 2 iz 2 (upd k p1.toNatClampNeg (vp_nar .boolean 1)))] ++ ws_32) := ty_permD hD (ty_ordp (E := [(rf_RW ct 0 m1 958 s1), (rf_RW ct 2 iz 2 (upd k p1.toNatClampNeg (vp_nar .boolean 1))), (rf_MO mo mw ma mf m0 m1 mu mv u0 u1 iz th1_4 mb mn mpt mbg mwr mwk mlf men), (rf_RW ct 0 mw 958 f), (rf_RW ct 0 m0 958 h_24)]) (E2 := [(rf_MO mo mw ma mf m0 m1 mu mv u0 u1 iz th1_4 mb mn mpt mbg mwr mwk mlf men), (rf_RW ct 0 mw 958 f), (rf_RW ct 0 m0 958 h_24), (rf_RW ct 0 m1 958 s1), (rf_RW ct 2 iz 2 (upd k p1.toNatClampNeg (vp_nar .boolean 1)))]) (n := 5) [2, 3, 4, 0, 1] rfl rfl (by decide))
        exact W.iret (v := (f 8)) hx hb hr (fun t ht hW => ⟨⟨(f 8), (ws_32, th1_4, h_24, s1, (upd k p1.toNatClampNeg (vp_nar .boolean 1))), rfl, ⟨hT, ⟨⟨Or.inr (rf_Ec hE hp_25), rf_sv0 hc_8 hs1⟩, rf_svA hc_8 (hp_25 8 (by omega)) hz_6.2⟩⟩, by rw [ht]; exact hP, by rw [hAe]; exact hD⟩, hS.F ht⟩) hS.2.2 dX11_saveSnapshot_68
  · refine lv_if_eq (tgt := 10) hx hb dX11_saveSnapshot_5 (by decide) (fun hc => absurd hc (by decide)) (fun _ => ?_)
    refine lv_iconst (v := 0) hx hb dX11_saveSnapshot_8 (by decide) ?_
    have hP : va_P D vwCl ([(rf_MO mo mw ma mf m0 m1 mu mv u0 u1 iz th1_4 mb mn mpt mbg mwr mwk mlf men), (rf_RW ct 0 mw 958 f), (rf_RW ct 0 m0 958 s0), (rf_RW ct 0 m1 958 s1), (rf_RW ct 2 iz 2 k)] ++ ws_3) H := ty_permP hP (ty_ordp (E := [(rf_RW ct 0 mw 958 f), (rf_RW ct 0 m0 958 s0), (rf_RW ct 0 m1 958 s1), (rf_RW ct 2 iz 2 k), (rf_MO mo mw ma mf m0 m1 mu mv u0 u1 iz th1_4 mb mn mpt mbg mwr mwk mlf men)]) (E2 := [(rf_MO mo mw ma mf m0 m1 mu mv u0 u1 iz th1_4 mb mn mpt mbg mwr mwk mlf men), (rf_RW ct 0 mw 958 f), (rf_RW ct 0 m0 958 s0), (rf_RW ct 0 m1 958 s1), (rf_RW ct 2 iz 2 k)]) (n := 5) [4, 0, 1, 2, 3] rfl rfl (by decide))
    have hD : va_D A ([(rf_MO mo mw ma mf m0 m1 mu mv u0 u1 iz th1_4 mb mn mpt mbg mwr mwk mlf men), (rf_RW ct 0 mw 958 f), (rf_RW ct 0 m0 958 s0), (rf_RW ct 0 m1 958 s1), (rf_RW ct 2 iz 2 k)] ++ ws_3) := ty_permD hD (ty_ordp (E := [(rf_RW ct 0 mw 958 f), (rf_RW ct 0 m0 958 s0), (rf_RW ct 0 m1 958 s1), (rf_RW ct 2 iz 2 k), (rf_MO mo mw ma mf m0 m1 mu mv u0 u1 iz th1_4 mb mn mpt mbg mwr mwk mlf men)]) (E2 := [(rf_MO mo mw ma mf m0 m1 mu mv u0 u1 iz th1_4 mb mn mpt mbg mwr mwk mlf men), (rf_RW ct 0 mw 958 f), (rf_RW ct 0 m0 958 s0), (rf_RW ct 0 m1 958 s1), (rf_RW ct 2 iz 2 k)]) (n := 5) [4, 0, 1, 2, 3] rfl rfl (by decide))
    exact W.iret (v := 0) hx hb hr (fun t ht hW => ⟨⟨0, (ws_3, th1_4, s0, s1, k), rfl, ⟨hT, ⟨⟨hs0, hs1⟩, Or.inl ⟨hz_7.1, rfl, rfl, rfl, hz_7.2⟩⟩⟩, by rw [ht]; exact hP, by rw [hAe]; exact hD⟩, hS.F ht⟩) hS.2.2 dX11_saveSnapshot_9
theorem dX11_restoreSnapshot_0 : decode cX11_restoreSnapshot 0 = .ok (.aload_n 0, 1) := by decide +kernel
theorem dX11_restoreSnapshot_1 : decode cX11_restoreSnapshot 1 = .ok (.iload_n 1, 1) := by decide +kernel
theorem dX11_restoreSnapshot_2 : decode cX11_restoreSnapshot 2 = .ok (.invokevirtual 402, 3) := by decide +kernel
theorem dX11_restoreSnapshot_5 : decode cX11_restoreSnapshot 5 = .ok (.ifCond .eq 5, 3) := by decide +kernel
theorem dX11_restoreSnapshot_8 : decode cX11_restoreSnapshot 8 = .ok (.iconst 0, 1) := by decide +kernel
theorem dX11_restoreSnapshot_9 : decode cX11_restoreSnapshot 9 = .ok (.ireturn, 1) := by decide +kernel
theorem dX11_restoreSnapshot_10 : decode cX11_restoreSnapshot 10 = .ok (.aload_n 0, 1) := by decide +kernel
theorem dX11_restoreSnapshot_11 : decode cX11_restoreSnapshot 11 = .ok (.getfield 38, 3) := by decide +kernel
theorem dX11_restoreSnapshot_14 : decode cX11_restoreSnapshot 14 = .ok (.iload_n 1, 1) := by decide +kernel
theorem dX11_restoreSnapshot_15 : decode cX11_restoreSnapshot 15 = .ok (.baload, 1) := by decide +kernel
theorem dX11_restoreSnapshot_16 : decode cX11_restoreSnapshot 16 = .ok (.ifCond .ne 5, 3) := by decide +kernel
theorem dX11_restoreSnapshot_19 : decode cX11_restoreSnapshot 19 = .ok (.iconst (-1), 1) := by decide +kernel
theorem dX11_restoreSnapshot_20 : decode cX11_restoreSnapshot 20 = .ok (.ireturn, 1) := by decide +kernel
theorem dX11_restoreSnapshot_21 : decode cX11_restoreSnapshot 21 = .ok (.iload_n 1, 1) := by decide +kernel
theorem dX11_restoreSnapshot_22 : decode cX11_restoreSnapshot 22 = .ok (.ifCond .ne 10, 3) := by decide +kernel
theorem dX11_restoreSnapshot_25 : decode cX11_restoreSnapshot 25 = .ok (.aload_n 0, 1) := by decide +kernel
theorem dX11_restoreSnapshot_26 : decode cX11_restoreSnapshot 26 = .ok (.getfield 19, 3) := by decide +kernel
theorem dX11_restoreSnapshot_29 : decode cX11_restoreSnapshot 29 = .ok (.goto 7, 3) := by decide +kernel
theorem dX11_restoreSnapshot_32 : decode cX11_restoreSnapshot 32 = .ok (.aload_n 0, 1) := by decide +kernel
theorem dX11_restoreSnapshot_33 : decode cX11_restoreSnapshot 33 = .ok (.getfield 22, 3) := by decide +kernel
theorem dX11_restoreSnapshot_36 : decode cX11_restoreSnapshot 36 = .ok (.aload_n 0, 1) := by decide +kernel
theorem dX11_restoreSnapshot_37 : decode cX11_restoreSnapshot 37 = .ok (.getfield 9, 3) := by decide +kernel
theorem dX11_restoreSnapshot_40 : decode cX11_restoreSnapshot 40 = .ok (.invokestatic 205, 3) := by decide +kernel
theorem dX11_restoreSnapshot_43 : decode cX11_restoreSnapshot 43 = .ok (.iload_n 1, 1) := by decide +kernel
theorem dX11_restoreSnapshot_44 : decode cX11_restoreSnapshot 44 = .ok (.ifCond .ne 10, 3) := by decide +kernel
theorem dX11_restoreSnapshot_47 : decode cX11_restoreSnapshot 47 = .ok (.aload_n 0, 1) := by decide +kernel
theorem dX11_restoreSnapshot_48 : decode cX11_restoreSnapshot 48 = .ok (.getfield 32, 3) := by decide +kernel
theorem dX11_restoreSnapshot_51 : decode cX11_restoreSnapshot 51 = .ok (.goto 7, 3) := by decide +kernel
theorem dX11_restoreSnapshot_54 : decode cX11_restoreSnapshot 54 = .ok (.aload_n 0, 1) := by decide +kernel
theorem dX11_restoreSnapshot_55 : decode cX11_restoreSnapshot 55 = .ok (.getfield 35, 3) := by decide +kernel
theorem dX11_restoreSnapshot_58 : decode cX11_restoreSnapshot 58 = .ok (.aload_n 0, 1) := by decide +kernel
theorem dX11_restoreSnapshot_59 : decode cX11_restoreSnapshot 59 = .ok (.getfield 25, 3) := by decide +kernel
theorem dX11_restoreSnapshot_62 : decode cX11_restoreSnapshot 62 = .ok (.invokestatic 375, 3) := by decide +kernel
theorem dX11_restoreSnapshot_65 : decode cX11_restoreSnapshot 65 = .ok (.aload_n 0, 1) := by decide +kernel
theorem dX11_restoreSnapshot_66 : decode cX11_restoreSnapshot 66 = .ok (.getfield 9, 3) := by decide +kernel
theorem dX11_restoreSnapshot_69 : decode cX11_restoreSnapshot 69 = .ok (.bipush 8, 2) := by decide +kernel
theorem dX11_restoreSnapshot_71 : decode cX11_restoreSnapshot 71 = .ok (.iaload, 1) := by decide +kernel
theorem dX11_restoreSnapshot_72 : decode cX11_restoreSnapshot 72 = .ok (.ireturn, 1) := by decide +kernel
set_option maxRecDepth 100000 in
set_option maxHeartbeats 4000000 in
theorem m_restoreSnapshot (l : Launch) (D : va_G) (ct : Nat → ClassId) (S : ty_S) (ws : va_W) (ph : va_W → Prop) (xx : Nat → Nat → Nat → Prop) (mo : Nat) (mw : Nat) (ma : Nat) (mf : Nat) (m0 : Nat) (m1 : Nat) (mu : Nat) (mv : Nat) (u0 : Nat) (u1 : Nat) (iz : Nat) (mb : Nat) (th : Int32) (mn : Int32) (mpt : Int32) (mbg : Int32) (mwr : Int32) (mwk : Int32) (mlf : Int32) (men : Int32) (f : Nat → Int32) (s0 : Nat → Int32) (s1 : Nat → Int32) (k : Nat → Int32) (p1 : Int32) (sz : Nat) (hT : ty_V ct S ph ws) (h_mu : S mu = some (.inr (1, 42))) (h_mv : S mv = some (.inr (1, 42))) (h_u0 : S u0 = some (.inr (1, 42))) (h_u1 : S u1 = some (.inr (1, 42))) (hph : ty_C ph xx) (hy1 : ty_y1 xx) (hy11 : ty_y0 xx 11) (hE : rf_E f) (hs0 : k 0 = 0 ∨ rf_E s0) (hs1 : k 1 = 0 ∨ rf_E s1) : Met l yX11_restoreSnapshot (ws_ yX11_restoreSnapshot cX11_restoreSnapshot 2 (some .int)) ({ frames := 2, cells := 0, slots := 0, locals := 46 } : Room) (va_Pc [.ref mo, .int p1] (cmP D ct sz ([(rf_MO mo mw ma mf m0 m1 mu mv u0 u1 iz th mb mn mpt mbg mwr mwk mlf men), (rf_RW ct 0 mw 958 f), (rf_RW ct 0 m0 958 s0), (rf_RW ct 0 m1 958 s1), (rf_RW ct 2 iz 2 k)] ++ ws))) (va_Qi (fun (r : Int32) (u : va_W × Int32 × (Nat → Int32)) => match u with | (u9, th1, f1) => ty_V ct S ph u9 ∧ rf_E f1 ∧ rf_rs p1 k s0 s1 f f1 r th1) (cmB D ([(rf_MO mo mw ma mf m0 m1 mu mv u0 u1 iz th mb mn mpt mbg mwr mwk mlf men), (rf_RW ct 0 mw 958 f), (rf_RW ct 0 m0 958 s0), (rf_RW ct 0 m1 958 s1), (rf_RW ct 2 iz 2 k)] ++ ws) sz (fun (u : va_W × Int32 × (Nat → Int32)) => match u with | (u9, th1, f1) => ([(rf_MO mo mw ma mf m0 m1 mu mv u0 u1 iz th1 mb mn mpt mbg mwr mwk mlf men), (rf_RW ct 0 mw 958 f1), (rf_RW ct 0 m0 958 s0), (rf_RW ct 0 m1 958 s1), (rf_RW ct 2 iz 2 k)] ++ u9))) (va_A ([(rf_MO mo mw ma mf m0 m1 mu mv u0 u1 iz th mb mn mpt mbg mwr mwk mlf men), (rf_RW ct 0 mw 958 f), (rf_RW ct 0 m0 958 s0), (rf_RW ct 0 m1 958 s1), (rf_RW ct 2 iz 2 k)] ++ ws) sz)) 0 0 (va_A ([(rf_MO mo mw ma mf m0 m1 mu mv u0 u1 iz th mb mn mpt mbg mwr mwk mlf men), (rf_RW ct 0 mw 958 f), (rf_RW ct 0 m0 958 s0), (rf_RW ct 0 m1 958 s1), (rf_RW ct 2 iz 2 k)] ++ ws) sz) := by
  refine Met.ofW (cc := cX11_restoreSnapshot) (maxL := 2) (ret := (some .int)) (by decide) rfl ?_
  intro p e s m args below meth c s₁ B hml hv
  obtain ⟨rfl, hsz, hP, hK, hD0, hX⟩ := hv
  have hx := B.exec
  have hb := B.bytes
  have hr := B.returns
  have hts := ws_all (atoms_spec (ws := ws_ yX11_restoreSnapshot cX11_restoreSnapshot 2 (some .int)) B.pre)
  have hown : s.vm.findClass RX11 = some m.cls := findClass_of_methodNamed B.named
  have hlocks := B.notSynchronized
  subst hsz
  have hD := hD0.self (sz := s.heap.size)
  generalize hAe : va_A ([(rf_MO mo mw ma mf m0 m1 mu mv u0 u1 iz th mb mn mpt mbg mwr mwk mlf men), (rf_RW ct 0 mw 958 f), (rf_RW ct 0 m0 958 s0), (rf_RW ct 0 m1 958 s1), (rf_RW ct 2 iz 2 k)] ++ ws) s.heap.size = A at hD hX ⊢
  have hA : ∀ q : Nat, s.heap.size ≤ q → A q := fun q h => by rw [← hAe]; exact Or.inr h
  have hS : va_S A s.heap s.heap [] := va_S.rf
  have hl := lv_entry ([.ref mo, .int p1]) (n := 2) (Nat.le_of_ble_eq_true rfl)
  rw [lg_entry_eq]
  generalize (lg_sl ([.ref mo, .int p1]) ++ List.replicate (2 - (lg_sl ([.ref mo, .int p1])).length) Slot.unset).toArray = ls at hl ⊢
  have hl : lv_has ls 2 [(0, .ref mo), (1, .int p1)] := hl
  refine lv_aload_n hx hb dX11_restoreSnapshot_0 rfl (lv_at hl 0 rfl) ?_
  refine lv_iload_n hx hb dX11_restoreSnapshot_1 rfl (lv_at hl 1 rfl) ?_
  have hP : va_P D vwCl ([(rf_RW ct 0 mw 958 f), (rf_RW ct 0 m0 958 s0), (rf_RW ct 0 m1 958 s1), (rf_RW ct 2 iz 2 k), (rf_MO mo mw ma mf m0 m1 mu mv u0 u1 iz th mb mn mpt mbg mwr mwk mlf men)] ++ ws) s.heap := ty_permP hP (ty_ordp (E := [(rf_MO mo mw ma mf m0 m1 mu mv u0 u1 iz th mb mn mpt mbg mwr mwk mlf men), (rf_RW ct 0 mw 958 f), (rf_RW ct 0 m0 958 s0), (rf_RW ct 0 m1 958 s1), (rf_RW ct 2 iz 2 k)]) (E2 := [(rf_RW ct 0 mw 958 f), (rf_RW ct 0 m0 958 s0), (rf_RW ct 0 m1 958 s1), (rf_RW ct 2 iz 2 k), (rf_MO mo mw ma mf m0 m1 mu mv u0 u1 iz th mb mn mpt mbg mwr mwk mlf men)]) (n := 5) [1, 2, 3, 4, 0] rfl rfl (by decide))
  have hD : va_D A ([(rf_RW ct 0 mw 958 f), (rf_RW ct 0 m0 958 s0), (rf_RW ct 0 m1 958 s1), (rf_RW ct 2 iz 2 k), (rf_MO mo mw ma mf m0 m1 mu mv u0 u1 iz th mb mn mpt mbg mwr mwk mlf men)] ++ ws) := ty_permD hD (ty_ordp (E := [(rf_MO mo mw ma mf m0 m1 mu mv u0 u1 iz th mb mn mpt mbg mwr mwk mlf men), (rf_RW ct 0 mw 958 f), (rf_RW ct 0 m0 958 s0), (rf_RW ct 0 m1 958 s1), (rf_RW ct 2 iz 2 k)]) (E2 := [(rf_RW ct 0 mw 958 f), (rf_RW ct 0 m0 958 s0), (rf_RW ct 0 m1 958 s1), (rf_RW ct 2 iz 2 k), (rf_MO mo mw ma mf m0 m1 mu mv u0 u1 iz th mb mn mpt mbg mwr mwk mlf men)]) (n := 5) [1, 2, 3, 4, 0] rfl rfl (by decide))
  refine ty_ki (wr := [(rf_RW ct 0 mw 958 f), (rf_RW ct 0 m0 958 s0), (rf_RW ct 0 m1 958 s1), (rf_RW ct 2 iz 2 k)]) (wc := ([(rf_MO mo mw ma mf m0 m1 mu mv u0 u1 iz th mb mn mpt mbg mwr mwk mlf men)] ++ ws)) (va_runV (As := [.int p1]) (rest := []) ⟨hx, hb, hml, hown, hts⟩ (m_noSlot l D ct S ws ph xx mo mw ma mf m0 m1 mu mv u0 u1 iz mb th mn mpt mbg mwr mwk mlf men p1 _ hT h_mu h_mv h_u0 h_u1 hph hy1) (cm_V 1 hts kc_X11_noSlot ki_RX11 kl_RX11_402 kv_X11_noSlot kx_X11_noSlot kd_X11_noSlot ⟨Nat.le_of_ble_eq_true rfl, Nat.le_of_ble_eq_true rfl⟩) (ty_preE (wr := [(rf_RW ct 0 mw 958 f), (rf_RW ct 0 m0 958 s0), (rf_RW ct 0 m1 958 s1), (rf_RW ct 2 iz 2 k)]) (wc := ([(rf_MO mo mw ma mf m0 m1 mu mv u0 u1 iz th mb mn mpt mbg mwr mwk mlf men)] ++ ws)) (ci := 11) (q0 := 4) hP hK hD hS hA hX rfl rfl) rfl rfl hl.1 rfl (lv_room (Nat.le_of_ble_eq_true rfl)) dX11_restoreSnapshot_2 ⟨Nat.le_of_ble_eq_true rfl, Nat.le_of_ble_eq_true rfl⟩) hP hD hS hA (fun r_1 u H locs hw_2 hP hD hS => ?_)
  obtain ⟨ws_3, th1_4⟩ := u
  obtain ⟨hT, hp_5⟩ := hw_2
  have hp_5 : ((r_1 = 0 ∧ (p1 = 0 ∨ p1 = 1) ∧ th1_4 = 0) ∨ (r_1 = 1 ∧ ¬ (p1 = 0 ∨ p1 = 1) ∧ th1_4 = 1)) := hp_5
  have hP : va_P D vwCl ([(rf_RW ct 0 mw 958 f), (rf_RW ct 0 m0 958 s0), (rf_RW ct 0 m1 958 s1), (rf_RW ct 2 iz 2 k), (rf_MO mo mw ma mf m0 m1 mu mv u0 u1 iz th1_4 mb mn mpt mbg mwr mwk mlf men)] ++ ws_3) H := hP
  have hD : va_D A ([(rf_RW ct 0 mw 958 f), (rf_RW ct 0 m0 958 s0), (rf_RW ct 0 m1 958 s1), (rf_RW ct 2 iz 2 k), (rf_MO mo mw ma mf m0 m1 mu mv u0 u1 iz th1_4 mb mn mpt mbg mwr mwk mlf men)] ++ ws_3) := hD
  rcases hp_5 with ⟨rfl, hz_6⟩ | ⟨rfl, hz_7⟩
  · refine lv_if_eq (tgt := 10) hx hb dX11_restoreSnapshot_5 (by decide) (fun _ => ?_) (fun hc => absurd (by decide) hc)
    refine lv_aload_n hx hb dX11_restoreSnapshot_10 rfl (lv_at hl 0 rfl) ?_
    refine va_get (v := .ref iz) (D := D) (ci := 11) (C := RX11) (T := TX11) (N := 19) hx hb hts in_X11 hown hK hP 4 rfl rfl 9 (by decide) (hts _ kl_RX11_38) (fun _ h9 => h9) rfl dX11_restoreSnapshot_11 ?_
    refine lv_iload_n hx hb dX11_restoreSnapshot_14 rfl (lv_at hl 1 rfl) ?_
    refine va_zald hx hb hK hP 3 2 rfl rfl (rf_i2s hz_6.1) dX11_restoreSnapshot_15 ?_
    refine lv_if_ne (tgt := 21) hx hb dX11_restoreSnapshot_16 (by decide) (fun hc_8 => ?_) (fun hc_8 => ?_)
    · refine lv_iload_n hx hb dX11_restoreSnapshot_21 rfl (lv_at hl 1 rfl) ?_
      refine lv_if_ne (tgt := 32) hx hb dX11_restoreSnapshot_22 (by decide) (fun hc_9 => ?_) (fun hc_9 => ?_)
      · refine lv_aload_n hx hb dX11_restoreSnapshot_32 rfl (lv_at hl 0 rfl) ?_
        refine va_get (v := .ref m1) (D := D) (ci := 11) (C := RX11) (T := TX11) (N := 19) hx hb hts in_X11 hown hK hP 4 rfl rfl 4 (by decide) (hts _ kl_RX11_22) (fun _ h9 => h9) rfl dX11_restoreSnapshot_33 ?_
        refine lv_aload_n hx hb dX11_restoreSnapshot_36 rfl (lv_at hl 0 rfl) ?_
        refine va_get (v := .ref mw) (D := D) (ci := 11) (C := RX11) (T := TX11) (N := 19) hx hb hts in_X11 hown hK hP 4 rfl rfl 0 (by decide) (hts _ kl_RX11_9) (fun _ h9 => h9) rfl dX11_restoreSnapshot_37 ?_
        have hP : va_P D vwCl ([(rf_RW ct 0 m0 958 s0), (rf_RW ct 2 iz 2 k), (rf_MO mo mw ma mf m0 m1 mu mv u0 u1 iz th1_4 mb mn mpt mbg mwr mwk mlf men), (rf_RW ct 0 m1 958 s1), (rf_RW ct 0 mw 958 f)] ++ ws_3) H := ty_permP hP (ty_ordp (E := [(rf_RW ct 0 mw 958 f), (rf_RW ct 0 m0 958 s0), (rf_RW ct 0 m1 958 s1), (rf_RW ct 2 iz 2 k), (rf_MO mo mw ma mf m0 m1 mu mv u0 u1 iz th1_4 mb mn mpt mbg mwr mwk mlf men)]) (E2 := [(rf_RW ct 0 m0 958 s0), (rf_RW ct 2 iz 2 k), (rf_MO mo mw ma mf m0 m1 mu mv u0 u1 iz th1_4 mb mn mpt mbg mwr mwk mlf men), (rf_RW ct 0 m1 958 s1), (rf_RW ct 0 mw 958 f)]) (n := 5) [1, 3, 4, 2, 0] rfl rfl (by decide))
        have hD : va_D A ([(rf_RW ct 0 m0 958 s0), (rf_RW ct 2 iz 2 k), (rf_MO mo mw ma mf m0 m1 mu mv u0 u1 iz th1_4 mb mn mpt mbg mwr mwk mlf men), (rf_RW ct 0 m1 958 s1), (rf_RW ct 0 mw 958 f)] ++ ws_3) := ty_permD hD (ty_ordp (E := [(rf_RW ct 0 mw 958 f), (rf_RW ct 0 m0 958 s0), (rf_RW ct 0 m1 958 s1), (rf_RW ct 2 iz 2 k), (rf_MO mo mw ma mf m0 m1 mu mv u0 u1 iz th1_4 mb mn mpt mbg mwr mwk mlf men)]) (E2 := [(rf_RW ct 0 m0 958 s0), (rf_RW ct 2 iz 2 k), (rf_MO mo mw ma mf m0 m1 mu mv u0 u1 iz th1_4 mb mn mpt mbg mwr mwk mlf men), (rf_RW ct 0 m1 958 s1), (rf_RW ct 0 mw 958 f)]) (n := 5) [1, 3, 4, 2, 0] rfl rfl (by decide))
        refine ty_kv (wr := [(rf_RW ct 0 m0 958 s0), (rf_RW ct 2 iz 2 k), (rf_MO mo mw ma mf m0 m1 mu mv u0 u1 iz th1_4 mb mn mpt mbg mwr mwk mlf men)]) (wc := ([(rf_RW ct 0 m1 958 s1), (rf_RW ct 0 mw 958 f)] ++ ws_3)) (va_runS (As := [.ref m1, .ref mw]) (rest := []) ⟨hx, hb, hml, hown, hts⟩ (m_copies l D ct S ws_3 ph xx m1 mw s1 f _ hT hph hy1) (cm_S 2 hts kc_X11_copies ki_RX11 kl_RX11_205 ks_X11_copies kd_X11_copies ⟨Nat.le_of_ble_eq_true rfl, Nat.le_of_ble_eq_true rfl⟩) (ty_preS (wr := [(rf_RW ct 0 m0 958 s0), (rf_RW ct 2 iz 2 k), (rf_MO mo mw ma mf m0 m1 mu mv u0 u1 iz th1_4 mb mn mpt mbg mwr mwk mlf men)]) (wc := ([(rf_RW ct 0 m1 958 s1), (rf_RW ct 0 mw 958 f)] ++ ws_3)) hP hK hD hS hA hX) rfl rfl hl.1 rfl (lv_room (Nat.le_of_ble_eq_true rfl)) dX11_restoreSnapshot_40 ⟨Nat.le_of_ble_eq_true rfl, Nat.le_of_ble_eq_true rfl⟩) hP hD hS hA (fun u H locs hw_11 hP hD hS => ?_)
        obtain ⟨ws_12, h_13⟩ := u
        obtain ⟨hT, hp_14⟩ := hw_11
        have hp_14 : ∀ j : Nat, j < 958 → h_13 j = s1 j := hp_14
        have hP : va_P D vwCl ([(rf_RW ct 0 m0 958 s0), (rf_RW ct 2 iz 2 k), (rf_MO mo mw ma mf m0 m1 mu mv u0 u1 iz th1_4 mb mn mpt mbg mwr mwk mlf men), (rf_RW ct 0 m1 958 s1), (rf_RW ct 0 mw 958 h_13)] ++ ws_12) H := hP
        have hD : va_D A ([(rf_RW ct 0 m0 958 s0), (rf_RW ct 2 iz 2 k), (rf_MO mo mw ma mf m0 m1 mu mv u0 u1 iz th1_4 mb mn mpt mbg mwr mwk mlf men), (rf_RW ct 0 m1 958 s1), (rf_RW ct 0 mw 958 h_13)] ++ ws_12) := hD
        refine lv_iload_n hx hb dX11_restoreSnapshot_43 rfl (lv_at hl 1 rfl) ?_
        refine lv_if_ne (tgt := 54) hx hb dX11_restoreSnapshot_44 (by decide) (fun hc_15 => ?_) (fun hc_15 => ?_)
        · refine lv_aload_n hx hb dX11_restoreSnapshot_54 rfl (lv_at hl 0 rfl) ?_
          refine va_get (v := .ref u1) (D := D) (ci := 11) (C := RX11) (T := TX11) (N := 19) hx hb hts in_X11 hown hK hP 2 rfl rfl 8 (by decide) (hts _ kl_RX11_35) (fun _ h9 => h9) rfl dX11_restoreSnapshot_55 ?_
          refine lv_aload_n hx hb dX11_restoreSnapshot_58 rfl (lv_at hl 0 rfl) ?_
          refine va_get (v := .ref mu) (D := D) (ci := 11) (C := RX11) (T := TX11) (N := 19) hx hb hts in_X11 hown hK hP 2 rfl rfl 5 (by decide) (hts _ kl_RX11_25) (fun _ h9 => h9) rfl dX11_restoreSnapshot_59 ?_
          refine ty_kv (wr := [(rf_RW ct 0 m0 958 s0), (rf_RW ct 2 iz 2 k), (rf_MO mo mw ma mf m0 m1 mu mv u0 u1 iz th1_4 mb mn mpt mbg mwr mwk mlf men), (rf_RW ct 0 m1 958 s1), (rf_RW ct 0 mw 958 h_13)]) (wc := ([] ++ ws_12)) (va_runS (As := [.ref u1, .ref mu]) (rest := []) ⟨hx, hb, hml, hown, hts⟩ (m_copiesSums l D ct S ws_12 ph xx u1 mu _ hT h_u1 h_mu hph hy1 hy11) (cm_S 2 hts kc_X11_copiesSums ki_RX11 kl_RX11_375 ks_X11_copiesSums kd_X11_copiesSums ⟨Nat.le_of_ble_eq_true rfl, Nat.le_of_ble_eq_true rfl⟩) (ty_preS (wr := [(rf_RW ct 0 m0 958 s0), (rf_RW ct 2 iz 2 k), (rf_MO mo mw ma mf m0 m1 mu mv u0 u1 iz th1_4 mb mn mpt mbg mwr mwk mlf men), (rf_RW ct 0 m1 958 s1), (rf_RW ct 0 mw 958 h_13)]) (wc := ([] ++ ws_12)) hP hK hD hS hA hX) rfl rfl hl.1 rfl (lv_room (Nat.le_of_ble_eq_true rfl)) dX11_restoreSnapshot_62 ⟨Nat.le_of_ble_eq_true rfl, Nat.le_of_ble_eq_true rfl⟩) hP hD hS hA (fun u H locs hw_17 hP hD hS => ?_)
          obtain ⟨ws_18, rfl⟩ : ∃ z, z = u := ⟨_, rfl⟩
          have hT := hw_17
          have hP : va_P D vwCl ([(rf_RW ct 0 m0 958 s0), (rf_RW ct 2 iz 2 k), (rf_MO mo mw ma mf m0 m1 mu mv u0 u1 iz th1_4 mb mn mpt mbg mwr mwk mlf men), (rf_RW ct 0 m1 958 s1), (rf_RW ct 0 mw 958 h_13)] ++ ws_18) H := hP
          have hD : va_D A ([(rf_RW ct 0 m0 958 s0), (rf_RW ct 2 iz 2 k), (rf_MO mo mw ma mf m0 m1 mu mv u0 u1 iz th1_4 mb mn mpt mbg mwr mwk mlf men), (rf_RW ct 0 m1 958 s1), (rf_RW ct 0 mw 958 h_13)] ++ ws_18) := hD
          refine lv_aload_n hx hb dX11_restoreSnapshot_65 rfl (lv_at hl 0 rfl) ?_
          refine va_get (v := .ref mw) (D := D) (ci := 11) (C := RX11) (T := TX11) (N := 19) hx hb hts in_X11 hown hK hP 2 rfl rfl 0 (by decide) (hts _ kl_RX11_9) (fun _ h9 => h9) rfl dX11_restoreSnapshot_66 ?_
          refine lv_bipush (v := 8) hx hb dX11_restoreSnapshot_69 (by decide) ?_
          refine va_iald hx hb hK hP 4 0 rfl rfl (cm_vin (by decide)) dX11_restoreSnapshot_71 ?_
          refine cm_cst (y := (h_13 8)) (by first | rfl | decide +kernel) ?_
          have hP : va_P D vwCl ([(rf_MO mo mw ma mf m0 m1 mu mv u0 u1 iz th1_4 mb mn mpt mbg mwr mwk mlf men), (rf_RW ct 0 mw 958 h_13), (rf_RW ct 0 m0 958 s0), (rf_RW ct 0 m1 958 s1), (rf_RW ct 2 iz 2 k)] ++ ws_18) H := ty_permP hP (ty_ordp (E := [(rf_RW ct 0 m0 958 s0), (rf_RW ct 2 iz 2 k), (rf_MO mo mw ma mf m0 m1 mu mv u0 u1 iz th1_4 mb mn mpt mbg mwr mwk mlf men), (rf_RW ct 0 m1 958 s1), (rf_RW ct 0 mw 958 h_13)]) (E2 := [(rf_MO mo mw ma mf m0 m1 mu mv u0 u1 iz th1_4 mb mn mpt mbg mwr mwk mlf men), (rf_RW ct 0 mw 958 h_13), (rf_RW ct 0 m0 958 s0), (rf_RW ct 0 m1 958 s1), (rf_RW ct 2 iz 2 k)]) (n := 5) [2, 4, 0, 3, 1] rfl rfl (by decide))
          have hD : va_D A ([(rf_MO mo mw ma mf m0 m1 mu mv u0 u1 iz th1_4 mb mn mpt mbg mwr mwk mlf men), (rf_RW ct 0 mw 958 h_13), (rf_RW ct 0 m0 958 s0), (rf_RW ct 0 m1 958 s1), (rf_RW ct 2 iz 2 k)] ++ ws_18) := ty_permD hD (ty_ordp (E := [(rf_RW ct 0 m0 958 s0), (rf_RW ct 2 iz 2 k), (rf_MO mo mw ma mf m0 m1 mu mv u0 u1 iz th1_4 mb mn mpt mbg mwr mwk mlf men), (rf_RW ct 0 m1 958 s1), (rf_RW ct 0 mw 958 h_13)]) (E2 := [(rf_MO mo mw ma mf m0 m1 mu mv u0 u1 iz th1_4 mb mn mpt mbg mwr mwk mlf men), (rf_RW ct 0 mw 958 h_13), (rf_RW ct 0 m0 958 s0), (rf_RW ct 0 m1 958 s1), (rf_RW ct 2 iz 2 k)]) (n := 5) [2, 4, 0, 3, 1] rfl rfl (by decide))
          exact W.iret (v := (h_13 8)) hx hb hr (fun t ht hW => ⟨⟨(h_13 8), (ws_18, th1_4, h_13), rfl, ⟨hT, ⟨rf_Ec (rf_rs1 hz_6.1 hc_9 hc_8 hs1) hp_14, rf_rsB hz_6.1 hc_9 hc_8 (hp_14 8 (by omega)) hz_6.2⟩⟩, by rw [ht]; exact hP, by rw [hAe]; exact hD⟩, hS.F ht⟩) hS.2.2 dX11_restoreSnapshot_72
        · refine lv_aload_n hx hb dX11_restoreSnapshot_47 rfl (lv_at hl 0 rfl) ?_
          refine va_get (v := .ref u0) (D := D) (ci := 11) (C := RX11) (T := TX11) (N := 19) hx hb hts in_X11 hown hK hP 2 rfl rfl 7 (by decide) (hts _ kl_RX11_32) (fun _ h9 => h9) rfl dX11_restoreSnapshot_48 ?_
          refine lv_goto (tgt := 58) hx hb dX11_restoreSnapshot_51 (by decide) ?_
          refine lv_aload_n hx hb dX11_restoreSnapshot_58 rfl (lv_at hl 0 rfl) ?_
          refine va_get (v := .ref mu) (D := D) (ci := 11) (C := RX11) (T := TX11) (N := 19) hx hb hts in_X11 hown hK hP 2 rfl rfl 5 (by decide) (hts _ kl_RX11_25) (fun _ h9 => h9) rfl dX11_restoreSnapshot_59 ?_
          refine ty_kv (wr := [(rf_RW ct 0 m0 958 s0), (rf_RW ct 2 iz 2 k), (rf_MO mo mw ma mf m0 m1 mu mv u0 u1 iz th1_4 mb mn mpt mbg mwr mwk mlf men), (rf_RW ct 0 m1 958 s1), (rf_RW ct 0 mw 958 h_13)]) (wc := ([] ++ ws_12)) (va_runS (As := [.ref u0, .ref mu]) (rest := []) ⟨hx, hb, hml, hown, hts⟩ (m_copiesSums l D ct S ws_12 ph xx u0 mu _ hT h_u0 h_mu hph hy1 hy11) (cm_S 2 hts kc_X11_copiesSums ki_RX11 kl_RX11_375 ks_X11_copiesSums kd_X11_copiesSums ⟨Nat.le_of_ble_eq_true rfl, Nat.le_of_ble_eq_true rfl⟩) (ty_preS (wr := [(rf_RW ct 0 m0 958 s0), (rf_RW ct 2 iz 2 k), (rf_MO mo mw ma mf m0 m1 mu mv u0 u1 iz th1_4 mb mn mpt mbg mwr mwk mlf men), (rf_RW ct 0 m1 958 s1), (rf_RW ct 0 mw 958 h_13)]) (wc := ([] ++ ws_12)) hP hK hD hS hA hX) rfl rfl hl.1 rfl (lv_room (Nat.le_of_ble_eq_true rfl)) dX11_restoreSnapshot_62 ⟨Nat.le_of_ble_eq_true rfl, Nat.le_of_ble_eq_true rfl⟩) hP hD hS hA (fun u H locs hw_20 hP hD hS => ?_)
          obtain ⟨ws_21, rfl⟩ : ∃ z, z = u := ⟨_, rfl⟩
          have hT := hw_20
          have hP : va_P D vwCl ([(rf_RW ct 0 m0 958 s0), (rf_RW ct 2 iz 2 k), (rf_MO mo mw ma mf m0 m1 mu mv u0 u1 iz th1_4 mb mn mpt mbg mwr mwk mlf men), (rf_RW ct 0 m1 958 s1), (rf_RW ct 0 mw 958 h_13)] ++ ws_21) H := hP
          have hD : va_D A ([(rf_RW ct 0 m0 958 s0), (rf_RW ct 2 iz 2 k), (rf_MO mo mw ma mf m0 m1 mu mv u0 u1 iz th1_4 mb mn mpt mbg mwr mwk mlf men), (rf_RW ct 0 m1 958 s1), (rf_RW ct 0 mw 958 h_13)] ++ ws_21) := hD
          refine lv_aload_n hx hb dX11_restoreSnapshot_65 rfl (lv_at hl 0 rfl) ?_
          refine va_get (v := .ref mw) (D := D) (ci := 11) (C := RX11) (T := TX11) (N := 19) hx hb hts in_X11 hown hK hP 2 rfl rfl 0 (by decide) (hts _ kl_RX11_9) (fun _ h9 => h9) rfl dX11_restoreSnapshot_66 ?_
          refine lv_bipush (v := 8) hx hb dX11_restoreSnapshot_69 (by decide) ?_
          refine va_iald hx hb hK hP 4 0 rfl rfl (cm_vin (by decide)) dX11_restoreSnapshot_71 ?_
          refine cm_cst (y := (h_13 8)) (by first | rfl | decide +kernel) ?_
          have hP : va_P D vwCl ([(rf_MO mo mw ma mf m0 m1 mu mv u0 u1 iz th1_4 mb mn mpt mbg mwr mwk mlf men), (rf_RW ct 0 mw 958 h_13), (rf_RW ct 0 m0 958 s0), (rf_RW ct 0 m1 958 s1), (rf_RW ct 2 iz 2 k)] ++ ws_21) H := ty_permP hP (ty_ordp (E := [(rf_RW ct 0 m0 958 s0), (rf_RW ct 2 iz 2 k), (rf_MO mo mw ma mf m0 m1 mu mv u0 u1 iz th1_4 mb mn mpt mbg mwr mwk mlf men), (rf_RW ct 0 m1 958 s1), (rf_RW ct 0 mw 958 h_13)]) (E2 := [(rf_MO mo mw ma mf m0 m1 mu mv u0 u1 iz th1_4 mb mn mpt mbg mwr mwk mlf men), (rf_RW ct 0 mw 958 h_13), (rf_RW ct 0 m0 958 s0), (rf_RW ct 0 m1 958 s1), (rf_RW ct 2 iz 2 k)]) (n := 5) [2, 4, 0, 3, 1] rfl rfl (by decide))
          have hD : va_D A ([(rf_MO mo mw ma mf m0 m1 mu mv u0 u1 iz th1_4 mb mn mpt mbg mwr mwk mlf men), (rf_RW ct 0 mw 958 h_13), (rf_RW ct 0 m0 958 s0), (rf_RW ct 0 m1 958 s1), (rf_RW ct 2 iz 2 k)] ++ ws_21) := ty_permD hD (ty_ordp (E := [(rf_RW ct 0 m0 958 s0), (rf_RW ct 2 iz 2 k), (rf_MO mo mw ma mf m0 m1 mu mv u0 u1 iz th1_4 mb mn mpt mbg mwr mwk mlf men), (rf_RW ct 0 m1 958 s1), (rf_RW ct 0 mw 958 h_13)]) (E2 := [(rf_MO mo mw ma mf m0 m1 mu mv u0 u1 iz th1_4 mb mn mpt mbg mwr mwk mlf men), (rf_RW ct 0 mw 958 h_13), (rf_RW ct 0 m0 958 s0), (rf_RW ct 0 m1 958 s1), (rf_RW ct 2 iz 2 k)]) (n := 5) [2, 4, 0, 3, 1] rfl rfl (by decide))
          exact W.iret (v := (h_13 8)) hx hb hr (fun t ht hW => ⟨⟨(h_13 8), (ws_21, th1_4, h_13), rfl, ⟨hT, ⟨rf_Ec (rf_rs1 hz_6.1 hc_9 hc_8 hs1) hp_14, rf_rsB hz_6.1 hc_9 hc_8 (hp_14 8 (by omega)) hz_6.2⟩⟩, by rw [ht]; exact hP, by rw [hAe]; exact hD⟩, hS.F ht⟩) hS.2.2 dX11_restoreSnapshot_72
      · refine lv_aload_n hx hb dX11_restoreSnapshot_25 rfl (lv_at hl 0 rfl) ?_
        refine va_get (v := .ref m0) (D := D) (ci := 11) (C := RX11) (T := TX11) (N := 19) hx hb hts in_X11 hown hK hP 4 rfl rfl 3 (by decide) (hts _ kl_RX11_19) (fun _ h9 => h9) rfl dX11_restoreSnapshot_26 ?_
        refine lv_goto (tgt := 36) hx hb dX11_restoreSnapshot_29 (by decide) ?_
        refine lv_aload_n hx hb dX11_restoreSnapshot_36 rfl (lv_at hl 0 rfl) ?_
        refine va_get (v := .ref mw) (D := D) (ci := 11) (C := RX11) (T := TX11) (N := 19) hx hb hts in_X11 hown hK hP 4 rfl rfl 0 (by decide) (hts _ kl_RX11_9) (fun _ h9 => h9) rfl dX11_restoreSnapshot_37 ?_
        have hP : va_P D vwCl ([(rf_RW ct 0 m1 958 s1), (rf_RW ct 2 iz 2 k), (rf_MO mo mw ma mf m0 m1 mu mv u0 u1 iz th1_4 mb mn mpt mbg mwr mwk mlf men), (rf_RW ct 0 m0 958 s0), (rf_RW ct 0 mw 958 f)] ++ ws_3) H := ty_permP hP (ty_ordp (E := [(rf_RW ct 0 mw 958 f), (rf_RW ct 0 m0 958 s0), (rf_RW ct 0 m1 958 s1), (rf_RW ct 2 iz 2 k), (rf_MO mo mw ma mf m0 m1 mu mv u0 u1 iz th1_4 mb mn mpt mbg mwr mwk mlf men)]) (E2 := [(rf_RW ct 0 m1 958 s1), (rf_RW ct 2 iz 2 k), (rf_MO mo mw ma mf m0 m1 mu mv u0 u1 iz th1_4 mb mn mpt mbg mwr mwk mlf men), (rf_RW ct 0 m0 958 s0), (rf_RW ct 0 mw 958 f)]) (n := 5) [2, 3, 4, 1, 0] rfl rfl (by decide))
        have hD : va_D A ([(rf_RW ct 0 m1 958 s1), (rf_RW ct 2 iz 2 k), (rf_MO mo mw ma mf m0 m1 mu mv u0 u1 iz th1_4 mb mn mpt mbg mwr mwk mlf men), (rf_RW ct 0 m0 958 s0), (rf_RW ct 0 mw 958 f)] ++ ws_3) := ty_permD hD (ty_ordp (E := [(rf_RW ct 0 mw 958 f), (rf_RW ct 0 m0 958 s0), (rf_RW ct 0 m1 958 s1), (rf_RW ct 2 iz 2 k), (rf_MO mo mw ma mf m0 m1 mu mv u0 u1 iz th1_4 mb mn mpt mbg mwr mwk mlf men)]) (E2 := [(rf_RW ct 0 m1 958 s1), (rf_RW ct 2 iz 2 k), (rf_MO mo mw ma mf m0 m1 mu mv u0 u1 iz th1_4 mb mn mpt mbg mwr mwk mlf men), (rf_RW ct 0 m0 958 s0), (rf_RW ct 0 mw 958 f)]) (n := 5) [2, 3, 4, 1, 0] rfl rfl (by decide))
        refine ty_kv (wr := [(rf_RW ct 0 m1 958 s1), (rf_RW ct 2 iz 2 k), (rf_MO mo mw ma mf m0 m1 mu mv u0 u1 iz th1_4 mb mn mpt mbg mwr mwk mlf men)]) (wc := ([(rf_RW ct 0 m0 958 s0), (rf_RW ct 0 mw 958 f)] ++ ws_3)) (va_runS (As := [.ref m0, .ref mw]) (rest := []) ⟨hx, hb, hml, hown, hts⟩ (m_copies l D ct S ws_3 ph xx m0 mw s0 f _ hT hph hy1) (cm_S 2 hts kc_X11_copies ki_RX11 kl_RX11_205 ks_X11_copies kd_X11_copies ⟨Nat.le_of_ble_eq_true rfl, Nat.le_of_ble_eq_true rfl⟩) (ty_preS (wr := [(rf_RW ct 0 m1 958 s1), (rf_RW ct 2 iz 2 k), (rf_MO mo mw ma mf m0 m1 mu mv u0 u1 iz th1_4 mb mn mpt mbg mwr mwk mlf men)]) (wc := ([(rf_RW ct 0 m0 958 s0), (rf_RW ct 0 mw 958 f)] ++ ws_3)) hP hK hD hS hA hX) rfl rfl hl.1 rfl (lv_room (Nat.le_of_ble_eq_true rfl)) dX11_restoreSnapshot_40 ⟨Nat.le_of_ble_eq_true rfl, Nat.le_of_ble_eq_true rfl⟩) hP hD hS hA (fun u H locs hw_23 hP hD hS => ?_)
        obtain ⟨ws_24, h_25⟩ := u
        obtain ⟨hT, hp_26⟩ := hw_23
        have hp_26 : ∀ j : Nat, j < 958 → h_25 j = s0 j := hp_26
        have hP : va_P D vwCl ([(rf_RW ct 0 m1 958 s1), (rf_RW ct 2 iz 2 k), (rf_MO mo mw ma mf m0 m1 mu mv u0 u1 iz th1_4 mb mn mpt mbg mwr mwk mlf men), (rf_RW ct 0 m0 958 s0), (rf_RW ct 0 mw 958 h_25)] ++ ws_24) H := hP
        have hD : va_D A ([(rf_RW ct 0 m1 958 s1), (rf_RW ct 2 iz 2 k), (rf_MO mo mw ma mf m0 m1 mu mv u0 u1 iz th1_4 mb mn mpt mbg mwr mwk mlf men), (rf_RW ct 0 m0 958 s0), (rf_RW ct 0 mw 958 h_25)] ++ ws_24) := hD
        refine lv_iload_n hx hb dX11_restoreSnapshot_43 rfl (lv_at hl 1 rfl) ?_
        refine lv_if_ne (tgt := 54) hx hb dX11_restoreSnapshot_44 (by decide) (fun hc_27 => ?_) (fun hc_27 => ?_)
        · refine lv_aload_n hx hb dX11_restoreSnapshot_54 rfl (lv_at hl 0 rfl) ?_
          refine va_get (v := .ref u1) (D := D) (ci := 11) (C := RX11) (T := TX11) (N := 19) hx hb hts in_X11 hown hK hP 2 rfl rfl 8 (by decide) (hts _ kl_RX11_35) (fun _ h9 => h9) rfl dX11_restoreSnapshot_55 ?_
          refine lv_aload_n hx hb dX11_restoreSnapshot_58 rfl (lv_at hl 0 rfl) ?_
          refine va_get (v := .ref mu) (D := D) (ci := 11) (C := RX11) (T := TX11) (N := 19) hx hb hts in_X11 hown hK hP 2 rfl rfl 5 (by decide) (hts _ kl_RX11_25) (fun _ h9 => h9) rfl dX11_restoreSnapshot_59 ?_
          refine ty_kv (wr := [(rf_RW ct 0 m1 958 s1), (rf_RW ct 2 iz 2 k), (rf_MO mo mw ma mf m0 m1 mu mv u0 u1 iz th1_4 mb mn mpt mbg mwr mwk mlf men), (rf_RW ct 0 m0 958 s0), (rf_RW ct 0 mw 958 h_25)]) (wc := ([] ++ ws_24)) (va_runS (As := [.ref u1, .ref mu]) (rest := []) ⟨hx, hb, hml, hown, hts⟩ (m_copiesSums l D ct S ws_24 ph xx u1 mu _ hT h_u1 h_mu hph hy1 hy11) (cm_S 2 hts kc_X11_copiesSums ki_RX11 kl_RX11_375 ks_X11_copiesSums kd_X11_copiesSums ⟨Nat.le_of_ble_eq_true rfl, Nat.le_of_ble_eq_true rfl⟩) (ty_preS (wr := [(rf_RW ct 0 m1 958 s1), (rf_RW ct 2 iz 2 k), (rf_MO mo mw ma mf m0 m1 mu mv u0 u1 iz th1_4 mb mn mpt mbg mwr mwk mlf men), (rf_RW ct 0 m0 958 s0), (rf_RW ct 0 mw 958 h_25)]) (wc := ([] ++ ws_24)) hP hK hD hS hA hX) rfl rfl hl.1 rfl (lv_room (Nat.le_of_ble_eq_true rfl)) dX11_restoreSnapshot_62 ⟨Nat.le_of_ble_eq_true rfl, Nat.le_of_ble_eq_true rfl⟩) hP hD hS hA (fun u H locs hw_29 hP hD hS => ?_)
          obtain ⟨ws_30, rfl⟩ : ∃ z, z = u := ⟨_, rfl⟩
          have hT := hw_29
          have hP : va_P D vwCl ([(rf_RW ct 0 m1 958 s1), (rf_RW ct 2 iz 2 k), (rf_MO mo mw ma mf m0 m1 mu mv u0 u1 iz th1_4 mb mn mpt mbg mwr mwk mlf men), (rf_RW ct 0 m0 958 s0), (rf_RW ct 0 mw 958 h_25)] ++ ws_30) H := hP
          have hD : va_D A ([(rf_RW ct 0 m1 958 s1), (rf_RW ct 2 iz 2 k), (rf_MO mo mw ma mf m0 m1 mu mv u0 u1 iz th1_4 mb mn mpt mbg mwr mwk mlf men), (rf_RW ct 0 m0 958 s0), (rf_RW ct 0 mw 958 h_25)] ++ ws_30) := hD
          refine lv_aload_n hx hb dX11_restoreSnapshot_65 rfl (lv_at hl 0 rfl) ?_
          refine va_get (v := .ref mw) (D := D) (ci := 11) (C := RX11) (T := TX11) (N := 19) hx hb hts in_X11 hown hK hP 2 rfl rfl 0 (by decide) (hts _ kl_RX11_9) (fun _ h9 => h9) rfl dX11_restoreSnapshot_66 ?_
          refine lv_bipush (v := 8) hx hb dX11_restoreSnapshot_69 (by decide) ?_
          refine va_iald hx hb hK hP 4 0 rfl rfl (cm_vin (by decide)) dX11_restoreSnapshot_71 ?_
          refine cm_cst (y := (h_25 8)) (by first | rfl | decide +kernel) ?_
          have hP : va_P D vwCl ([(rf_MO mo mw ma mf m0 m1 mu mv u0 u1 iz th1_4 mb mn mpt mbg mwr mwk mlf men), (rf_RW ct 0 mw 958 h_25), (rf_RW ct 0 m0 958 s0), (rf_RW ct 0 m1 958 s1), (rf_RW ct 2 iz 2 k)] ++ ws_30) H := ty_permP hP (ty_ordp (E := [(rf_RW ct 0 m1 958 s1), (rf_RW ct 2 iz 2 k), (rf_MO mo mw ma mf m0 m1 mu mv u0 u1 iz th1_4 mb mn mpt mbg mwr mwk mlf men), (rf_RW ct 0 m0 958 s0), (rf_RW ct 0 mw 958 h_25)]) (E2 := [(rf_MO mo mw ma mf m0 m1 mu mv u0 u1 iz th1_4 mb mn mpt mbg mwr mwk mlf men), (rf_RW ct 0 mw 958 h_25), (rf_RW ct 0 m0 958 s0), (rf_RW ct 0 m1 958 s1), (rf_RW ct 2 iz 2 k)]) (n := 5) [2, 4, 3, 0, 1] rfl rfl (by decide))
          have hD : va_D A ([(rf_MO mo mw ma mf m0 m1 mu mv u0 u1 iz th1_4 mb mn mpt mbg mwr mwk mlf men), (rf_RW ct 0 mw 958 h_25), (rf_RW ct 0 m0 958 s0), (rf_RW ct 0 m1 958 s1), (rf_RW ct 2 iz 2 k)] ++ ws_30) := ty_permD hD (ty_ordp (E := [(rf_RW ct 0 m1 958 s1), (rf_RW ct 2 iz 2 k), (rf_MO mo mw ma mf m0 m1 mu mv u0 u1 iz th1_4 mb mn mpt mbg mwr mwk mlf men), (rf_RW ct 0 m0 958 s0), (rf_RW ct 0 mw 958 h_25)]) (E2 := [(rf_MO mo mw ma mf m0 m1 mu mv u0 u1 iz th1_4 mb mn mpt mbg mwr mwk mlf men), (rf_RW ct 0 mw 958 h_25), (rf_RW ct 0 m0 958 s0), (rf_RW ct 0 m1 958 s1), (rf_RW ct 2 iz 2 k)]) (n := 5) [2, 4, 3, 0, 1] rfl rfl (by decide))
          exact W.iret (v := (h_25 8)) hx hb hr (fun t ht hW => ⟨⟨(h_25 8), (ws_30, th1_4, h_25), rfl, ⟨hT, ⟨rf_Ec (rf_rs0 hc_9 hc_8 hs0) hp_26, rf_rsA hc_9 hc_8 (hp_26 8 (by omega)) hz_6.2⟩⟩, by rw [ht]; exact hP, by rw [hAe]; exact hD⟩, hS.F ht⟩) hS.2.2 dX11_restoreSnapshot_72
        · refine lv_aload_n hx hb dX11_restoreSnapshot_47 rfl (lv_at hl 0 rfl) ?_
          refine va_get (v := .ref u0) (D := D) (ci := 11) (C := RX11) (T := TX11) (N := 19) hx hb hts in_X11 hown hK hP 2 rfl rfl 7 (by decide) (hts _ kl_RX11_32) (fun _ h9 => h9) rfl dX11_restoreSnapshot_48 ?_
          refine lv_goto (tgt := 58) hx hb dX11_restoreSnapshot_51 (by decide) ?_
          refine lv_aload_n hx hb dX11_restoreSnapshot_58 rfl (lv_at hl 0 rfl) ?_
          refine va_get (v := .ref mu) (D := D) (ci := 11) (C := RX11) (T := TX11) (N := 19) hx hb hts in_X11 hown hK hP 2 rfl rfl 5 (by decide) (hts _ kl_RX11_25) (fun _ h9 => h9) rfl dX11_restoreSnapshot_59 ?_
          refine ty_kv (wr := [(rf_RW ct 0 m1 958 s1), (rf_RW ct 2 iz 2 k), (rf_MO mo mw ma mf m0 m1 mu mv u0 u1 iz th1_4 mb mn mpt mbg mwr mwk mlf men), (rf_RW ct 0 m0 958 s0), (rf_RW ct 0 mw 958 h_25)]) (wc := ([] ++ ws_24)) (va_runS (As := [.ref u0, .ref mu]) (rest := []) ⟨hx, hb, hml, hown, hts⟩ (m_copiesSums l D ct S ws_24 ph xx u0 mu _ hT h_u0 h_mu hph hy1 hy11) (cm_S 2 hts kc_X11_copiesSums ki_RX11 kl_RX11_375 ks_X11_copiesSums kd_X11_copiesSums ⟨Nat.le_of_ble_eq_true rfl, Nat.le_of_ble_eq_true rfl⟩) (ty_preS (wr := [(rf_RW ct 0 m1 958 s1), (rf_RW ct 2 iz 2 k), (rf_MO mo mw ma mf m0 m1 mu mv u0 u1 iz th1_4 mb mn mpt mbg mwr mwk mlf men), (rf_RW ct 0 m0 958 s0), (rf_RW ct 0 mw 958 h_25)]) (wc := ([] ++ ws_24)) hP hK hD hS hA hX) rfl rfl hl.1 rfl (lv_room (Nat.le_of_ble_eq_true rfl)) dX11_restoreSnapshot_62 ⟨Nat.le_of_ble_eq_true rfl, Nat.le_of_ble_eq_true rfl⟩) hP hD hS hA (fun u H locs hw_32 hP hD hS => ?_)
          obtain ⟨ws_33, rfl⟩ : ∃ z, z = u := ⟨_, rfl⟩
          have hT := hw_32
          have hP : va_P D vwCl ([(rf_RW ct 0 m1 958 s1), (rf_RW ct 2 iz 2 k), (rf_MO mo mw ma mf m0 m1 mu mv u0 u1 iz th1_4 mb mn mpt mbg mwr mwk mlf men), (rf_RW ct 0 m0 958 s0), (rf_RW ct 0 mw 958 h_25)] ++ ws_33) H := hP
          have hD : va_D A ([(rf_RW ct 0 m1 958 s1), (rf_RW ct 2 iz 2 k), (rf_MO mo mw ma mf m0 m1 mu mv u0 u1 iz th1_4 mb mn mpt mbg mwr mwk mlf men), (rf_RW ct 0 m0 958 s0), (rf_RW ct 0 mw 958 h_25)] ++ ws_33) := hD
          refine lv_aload_n hx hb dX11_restoreSnapshot_65 rfl (lv_at hl 0 rfl) ?_
          refine va_get (v := .ref mw) (D := D) (ci := 11) (C := RX11) (T := TX11) (N := 19) hx hb hts in_X11 hown hK hP 2 rfl rfl 0 (by decide) (hts _ kl_RX11_9) (fun _ h9 => h9) rfl dX11_restoreSnapshot_66 ?_
          refine lv_bipush (v := 8) hx hb dX11_restoreSnapshot_69 (by decide) ?_
          refine va_iald hx hb hK hP 4 0 rfl rfl (cm_vin (by decide)) dX11_restoreSnapshot_71 ?_
          refine cm_cst (y := (h_25 8)) (by first | rfl | decide +kernel) ?_
          have hP : va_P D vwCl ([(rf_MO mo mw ma mf m0 m1 mu mv u0 u1 iz th1_4 mb mn mpt mbg mwr mwk mlf men), (rf_RW ct 0 mw 958 h_25), (rf_RW ct 0 m0 958 s0), (rf_RW ct 0 m1 958 s1), (rf_RW ct 2 iz 2 k)] ++ ws_33) H := ty_permP hP (ty_ordp (E := [(rf_RW ct 0 m1 958 s1), (rf_RW ct 2 iz 2 k), (rf_MO mo mw ma mf m0 m1 mu mv u0 u1 iz th1_4 mb mn mpt mbg mwr mwk mlf men), (rf_RW ct 0 m0 958 s0), (rf_RW ct 0 mw 958 h_25)]) (E2 := [(rf_MO mo mw ma mf m0 m1 mu mv u0 u1 iz th1_4 mb mn mpt mbg mwr mwk mlf men), (rf_RW ct 0 mw 958 h_25), (rf_RW ct 0 m0 958 s0), (rf_RW ct 0 m1 958 s1), (rf_RW ct 2 iz 2 k)]) (n := 5) [2, 4, 3, 0, 1] rfl rfl (by decide))
          have hD : va_D A ([(rf_MO mo mw ma mf m0 m1 mu mv u0 u1 iz th1_4 mb mn mpt mbg mwr mwk mlf men), (rf_RW ct 0 mw 958 h_25), (rf_RW ct 0 m0 958 s0), (rf_RW ct 0 m1 958 s1), (rf_RW ct 2 iz 2 k)] ++ ws_33) := ty_permD hD (ty_ordp (E := [(rf_RW ct 0 m1 958 s1), (rf_RW ct 2 iz 2 k), (rf_MO mo mw ma mf m0 m1 mu mv u0 u1 iz th1_4 mb mn mpt mbg mwr mwk mlf men), (rf_RW ct 0 m0 958 s0), (rf_RW ct 0 mw 958 h_25)]) (E2 := [(rf_MO mo mw ma mf m0 m1 mu mv u0 u1 iz th1_4 mb mn mpt mbg mwr mwk mlf men), (rf_RW ct 0 mw 958 h_25), (rf_RW ct 0 m0 958 s0), (rf_RW ct 0 m1 958 s1), (rf_RW ct 2 iz 2 k)]) (n := 5) [2, 4, 3, 0, 1] rfl rfl (by decide))
          exact W.iret (v := (h_25 8)) hx hb hr (fun t ht hW => ⟨⟨(h_25 8), (ws_33, th1_4, h_25), rfl, ⟨hT, ⟨rf_Ec (rf_rs0 hc_9 hc_8 hs0) hp_26, rf_rsA hc_9 hc_8 (hp_26 8 (by omega)) hz_6.2⟩⟩, by rw [ht]; exact hP, by rw [hAe]; exact hD⟩, hS.F ht⟩) hS.2.2 dX11_restoreSnapshot_72
    · refine lv_iconst (v := (-1)) hx hb dX11_restoreSnapshot_19 (by decide) ?_
      have hP : va_P D vwCl ([(rf_MO mo mw ma mf m0 m1 mu mv u0 u1 iz th1_4 mb mn mpt mbg mwr mwk mlf men), (rf_RW ct 0 mw 958 f), (rf_RW ct 0 m0 958 s0), (rf_RW ct 0 m1 958 s1), (rf_RW ct 2 iz 2 k)] ++ ws_3) H := ty_permP hP (ty_ordp (E := [(rf_RW ct 0 mw 958 f), (rf_RW ct 0 m0 958 s0), (rf_RW ct 0 m1 958 s1), (rf_RW ct 2 iz 2 k), (rf_MO mo mw ma mf m0 m1 mu mv u0 u1 iz th1_4 mb mn mpt mbg mwr mwk mlf men)]) (E2 := [(rf_MO mo mw ma mf m0 m1 mu mv u0 u1 iz th1_4 mb mn mpt mbg mwr mwk mlf men), (rf_RW ct 0 mw 958 f), (rf_RW ct 0 m0 958 s0), (rf_RW ct 0 m1 958 s1), (rf_RW ct 2 iz 2 k)]) (n := 5) [4, 0, 1, 2, 3] rfl rfl (by decide))
      have hD : va_D A ([(rf_MO mo mw ma mf m0 m1 mu mv u0 u1 iz th1_4 mb mn mpt mbg mwr mwk mlf men), (rf_RW ct 0 mw 958 f), (rf_RW ct 0 m0 958 s0), (rf_RW ct 0 m1 958 s1), (rf_RW ct 2 iz 2 k)] ++ ws_3) := ty_permD hD (ty_ordp (E := [(rf_RW ct 0 mw 958 f), (rf_RW ct 0 m0 958 s0), (rf_RW ct 0 m1 958 s1), (rf_RW ct 2 iz 2 k), (rf_MO mo mw ma mf m0 m1 mu mv u0 u1 iz th1_4 mb mn mpt mbg mwr mwk mlf men)]) (E2 := [(rf_MO mo mw ma mf m0 m1 mu mv u0 u1 iz th1_4 mb mn mpt mbg mwr mwk mlf men), (rf_RW ct 0 mw 958 f), (rf_RW ct 0 m0 958 s0), (rf_RW ct 0 m1 958 s1), (rf_RW ct 2 iz 2 k)]) (n := 5) [4, 0, 1, 2, 3] rfl rfl (by decide))
      exact W.iret (v := (-1)) hx hb hr (fun t ht hW => ⟨⟨(-1), (ws_3, th1_4, f), rfl, ⟨hT, ⟨hE, rf_rsN hz_6.1 hc_8 hz_6.2⟩⟩, by rw [ht]; exact hP, by rw [hAe]; exact hD⟩, hS.F ht⟩) hS.2.2 dX11_restoreSnapshot_20
  · refine lv_if_eq (tgt := 10) hx hb dX11_restoreSnapshot_5 (by decide) (fun hc => absurd hc (by decide)) (fun _ => ?_)
    refine lv_iconst (v := 0) hx hb dX11_restoreSnapshot_8 (by decide) ?_
    have hP : va_P D vwCl ([(rf_MO mo mw ma mf m0 m1 mu mv u0 u1 iz th1_4 mb mn mpt mbg mwr mwk mlf men), (rf_RW ct 0 mw 958 f), (rf_RW ct 0 m0 958 s0), (rf_RW ct 0 m1 958 s1), (rf_RW ct 2 iz 2 k)] ++ ws_3) H := ty_permP hP (ty_ordp (E := [(rf_RW ct 0 mw 958 f), (rf_RW ct 0 m0 958 s0), (rf_RW ct 0 m1 958 s1), (rf_RW ct 2 iz 2 k), (rf_MO mo mw ma mf m0 m1 mu mv u0 u1 iz th1_4 mb mn mpt mbg mwr mwk mlf men)]) (E2 := [(rf_MO mo mw ma mf m0 m1 mu mv u0 u1 iz th1_4 mb mn mpt mbg mwr mwk mlf men), (rf_RW ct 0 mw 958 f), (rf_RW ct 0 m0 958 s0), (rf_RW ct 0 m1 958 s1), (rf_RW ct 2 iz 2 k)]) (n := 5) [4, 0, 1, 2, 3] rfl rfl (by decide))
    have hD : va_D A ([(rf_MO mo mw ma mf m0 m1 mu mv u0 u1 iz th1_4 mb mn mpt mbg mwr mwk mlf men), (rf_RW ct 0 mw 958 f), (rf_RW ct 0 m0 958 s0), (rf_RW ct 0 m1 958 s1), (rf_RW ct 2 iz 2 k)] ++ ws_3) := ty_permD hD (ty_ordp (E := [(rf_RW ct 0 mw 958 f), (rf_RW ct 0 m0 958 s0), (rf_RW ct 0 m1 958 s1), (rf_RW ct 2 iz 2 k), (rf_MO mo mw ma mf m0 m1 mu mv u0 u1 iz th1_4 mb mn mpt mbg mwr mwk mlf men)]) (E2 := [(rf_MO mo mw ma mf m0 m1 mu mv u0 u1 iz th1_4 mb mn mpt mbg mwr mwk mlf men), (rf_RW ct 0 mw 958 f), (rf_RW ct 0 m0 958 s0), (rf_RW ct 0 m1 958 s1), (rf_RW ct 2 iz 2 k)]) (n := 5) [4, 0, 1, 2, 3] rfl rfl (by decide))
    exact W.iret (v := 0) hx hb hr (fun t ht hW => ⟨⟨0, (ws_3, th1_4, f), rfl, ⟨hT, ⟨hE, Or.inl ⟨hz_7.1, rfl, hz_7.2⟩⟩⟩, by rw [ht]; exact hP, by rw [hAe]; exact hD⟩, hS.F ht⟩) hS.2.2 dX11_restoreSnapshot_9
