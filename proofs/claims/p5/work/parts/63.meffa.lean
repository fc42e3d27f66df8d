section TYF
variable {p : Program} {l : Launch} {e : Env} {R : Room} {s : State} {m : MethodId} {args : Array Value} {below : List Frame} {meth : Method} {c : Code} {H : Heap} {locs : List Loc} {cells slots : Nat} {Q : State → Prop}
variable {mc ms : Nat} {A : Nat → Prop} {H0 : Heap} {a : Array Value} {pc : Nat} {ls : Array Slot} {st0 rest : List Value} {D : va_G} {ct : Nat → ClassId} {ws wc wr E : va_W} {free : Addr → Prop} {S : ty_S} {b : Nat} {ph : va_W → Prop} {xx : Nat → Nat → Nat → Prop}
end TYF
def q_X11_chargeEfficiency (G : Nat → Int32) (su : Nat → Int64) (p1 : Int32) (r : UInt32) (th1 : Int32) : Prop := (∃ (th1_4 : Int32), True ∧ ((((0 ≤ p1.toInt ∧ p1.toInt < (G 9).toInt) ∧ th1_4 = 0) ∧ (∃ (r_9 : Int64), (q_X11_sum su p1 (0 : Int32) r_9) ∧ ((¬ (lg_cmp r_9 0) = (0 : Int32) ∧ (∃ (r_16 : Int64), (q_X11_sum su p1 (1 : Int32) r_16) ∧ (∃ (r_22 : Int64), (q_X11_sum su p1 (0 : Int32) r_22) ∧ (r = (FP.fdiv (FP.l2f r_16) (FP.l2f r_22)) ∧ th1 = 0)))) ∨ ((lg_cmp r_9 0) = (0 : Int32) ∧ (r = 0 ∧ th1 = 0))))) ∨ ((¬ (0 ≤ p1.toInt ∧ p1.toInt < (G 9).toInt) ∧ th1_4 = 1) ∧ (r = 0 ∧ th1 = 1))))
set_option maxRecDepth 100000 in
set_option maxHeartbeats 4000000 in
theorem m_X11_chargeEfficiency (l : Launch) (D : va_G) (ct : Nat → ClassId) (S : ty_S) (ws : va_W) (ph : va_W → Prop) (xx : Nat → Nat → Nat → Prop) (mo : Nat) (mw : Nat) (ma : Nat) (mf : Nat) (m0 : Nat) (m1 : Nat) (mu : Nat) (mv : Nat) (u0 : Nat) (u1 : Nat) (iz : Nat) (mb : Nat) (th : Int32) (mn : Int32) (mpt : Int32) (mbg : Int32) (mwr : Int32) (mwk : Int32) (mlf : Int32) (men : Int32) (f : Nat → Int32) (G : Nat → Int32) (cx : Int) (su : Nat → Int64) (p1 : Int32) (sz : Nat) (hT : ty_V ct S ph ws) (hph : ty_C ph xx) (hy1 : ty_y1 xx) (hR : rf_R G cx f) : Met l yX11_chargeEfficiency (ws_ yX11_chargeEfficiency cX11_chargeEfficiency 2 (some .float)) ({ frames := 2, cells := 0, slots := 0, locals := 46 } : Room) (va_Pc [.ref mo, .int p1] (cmP D ct sz ([(rf_MO mo mw ma mf m0 m1 mu mv u0 u1 iz th mb mn mpt mbg mwr mwk mlf men), (rf_RW ct 0 mw 958 f), (mu, .inl (ct 1, 42, .inr (.inl su)))] ++ ws))) (va_Qf (fun (r : UInt32) (u : va_W × Int32) => match u with | (u9, th1) => ty_V ct S ph u9 ∧ (q_X11_chargeEfficiency G su p1 r th1)) (cmB D ([(rf_MO mo mw ma mf m0 m1 mu mv u0 u1 iz th mb mn mpt mbg mwr mwk mlf men), (rf_RW ct 0 mw 958 f), (mu, .inl (ct 1, 42, .inr (.inl su)))] ++ ws) sz (fun (u : va_W × Int32) => match u with | (u9, th1) => ([(rf_MO mo mw ma mf m0 m1 mu mv u0 u1 iz th1 mb mn mpt mbg mwr mwk mlf men), (rf_RW ct 0 mw 958 f), (mu, .inl (ct 1, 42, .inr (.inl su)))] ++ u9))) (va_A ([(rf_MO mo mw ma mf m0 m1 mu mv u0 u1 iz th mb mn mpt mbg mwr mwk mlf men), (rf_RW ct 0 mw 958 f), (mu, .inl (ct 1, 42, .inr (.inl su)))] ++ ws) sz)) 0 0 (va_A ([(rf_MO mo mw ma mf m0 m1 mu mv u0 u1 iz th mb mn mpt mbg mwr mwk mlf men), (rf_RW ct 0 mw 958 f), (mu, .inl (ct 1, 42, .inr (.inl su)))] ++ ws) sz) := by
  refine Met.ofW (cc := cX11_chargeEfficiency) (maxL := 2) (ret := (some .float)) (by decide) rfl ?_
  intro p e s m args below meth c s₁ B hml hv
  obtain ⟨rfl, hsz, hP, hK, hD0, hX⟩ := hv
  have hx := B.exec
  have hb := B.bytes
  have hr := B.returns
  have hts := ws_all (atoms_spec (ws := ws_ yX11_chargeEfficiency cX11_chargeEfficiency 2 (some .float)) B.pre)
  have hown : s.vm.findClass RX11 = some m.cls := findClass_of_methodNamed B.named
  have hlocks := B.notSynchronized
  subst hsz
  have hD := hD0.self (sz := s.heap.size)
  generalize hAe : va_A ([(rf_MO mo mw ma mf m0 m1 mu mv u0 u1 iz th mb mn mpt mbg mwr mwk mlf men), (rf_RW ct 0 mw 958 f), (mu, .inl (ct 1, 42, .inr (.inl su)))] ++ ws) s.heap.size = A at hD hX ⊢
  have hA : ∀ q : Nat, s.heap.size ≤ q → A q := fun q h => by rw [← hAe]; exact Or.inr h
  have hS : va_S A s.heap s.heap [] := va_S.rf
  have hl := lv_entry ([.ref mo, .int p1]) (n := 2) (Nat.le_of_ble_eq_true rfl)
  rw [lg_entry_eq]
  generalize (lg_sl ([.ref mo, .int p1]) ++ List.replicate (2 - (lg_sl ([.ref mo, .int p1])).length) Slot.unset).toArray = ls at hl ⊢
  have hl : lv_has ls 2 [(0, .ref mo), (1, .int p1)] := hl
  refine lv_aload_n hx hb dX11_chargeEfficiency_0 rfl (lv_at hl 0 rfl) ?_
  refine lv_iload_n hx hb dX11_chargeEfficiency_1 rfl (lv_at hl 1 rfl) ?_
  obtain ⟨hP, hD⟩ := ty_opPD (E1 := [(mu, .inl (ct 1, 42, .inr (.inl su)))]) (E2 := [(rf_MO mo mw ma mf m0 m1 mu mv u0 u1 iz th mb mn mpt mbg mwr mwk mlf men), (rf_RW ct 0 mw 958 f)]) (n := 3) [2, 0, 1] hP hD rfl rfl (by decide +kernel) ty_mva
  refine ty_Ki hP hD hS hA (va_runV (As := [.int p1]) (rest := []) ⟨hx, hb, hml, hown, hts⟩ (m_X11_noChannel l D ct S ws ph xx mo mw ma mf m0 m1 mu mv u0 u1 iz mb th mn mpt mbg mwr mwk mlf men f G cx p1 _ hT hph hy1 hR) (cm_V 1 hts kc_X11_noChannel ki_RX11 kl_RX11_344 kv_X11_noChannel kx_X11_noChannel kd_X11_noChannel ⟨Nat.le_of_ble_eq_true rfl, Nat.le_of_ble_eq_true rfl⟩) (ty_preE (ci := 11) (q0 := 1) hP hK hD hS hA hX rfl rfl) rfl rfl hl.1 rfl (lv_room (Nat.le_of_ble_eq_true rfl)) dX11_chargeEfficiency_2 ⟨Nat.le_of_ble_eq_true rfl, Nat.le_of_ble_eq_true rfl⟩) (fun r_1 u H locs hw_2 hP hD hS => ?_)
  obtain ⟨ws_3, th1_4⟩ := u
  obtain ⟨hT, hp_5⟩ := hw_2
  have hp_5 : ((r_1 = 0 ∧ (0 ≤ p1.toInt ∧ p1.toInt < (G 9).toInt) ∧ th1_4 = 0) ∨ (r_1 = 1 ∧ ¬ (0 ≤ p1.toInt ∧ p1.toInt < (G 9).toInt) ∧ th1_4 = 1)) := hp_5
  obtain ⟨hP, hD⟩ := ty_shPD (w2 := ([(mu, .inl (ct 1, 42, .inr (.inl su))), (rf_MO mo mw ma mf m0 m1 mu mv u0 u1 iz th1_4 mb mn mpt mbg mwr mwk mlf men), (rf_RW ct 0 mw 958 f)] ++ ws_3)) hP hD rfl
  rcases hp_5 with ⟨rfl, hz_6⟩ | ⟨rfl, hz_7⟩
  · have he_8 := hz_6.2
    have hP : va_P D vwCl ([(mu, .inl (ct 1, 42, .inr (.inl su))), (rf_MO mo mw ma mf m0 m1 mu mv u0 u1 iz (0) mb mn mpt mbg mwr mwk mlf men), (rf_RW ct 0 mw 958 f)] ++ ws_3) H := by rw [he_8] at hP; exact hP
    have hD : va_D A ([(mu, .inl (ct 1, 42, .inr (.inl su))), (rf_MO mo mw ma mf m0 m1 mu mv u0 u1 iz (0) mb mn mpt mbg mwr mwk mlf men), (rf_RW ct 0 mw 958 f)] ++ ws_3) := by rw [he_8] at hD; exact hD
    refine lv_if_ne (tgt := 19) hx hb dX11_chargeEfficiency_5 (by decide) (fun hc => absurd (by decide) hc) (fun _ => ?_)
    refine lv_aload_n hx hb dX11_chargeEfficiency_8 rfl (lv_at hl 0 rfl) ?_
    refine lv_iload_n hx hb dX11_chargeEfficiency_9 rfl (lv_at hl 1 rfl) ?_
    refine lv_iconst (v := 0) hx hb dX11_chargeEfficiency_10 (by decide) ?_
    obtain ⟨hP, hD⟩ := ty_opPD (E1 := [(rf_RW ct 0 mw 958 f)]) (E2 := [(rf_MO mo mw ma mf m0 m1 mu mv u0 u1 iz (0) mb mn mpt mbg mwr mwk mlf men), (mu, .inl (ct 1, 42, .inr (.inl su)))]) (n := 3) [2, 1, 0] hP hD rfl rfl (by decide +kernel) ty_mva
    refine ty_Kl hP hD hS hA (va_runV (As := [.int p1, .int 0]) (rest := []) ⟨hx, hb, hml, hown, hts⟩ (m_X11_sum l D ct S ws_3 ph xx mo mw ma mf m0 m1 mu mv u0 u1 iz mb (0 : Int32) mn mpt mbg mwr mwk mlf men su p1 (0 : Int32) _ hT hph hy1 (rf_c6 hR hz_6.1) (by decide)) (cm_V 2 hts kc_X11_sum ki_RX11 kl_RX11_261 kv_X11_sum kx_X11_sum kd_X11_sum ⟨Nat.le_of_ble_eq_true rfl, Nat.le_of_ble_eq_true rfl⟩) (ty_preE (ci := 11) (q0 := 1) hP hK hD hS hA hX rfl rfl) rfl rfl hl.1 rfl (lv_room (Nat.le_of_ble_eq_true rfl)) dX11_chargeEfficiency_11 ⟨Nat.le_of_ble_eq_true rfl, Nat.le_of_ble_eq_true rfl⟩) (fun r_9 u H locs hw_10 hP hD hS => ?_)
    obtain ⟨ws_11, rfl⟩ : ∃ z, z = u := ⟨_, rfl⟩
    obtain ⟨hT, hp_12⟩ := hw_10
    have hp_12 : (q_X11_sum su p1 (0 : Int32) r_9) := hp_12
    obtain ⟨hP, hD⟩ := ty_shPD (w2 := ([(rf_RW ct 0 mw 958 f), (rf_MO mo mw ma mf m0 m1 mu mv u0 u1 iz (0) mb mn mpt mbg mwr mwk mlf men), (mu, .inl (ct 1, 42, .inr (.inl su)))] ++ ws_11)) hP hD rfl
    refine lv_lconst (v := 0) hx hb dX11_chargeEfficiency_14 (by decide) ?_
    refine W.lcmp hx hb dX11_chargeEfficiency_15 ?_
    refine lv_if_ne (tgt := 21) hx hb dX11_chargeEfficiency_16 (by decide) (fun hc_15 => ?_) (fun hc_15 => ?_)
    · refine lv_aload_n hx hb dX11_chargeEfficiency_21 rfl (lv_at hl 0 rfl) ?_
      refine lv_iload_n hx hb dX11_chargeEfficiency_22 rfl (lv_at hl 1 rfl) ?_
      refine lv_iconst (v := 1) hx hb dX11_chargeEfficiency_23 (by decide) ?_
      obtain ⟨hP, hD⟩ := ty_ipPD (E1 := [(rf_RW ct 0 mw 958 f)]) (E2 := [(rf_MO mo mw ma mf m0 m1 mu mv u0 u1 iz (0) mb mn mpt mbg mwr mwk mlf men), (mu, .inl (ct 1, 42, .inr (.inl su)))]) hP hD rfl ty_mva
      refine ty_Kl hP hD hS hA (va_runV (As := [.int p1, .int 1]) (rest := []) ⟨hx, hb, hml, hown, hts⟩ (m_X11_sum l D ct S ws_11 ph xx mo mw ma mf m0 m1 mu mv u0 u1 iz mb (0 : Int32) mn mpt mbg mwr mwk mlf men su p1 (1 : Int32) _ hT hph hy1 (rf_c6 hR hz_6.1) (by decide)) (cm_V 2 hts kc_X11_sum ki_RX11 kl_RX11_261 kv_X11_sum kx_X11_sum kd_X11_sum ⟨Nat.le_of_ble_eq_true rfl, Nat.le_of_ble_eq_true rfl⟩) (ty_preE (ci := 11) (q0 := 1) hP hK hD hS hA hX rfl rfl) rfl rfl hl.1 rfl (lv_room (Nat.le_of_ble_eq_true rfl)) dX11_chargeEfficiency_24 ⟨Nat.le_of_ble_eq_true rfl, Nat.le_of_ble_eq_true rfl⟩) (fun r_16 u H locs hw_17 hP hD hS => ?_)
      obtain ⟨ws_18, rfl⟩ : ∃ z, z = u := ⟨_, rfl⟩
      obtain ⟨hT, hp_19⟩ := hw_17
      have hp_19 : (q_X11_sum su p1 (1 : Int32) r_16) := hp_19
      obtain ⟨hP, hD⟩ := ty_shPD (w2 := ([(rf_RW ct 0 mw 958 f), (rf_MO mo mw ma mf m0 m1 mu mv u0 u1 iz (0) mb mn mpt mbg mwr mwk mlf men), (mu, .inl (ct 1, 42, .inr (.inl su)))] ++ ws_18)) hP hD rfl
      refine lv_l2f hx hb dX11_chargeEfficiency_27 ?_
      refine lv_aload_n hx hb dX11_chargeEfficiency_28 rfl (lv_at hl 0 rfl) ?_
      refine lv_iload_n hx hb dX11_chargeEfficiency_29 rfl (lv_at hl 1 rfl) ?_
      refine lv_iconst (v := 0) hx hb dX11_chargeEfficiency_30 (by decide) ?_
      obtain ⟨hP, hD⟩ := ty_ipPD (E1 := [(rf_RW ct 0 mw 958 f)]) (E2 := [(rf_MO mo mw ma mf m0 m1 mu mv u0 u1 iz (0) mb mn mpt mbg mwr mwk mlf men), (mu, .inl (ct 1, 42, .inr (.inl su)))]) hP hD rfl ty_mva
      refine ty_Kl hP hD hS hA (va_runV (As := [.int p1, .int 0]) (rest := [.float (FP.l2f r_16)]) ⟨hx, hb, hml, hown, hts⟩ (m_X11_sum l D ct S ws_18 ph xx mo mw ma mf m0 m1 mu mv u0 u1 iz mb (0 : Int32) mn mpt mbg mwr mwk mlf men su p1 (0 : Int32) _ hT hph hy1 (rf_c6 hR hz_6.1) (by decide)) (cm_V 2 hts kc_X11_sum ki_RX11 kl_RX11_261 kv_X11_sum kx_X11_sum kd_X11_sum ⟨Nat.le_of_ble_eq_true rfl, Nat.le_of_ble_eq_true rfl⟩) (ty_preE (ci := 11) (q0 := 1) hP hK hD hS hA hX rfl rfl) rfl rfl hl.1 rfl (lv_room (Nat.le_of_ble_eq_true rfl)) dX11_chargeEfficiency_31 ⟨Nat.le_of_ble_eq_true rfl, Nat.le_of_ble_eq_true rfl⟩) (fun r_22 u H locs hw_23 hP hD hS => ?_)
      obtain ⟨ws_24, rfl⟩ : ∃ z, z = u := ⟨_, rfl⟩
      obtain ⟨hT, hp_25⟩ := hw_23
      have hp_25 : (q_X11_sum su p1 (0 : Int32) r_22) := hp_25
      obtain ⟨hP, hD⟩ := ty_shPD (w2 := ([(rf_RW ct 0 mw 958 f), (rf_MO mo mw ma mf m0 m1 mu mv u0 u1 iz (0) mb mn mpt mbg mwr mwk mlf men), (mu, .inl (ct 1, 42, .inr (.inl su)))] ++ ws_24)) hP hD rfl
      have hs_28 : r_9 = r_22 := Eq.trans hp_12 (Eq.symm hp_25)
      refine lv_l2f hx hb dX11_chargeEfficiency_34 ?_
      refine lv_fdiv hx hb dX11_chargeEfficiency_35 (fq_quo (fun q => hc_15 (by rw [hs_28, q]; exact cm_lceq 0))) ?_
      obtain ⟨hP, hD⟩ := ty_ordPD (E2 := [(rf_MO mo mw ma mf m0 m1 mu mv u0 u1 iz (0) mb mn mpt mbg mwr mwk mlf men), (rf_RW ct 0 mw 958 f), (mu, .inl (ct 1, 42, .inr (.inl su)))]) (n := 3) [1, 0, 2] hP hD rfl rfl (by decide +kernel)
      exact W.fret (v := (FP.fdiv (FP.l2f r_16) (FP.l2f r_22))) hx hb hr (fun t ht hW => ⟨⟨(FP.fdiv (FP.l2f r_16) (FP.l2f r_22)), (ws_24, (0 : Int32)), rfl, ⟨hT, ⟨th1_4, trivial, (Or.inl ⟨hz_6, ⟨r_9, hp_12, (Or.inl ⟨hc_15, ⟨r_16, hp_19, ⟨r_22, hp_25, ⟨rfl, rfl⟩⟩⟩⟩)⟩⟩)⟩⟩, by rw [ht]; exact hP, by rw [hAe]; exact hD⟩, hS.F ht⟩) hS.2.2 dX11_chargeEfficiency_36
    · refine lv_fconst0 hx hb dX11_chargeEfficiency_19 ?_
      obtain ⟨hP, hD⟩ := ty_ordPD (E2 := [(rf_MO mo mw ma mf m0 m1 mu mv u0 u1 iz (0) mb mn mpt mbg mwr mwk mlf men), (rf_RW ct 0 mw 958 f), (mu, .inl (ct 1, 42, .inr (.inl su)))]) (n := 3) [1, 0, 2] hP hD rfl rfl (by decide +kernel)
      exact W.fret (v := 0) hx hb hr (fun t ht hW => ⟨⟨0, (ws_11, (0 : Int32)), rfl, ⟨hT, ⟨th1_4, trivial, (Or.inl ⟨hz_6, ⟨r_9, hp_12, (Or.inr ⟨hc_15, ⟨rfl, rfl⟩⟩)⟩⟩)⟩⟩, by rw [ht]; exact hP, by rw [hAe]; exact hD⟩, hS.F ht⟩) hS.2.2 dX11_chargeEfficiency_20
  · have he_29 := hz_7.2
    have hP : va_P D vwCl ([(mu, .inl (ct 1, 42, .inr (.inl su))), (rf_MO mo mw ma mf m0 m1 mu mv u0 u1 iz (1) mb mn mpt mbg mwr mwk mlf men), (rf_RW ct 0 mw 958 f)] ++ ws_3) H := by rw [he_29] at hP; exact hP
    have hD : va_D A ([(mu, .inl (ct 1, 42, .inr (.inl su))), (rf_MO mo mw ma mf m0 m1 mu mv u0 u1 iz (1) mb mn mpt mbg mwr mwk mlf men), (rf_RW ct 0 mw 958 f)] ++ ws_3) := by rw [he_29] at hD; exact hD
    refine lv_if_ne (tgt := 19) hx hb dX11_chargeEfficiency_5 (by decide) (fun _ => ?_) (fun hc => absurd hc (by decide))
    refine lv_fconst0 hx hb dX11_chargeEfficiency_19 ?_
    obtain ⟨hP, hD⟩ := ty_ordPD (E2 := [(rf_MO mo mw ma mf m0 m1 mu mv u0 u1 iz (1) mb mn mpt mbg mwr mwk mlf men), (rf_RW ct 0 mw 958 f), (mu, .inl (ct 1, 42, .inr (.inl su)))]) (n := 3) [1, 2, 0] hP hD rfl rfl (by decide +kernel)
    exact W.fret (v := 0) hx hb hr (fun t ht hW => ⟨⟨0, (ws_3, (1 : Int32)), rfl, ⟨hT, ⟨th1_4, trivial, (Or.inr ⟨hz_7, ⟨rfl, rfl⟩⟩)⟩⟩, by rw [ht]; exact hP, by rw [hAe]; exact hD⟩, hS.F ht⟩) hS.2.2 dX11_chargeEfficiency_20
def q_X11_energyEfficiency (G : Nat → Int32) (su : Nat → Int64) (p1 : Int32) (r : UInt64) (th1 : Int32) : Prop := (∃ (th1_4 : Int32), True ∧ ((((0 ≤ p1.toInt ∧ p1.toInt < (G 9).toInt) ∧ th1_4 = 0) ∧ (∃ (r_9 : Int64), (q_X11_sum su p1 (2 : Int32) r_9) ∧ ((¬ (lg_cmp r_9 0) = (0 : Int32) ∧ (∃ (r_16 : Int64), (q_X11_sum su p1 (3 : Int32) r_16) ∧ (∃ (r_22 : Int64), (q_X11_sum su p1 (2 : Int32) r_22) ∧ (r = (FP.ddiv (FP.l2d r_16) (FP.l2d r_22)) ∧ th1 = 0)))) ∨ ((lg_cmp r_9 0) = (0 : Int32) ∧ (r = 0 ∧ th1 = 0))))) ∨ ((¬ (0 ≤ p1.toInt ∧ p1.toInt < (G 9).toInt) ∧ th1_4 = 1) ∧ (r = 0 ∧ th1 = 1))))
set_option maxRecDepth 100000 in
set_option maxHeartbeats 4000000 in
theorem m_X11_energyEfficiency (l : Launch) (D : va_G) (ct : Nat → ClassId) (S : ty_S) (ws : va_W) (ph : va_W → Prop) (xx : Nat → Nat → Nat → Prop) (mo : Nat) (mw : Nat) (ma : Nat) (mf : Nat) (m0 : Nat) (m1 : Nat) (mu : Nat) (mv : Nat) (u0 : Nat) (u1 : Nat) (iz : Nat) (mb : Nat) (th : Int32) (mn : Int32) (mpt : Int32) (mbg : Int32) (mwr : Int32) (mwk : Int32) (mlf : Int32) (men : Int32) (f : Nat → Int32) (G : Nat → Int32) (cx : Int) (su : Nat → Int64) (p1 : Int32) (sz : Nat) (hT : ty_V ct S ph ws) (hph : ty_C ph xx) (hy1 : ty_y1 xx) (hR : rf_R G cx f) : Met l yX11_energyEfficiency (ws_ yX11_energyEfficiency cX11_energyEfficiency 2 (some .double)) ({ frames := 2, cells := 0, slots := 0, locals := 46 } : Room) (va_Pc [.ref mo, .int p1] (cmP D ct sz ([(rf_MO mo mw ma mf m0 m1 mu mv u0 u1 iz th mb mn mpt mbg mwr mwk mlf men), (rf_RW ct 0 mw 958 f), (mu, .inl (ct 1, 42, .inr (.inl su)))] ++ ws))) (va_Qd (fun (r : UInt64) (u : va_W × Int32) => match u with | (u9, th1) => ty_V ct S ph u9 ∧ (q_X11_energyEfficiency G su p1 r th1)) (cmB D ([(rf_MO mo mw ma mf m0 m1 mu mv u0 u1 iz th mb mn mpt mbg mwr mwk mlf men), (rf_RW ct 0 mw 958 f), (mu, .inl (ct 1, 42, .inr (.inl su)))] ++ ws) sz (fun (u : va_W × Int32) => match u with | (u9, th1) => ([(rf_MO mo mw ma mf m0 m1 mu mv u0 u1 iz th1 mb mn mpt mbg mwr mwk mlf men), (rf_RW ct 0 mw 958 f), (mu, .inl (ct 1, 42, .inr (.inl su)))] ++ u9))) (va_A ([(rf_MO mo mw ma mf m0 m1 mu mv u0 u1 iz th mb mn mpt mbg mwr mwk mlf men), (rf_RW ct 0 mw 958 f), (mu, .inl (ct 1, 42, .inr (.inl su)))] ++ ws) sz)) 0 0 (va_A ([(rf_MO mo mw ma mf m0 m1 mu mv u0 u1 iz th mb mn mpt mbg mwr mwk mlf men), (rf_RW ct 0 mw 958 f), (mu, .inl (ct 1, 42, .inr (.inl su)))] ++ ws) sz) := by
  refine Met.ofW (cc := cX11_energyEfficiency) (maxL := 2) (ret := (some .double)) (by decide) rfl ?_
  intro p e s m args below meth c s₁ B hml hv
  obtain ⟨rfl, hsz, hP, hK, hD0, hX⟩ := hv
  have hx := B.exec
  have hb := B.bytes
  have hr := B.returns
  have hts := ws_all (atoms_spec (ws := ws_ yX11_energyEfficiency cX11_energyEfficiency 2 (some .double)) B.pre)
  have hown : s.vm.findClass RX11 = some m.cls := findClass_of_methodNamed B.named
  have hlocks := B.notSynchronized
  subst hsz
  have hD := hD0.self (sz := s.heap.size)
  generalize hAe : va_A ([(rf_MO mo mw ma mf m0 m1 mu mv u0 u1 iz th mb mn mpt mbg mwr mwk mlf men), (rf_RW ct 0 mw 958 f), (mu, .inl (ct 1, 42, .inr (.inl su)))] ++ ws) s.heap.size = A at hD hX ⊢
  have hA : ∀ q : Nat, s.heap.size ≤ q → A q := fun q h => by rw [← hAe]; exact Or.inr h
  have hS : va_S A s.heap s.heap [] := va_S.rf
  have hl := lv_entry ([.ref mo, .int p1]) (n := 2) (Nat.le_of_ble_eq_true rfl)
  rw [lg_entry_eq]
  generalize (lg_sl ([.ref mo, .int p1]) ++ List.replicate (2 - (lg_sl ([.ref mo, .int p1])).length) Slot.unset).toArray = ls at hl ⊢
  have hl : lv_has ls 2 [(0, .ref mo), (1, .int p1)] := hl
  refine lv_aload_n hx hb dX11_energyEfficiency_0 rfl (lv_at hl 0 rfl) ?_
  refine lv_iload_n hx hb dX11_energyEfficiency_1 rfl (lv_at hl 1 rfl) ?_
  obtain ⟨hP, hD⟩ := ty_opPD (E1 := [(mu, .inl (ct 1, 42, .inr (.inl su)))]) (E2 := [(rf_MO mo mw ma mf m0 m1 mu mv u0 u1 iz th mb mn mpt mbg mwr mwk mlf men), (rf_RW ct 0 mw 958 f)]) (n := 3) [2, 0, 1] hP hD rfl rfl (by decide +kernel) ty_mva
  refine ty_Ki hP hD hS hA (va_runV (As := [.int p1]) (rest := []) ⟨hx, hb, hml, hown, hts⟩ (m_X11_noChannel l D ct S ws ph xx mo mw ma mf m0 m1 mu mv u0 u1 iz mb th mn mpt mbg mwr mwk mlf men f G cx p1 _ hT hph hy1 hR) (cm_V 1 hts kc_X11_noChannel ki_RX11 kl_RX11_344 kv_X11_noChannel kx_X11_noChannel kd_X11_noChannel ⟨Nat.le_of_ble_eq_true rfl, Nat.le_of_ble_eq_true rfl⟩) (ty_preE (ci := 11) (q0 := 1) hP hK hD hS hA hX rfl rfl) rfl rfl hl.1 rfl (lv_room (Nat.le_of_ble_eq_true rfl)) dX11_energyEfficiency_2 ⟨Nat.le_of_ble_eq_true rfl, Nat.le_of_ble_eq_true rfl⟩) (fun r_1 u H locs hw_2 hP hD hS => ?_)
  obtain ⟨ws_3, th1_4⟩ := u
  obtain ⟨hT, hp_5⟩ := hw_2
  have hp_5 : ((r_1 = 0 ∧ (0 ≤ p1.toInt ∧ p1.toInt < (G 9).toInt) ∧ th1_4 = 0) ∨ (r_1 = 1 ∧ ¬ (0 ≤ p1.toInt ∧ p1.toInt < (G 9).toInt) ∧ th1_4 = 1)) := hp_5
  obtain ⟨hP, hD⟩ := ty_shPD (w2 := ([(mu, .inl (ct 1, 42, .inr (.inl su))), (rf_MO mo mw ma mf m0 m1 mu mv u0 u1 iz th1_4 mb mn mpt mbg mwr mwk mlf men), (rf_RW ct 0 mw 958 f)] ++ ws_3)) hP hD rfl
  rcases hp_5 with ⟨rfl, hz_6⟩ | ⟨rfl, hz_7⟩
  · have he_8 := hz_6.2
    have hP : va_P D vwCl ([(mu, .inl (ct 1, 42, .inr (.inl su))), (rf_MO mo mw ma mf m0 m1 mu mv u0 u1 iz (0) mb mn mpt mbg mwr mwk mlf men), (rf_RW ct 0 mw 958 f)] ++ ws_3) H := by rw [he_8] at hP; exact hP
    have hD : va_D A ([(mu, .inl (ct 1, 42, .inr (.inl su))), (rf_MO mo mw ma mf m0 m1 mu mv u0 u1 iz (0) mb mn mpt mbg mwr mwk mlf men), (rf_RW ct 0 mw 958 f)] ++ ws_3) := by rw [he_8] at hD; exact hD
    refine lv_if_ne (tgt := 19) hx hb dX11_energyEfficiency_5 (by decide) (fun hc => absurd (by decide) hc) (fun _ => ?_)
    refine lv_aload_n hx hb dX11_energyEfficiency_8 rfl (lv_at hl 0 rfl) ?_
    refine lv_iload_n hx hb dX11_energyEfficiency_9 rfl (lv_at hl 1 rfl) ?_
    refine lv_iconst (v := 2) hx hb dX11_energyEfficiency_10 (by decide) ?_
    obtain ⟨hP, hD⟩ := ty_opPD (E1 := [(rf_RW ct 0 mw 958 f)]) (E2 := [(rf_MO mo mw ma mf m0 m1 mu mv u0 u1 iz (0) mb mn mpt mbg mwr mwk mlf men), (mu, .inl (ct 1, 42, .inr (.inl su)))]) (n := 3) [2, 1, 0] hP hD rfl rfl (by decide +kernel) ty_mva
    refine ty_Kl hP hD hS hA (va_runV (As := [.int p1, .int 2]) (rest := []) ⟨hx, hb, hml, hown, hts⟩ (m_X11_sum l D ct S ws_3 ph xx mo mw ma mf m0 m1 mu mv u0 u1 iz mb (0 : Int32) mn mpt mbg mwr mwk mlf men su p1 (2 : Int32) _ hT hph hy1 (rf_c6 hR hz_6.1) (by decide)) (cm_V 2 hts kc_X11_sum ki_RX11 kl_RX11_261 kv_X11_sum kx_X11_sum kd_X11_sum ⟨Nat.le_of_ble_eq_true rfl, Nat.le_of_ble_eq_true rfl⟩) (ty_preE (ci := 11) (q0 := 1) hP hK hD hS hA hX rfl rfl) rfl rfl hl.1 rfl (lv_room (Nat.le_of_ble_eq_true rfl)) dX11_energyEfficiency_11 ⟨Nat.le_of_ble_eq_true rfl, Nat.le_of_ble_eq_true rfl⟩) (fun r_9 u H locs hw_10 hP hD hS => ?_)
    obtain ⟨ws_11, rfl⟩ : ∃ z, z = u := ⟨_, rfl⟩
    obtain ⟨hT, hp_12⟩ := hw_10
    have hp_12 : (q_X11_sum su p1 (2 : Int32) r_9) := hp_12
    obtain ⟨hP, hD⟩ := ty_shPD (w2 := ([(rf_RW ct 0 mw 958 f), (rf_MO mo mw ma mf m0 m1 mu mv u0 u1 iz (0) mb mn mpt mbg mwr mwk mlf men), (mu, .inl (ct 1, 42, .inr (.inl su)))] ++ ws_11)) hP hD rfl
    refine lv_lconst (v := 0) hx hb dX11_energyEfficiency_14 (by decide) ?_
    refine W.lcmp hx hb dX11_energyEfficiency_15 ?_
    refine lv_if_ne (tgt := 21) hx hb dX11_energyEfficiency_16 (by decide) (fun hc_15 => ?_) (fun hc_15 => ?_)
    · refine lv_aload_n hx hb dX11_energyEfficiency_21 rfl (lv_at hl 0 rfl) ?_
      refine lv_iload_n hx hb dX11_energyEfficiency_22 rfl (lv_at hl 1 rfl) ?_
      refine lv_iconst (v := 3) hx hb dX11_energyEfficiency_23 (by decide) ?_
      obtain ⟨hP, hD⟩ := ty_ipPD (E1 := [(rf_RW ct 0 mw 958 f)]) (E2 := [(rf_MO mo mw ma mf m0 m1 mu mv u0 u1 iz (0) mb mn mpt mbg mwr mwk mlf men), (mu, .inl (ct 1, 42, .inr (.inl su)))]) hP hD rfl ty_mva
      refine ty_Kl hP hD hS hA (va_runV (As := [.int p1, .int 3]) (rest := []) ⟨hx, hb, hml, hown, hts⟩ (m_X11_sum l D ct S ws_11 ph xx mo mw ma mf m0 m1 mu mv u0 u1 iz mb (0 : Int32) mn mpt mbg mwr mwk mlf men su p1 (3 : Int32) _ hT hph hy1 (rf_c6 hR hz_6.1) (by decide)) (cm_V 2 hts kc_X11_sum ki_RX11 kl_RX11_261 kv_X11_sum kx_X11_sum kd_X11_sum ⟨Nat.le_of_ble_eq_true rfl, Nat.le_of_ble_eq_true rfl⟩) (ty_preE (ci := 11) (q0 := 1) hP hK hD hS hA hX rfl rfl) rfl rfl hl.1 rfl (lv_room (Nat.le_of_ble_eq_true rfl)) dX11_energyEfficiency_24 ⟨Nat.le_of_ble_eq_true rfl, Nat.le_of_ble_eq_true rfl⟩) (fun r_16 u H locs hw_17 hP hD hS => ?_)
      obtain ⟨ws_18, rfl⟩ : ∃ z, z = u := ⟨_, rfl⟩
      obtain ⟨hT, hp_19⟩ := hw_17
      have hp_19 : (q_X11_sum su p1 (3 : Int32) r_16) := hp_19
      obtain ⟨hP, hD⟩ := ty_shPD (w2 := ([(rf_RW ct 0 mw 958 f), (rf_MO mo mw ma mf m0 m1 mu mv u0 u1 iz (0) mb mn mpt mbg mwr mwk mlf men), (mu, .inl (ct 1, 42, .inr (.inl su)))] ++ ws_18)) hP hD rfl
      refine lv_l2d hx hb dX11_energyEfficiency_27 ?_
      refine lv_aload_n hx hb dX11_energyEfficiency_28 rfl (lv_at hl 0 rfl) ?_
      refine lv_iload_n hx hb dX11_energyEfficiency_29 rfl (lv_at hl 1 rfl) ?_
      refine lv_iconst (v := 2) hx hb dX11_energyEfficiency_30 (by decide) ?_
      obtain ⟨hP, hD⟩ := ty_ipPD (E1 := [(rf_RW ct 0 mw 958 f)]) (E2 := [(rf_MO mo mw ma mf m0 m1 mu mv u0 u1 iz (0) mb mn mpt mbg mwr mwk mlf men), (mu, .inl (ct 1, 42, .inr (.inl su)))]) hP hD rfl ty_mva
      refine ty_Kl hP hD hS hA (va_runV (As := [.int p1, .int 2]) (rest := [.double (FP.l2d r_16)]) ⟨hx, hb, hml, hown, hts⟩ (m_X11_sum l D ct S ws_18 ph xx mo mw ma mf m0 m1 mu mv u0 u1 iz mb (0 : Int32) mn mpt mbg mwr mwk mlf men su p1 (2 : Int32) _ hT hph hy1 (rf_c6 hR hz_6.1) (by decide)) (cm_V 2 hts kc_X11_sum ki_RX11 kl_RX11_261 kv_X11_sum kx_X11_sum kd_X11_sum ⟨Nat.le_of_ble_eq_true rfl, Nat.le_of_ble_eq_true rfl⟩) (ty_preE (ci := 11) (q0 := 1) hP hK hD hS hA hX rfl rfl) rfl rfl hl.1 rfl (lv_room (Nat.le_of_ble_eq_true rfl)) dX11_energyEfficiency_31 ⟨Nat.le_of_ble_eq_true rfl, Nat.le_of_ble_eq_true rfl⟩) (fun r_22 u H locs hw_23 hP hD hS => ?_)
      obtain ⟨ws_24, rfl⟩ : ∃ z, z = u := ⟨_, rfl⟩
      obtain ⟨hT, hp_25⟩ := hw_23
      have hp_25 : (q_X11_sum su p1 (2 : Int32) r_22) := hp_25
      obtain ⟨hP, hD⟩ := ty_shPD (w2 := ([(rf_RW ct 0 mw 958 f), (rf_MO mo mw ma mf m0 m1 mu mv u0 u1 iz (0) mb mn mpt mbg mwr mwk mlf men), (mu, .inl (ct 1, 42, .inr (.inl su)))] ++ ws_24)) hP hD rfl
      have hs_28 : r_9 = r_22 := Eq.trans hp_12 (Eq.symm hp_25)
      refine lv_l2d hx hb dX11_energyEfficiency_34 ?_
      refine lv_ddiv hx hb dX11_energyEfficiency_35 (dq_quo (fun q => hc_15 (by rw [hs_28, q]; exact cm_lceq 0))) ?_
      obtain ⟨hP, hD⟩ := ty_ordPD (E2 := [(rf_MO mo mw ma mf m0 m1 mu mv u0 u1 iz (0) mb mn mpt mbg mwr mwk mlf men), (rf_RW ct 0 mw 958 f), (mu, .inl (ct 1, 42, .inr (.inl su)))]) (n := 3) [1, 0, 2] hP hD rfl rfl (by decide +kernel)
      exact W.dret (v := (FP.ddiv (FP.l2d r_16) (FP.l2d r_22))) hx hb hr (fun t ht hW => ⟨⟨(FP.ddiv (FP.l2d r_16) (FP.l2d r_22)), (ws_24, (0 : Int32)), rfl, ⟨hT, ⟨th1_4, trivial, (Or.inl ⟨hz_6, ⟨r_9, hp_12, (Or.inl ⟨hc_15, ⟨r_16, hp_19, ⟨r_22, hp_25, ⟨rfl, rfl⟩⟩⟩⟩)⟩⟩)⟩⟩, by rw [ht]; exact hP, by rw [hAe]; exact hD⟩, hS.F ht⟩) hS.2.2 dX11_energyEfficiency_36
    · refine lv_dconst0 hx hb dX11_energyEfficiency_19 ?_
      obtain ⟨hP, hD⟩ := ty_ordPD (E2 := [(rf_MO mo mw ma mf m0 m1 mu mv u0 u1 iz (0) mb mn mpt mbg mwr mwk mlf men), (rf_RW ct 0 mw 958 f), (mu, .inl (ct 1, 42, .inr (.inl su)))]) (n := 3) [1, 0, 2] hP hD rfl rfl (by decide +kernel)
      exact W.dret (v := 0) hx hb hr (fun t ht hW => ⟨⟨0, (ws_11, (0 : Int32)), rfl, ⟨hT, ⟨th1_4, trivial, (Or.inl ⟨hz_6, ⟨r_9, hp_12, (Or.inr ⟨hc_15, ⟨rfl, rfl⟩⟩)⟩⟩)⟩⟩, by rw [ht]; exact hP, by rw [hAe]; exact hD⟩, hS.F ht⟩) hS.2.2 dX11_energyEfficiency_20
  · have he_29 := hz_7.2
    have hP : va_P D vwCl ([(mu, .inl (ct 1, 42, .inr (.inl su))), (rf_MO mo mw ma mf m0 m1 mu mv u0 u1 iz (1) mb mn mpt mbg mwr mwk mlf men), (rf_RW ct 0 mw 958 f)] ++ ws_3) H := by rw [he_29] at hP; exact hP
    have hD : va_D A ([(mu, .inl (ct 1, 42, .inr (.inl su))), (rf_MO mo mw ma mf m0 m1 mu mv u0 u1 iz (1) mb mn mpt mbg mwr mwk mlf men), (rf_RW ct 0 mw 958 f)] ++ ws_3) := by rw [he_29] at hD; exact hD
    refine lv_if_ne (tgt := 19) hx hb dX11_energyEfficiency_5 (by decide) (fun _ => ?_) (fun hc => absurd hc (by decide))
    refine lv_dconst0 hx hb dX11_energyEfficiency_19 ?_
    obtain ⟨hP, hD⟩ := ty_ordPD (E2 := [(rf_MO mo mw ma mf m0 m1 mu mv u0 u1 iz (1) mb mn mpt mbg mwr mwk mlf men), (rf_RW ct 0 mw 958 f), (mu, .inl (ct 1, 42, .inr (.inl su)))]) (n := 3) [1, 2, 0] hP hD rfl rfl (by decide +kernel)
    exact W.dret (v := 0) hx hb hr (fun t ht hW => ⟨⟨0, (ws_3, (1 : Int32)), rfl, ⟨hT, ⟨th1_4, trivial, (Or.inr ⟨hz_7, ⟨rfl, rfl⟩⟩)⟩⟩, by rw [ht]; exact hP, by rw [hAe]; exact hD⟩, hS.F ht⟩) hS.2.2 dX11_energyEfficiency_20
