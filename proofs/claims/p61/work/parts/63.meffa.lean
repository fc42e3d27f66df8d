/-! a long that is read twice -/
def ty_lat (ws : va_W) (b : Nat) (i : Int32) (x : Int64) : Prop := ∃ (j : Nat) (cA : ClassId) (n : Nat) (f : Nat → Int64), ws[j]? = some (b, .inl (cA, n, .inr (.inl f))) ∧ x = f i.toNatClampNeg
theorem ty_latf {A : Nat → Prop} {E ws : va_W} {b : Nat} {i : Int32} {x y : Int64} (hD : va_D A (E ++ ws)) (h1 : ty_lat ws b i x) (h2 : ty_lat ws b i y) : x = y := by
  obtain ⟨j, cA, n, f, a1, a2⟩ := h1
  obtain ⟨j', cA', n', f', b1, b2⟩ := h2
  have e : E.length + j = E.length + j' := hD.1 _ _ _ _ (ty_app a1) (ty_app b1) rfl
  have e2 : j = j' := by omega
  subst e2
  rw [a1] at b1
  cases b1
  rw [a2, b2]
section TYF
variable {p : Program} {l : Launch} {e : Env} {R : Room} {s : State} {m : MethodId} {args : Array Value} {below : List Frame} {meth : Method} {c : Code} {H : Heap} {locs : List Loc} {cells slots : Nat} {Q : State → Prop}
variable {mc ms : Nat} {A : Nat → Prop} {H0 : Heap} {a : Array Value} {pc : Nat} {ls : Array Slot} {st0 rest : List Value} {D : va_G} {ct : Nat → ClassId} {ws wc wr E : va_W} {free : Addr → Prop} {S : ty_S} {b : Nat} {ph : va_W → Prop} {xx : Nat → Nat → Nat → Prop}
theorem ty_laldF {cc : ByteArray} (hexec : p.tables.exec = Jvm.exec) (hb : c.code = cc) (hK : va_K D vwCl (cT ct) s) (hP : va_P D vwCl (E ++ ws) H) (hT : ty_V ct S ph ws) {n : Nat} (ha : S b = some (.inr (1, n))) {i : Int32} (hin : vp_in i n) (hdg : decode cc pc = .ok (.laload, 1))
    (kk : ∀ x : Int64, ty_lat ws b i x → W p l e R s m args below meth c H locs cells slots Q (F0 m (pc + 1) ls (.long x :: rest))) : W p l e R s m args below meth c H locs cells slots Q (F0 m pc ls (.int i :: .ref b :: rest)) := by
  obtain ⟨j, e9, hj, hn, f, rfl⟩ := hT.1 b _ ha
  exact va_lald hexec hb hK hP (E.length + j) 1 (ty_app hj) rfl hin hdg (kk _ ⟨j, _, _, f, hj, rfl⟩)
end TYF
set_option maxRecDepth 100000 in
set_option maxHeartbeats 4000000 in
theorem m_sumF (l : Launch) (D : va_G) (ct : Nat → ClassId) (S : ty_S) (ws : va_W) (ph : va_W → Prop) (xx : Nat → Nat → Nat → Prop) (mo : Nat) (mw : Nat) (ma : Nat) (mf : Nat) (m0 : Nat) (m1 : Nat) (mu : Nat) (mv : Nat) (u0 : Nat) (u1 : Nat) (iz : Nat) (mb : Nat) (th : Int32) (mn : Int32) (mpt : Int32) (mbg : Int32) (mwr : Int32) (mwk : Int32) (mlf : Int32) (men : Int32) (p1 : Int32) (p2 : Int32) (sz : Nat) (hT : ty_V ct S ph ws) (h_mu : S mu = some (.inr (1, 42))) (h_mv : S mv = some (.inr (1, 42))) (h_u0 : S u0 = some (.inr (1, 42))) (h_u1 : S u1 = some (.inr (1, 42))) (hph : ty_C ph xx) (hy1 : ty_y1 xx) (hc6 : 0 ≤ p1.toInt ∧ p1.toInt < 6) (hk : 0 ≤ p2.toInt ∧ p2.toInt < 7) : Met l yX11_sum (ws_ yX11_sum cX11_sum 3 (some .long)) ({ frames := 0, cells := 0, slots := 0, locals := 0 } : Room) (va_Pc [.ref mo, .int p1, .int p2] (cmP D ct sz ([(rf_MO mo mw ma mf m0 m1 mu mv u0 u1 iz th mb mn mpt mbg mwr mwk mlf men)] ++ ws))) (va_Ql (fun (r : Int64) (u9 : va_W) => ty_V ct S ph u9 ∧ u9 = ws ∧ ty_lat ws mu ((7 * p1) + p2) r) (cmB D ([(rf_MO mo mw ma mf m0 m1 mu mv u0 u1 iz th mb mn mpt mbg mwr mwk mlf men)] ++ ws) sz (fun (u9 : va_W) => ([(rf_MO mo mw ma mf m0 m1 mu mv u0 u1 iz th mb mn mpt mbg mwr mwk mlf men)] ++ u9))) (va_A ([(rf_MO mo mw ma mf m0 m1 mu mv u0 u1 iz th mb mn mpt mbg mwr mwk mlf men)] ++ ws) sz)) 0 0 (va_A ([(rf_MO mo mw ma mf m0 m1 mu mv u0 u1 iz th mb mn mpt mbg mwr mwk mlf men)] ++ ws) sz) := by
  refine Met.ofW (cc := cX11_sum) (maxL := 3) (ret := (some .long)) (by decide) rfl ?_
  intro p e s m args below meth c s₁ B hml hv
  obtain ⟨rfl, hsz, hP, hK, hD0, hX⟩ := hv
  have hx := B.exec
  have hb := B.bytes
  have hr := B.returns
  have hts := ws_all (atoms_spec (ws := ws_ yX11_sum cX11_sum 3 (some .long)) B.pre)
  have hown : s.vm.findClass RX11 = some m.cls := findClass_of_methodNamed B.named
  have hlocks := B.notSynchronized
  subst hsz
  have hD := hD0.self (sz := s.heap.size)
  generalize hAe : va_A ([(rf_MO mo mw ma mf m0 m1 mu mv u0 u1 iz th mb mn mpt mbg mwr mwk mlf men)] ++ ws) s.heap.size = A at hD hX ⊢
  have hA : ∀ q : Nat, s.heap.size ≤ q → A q := fun q h => by rw [← hAe]; exact Or.inr h
  have hS : va_S A s.heap s.heap [] := va_S.rf
  have hl := lv_entry ([.ref mo, .int p1, .int p2]) (n := 3) (Nat.le_of_ble_eq_true rfl)
  rw [lg_entry_eq]
  generalize (lg_sl ([.ref mo, .int p1, .int p2]) ++ List.replicate (3 - (lg_sl ([.ref mo, .int p1, .int p2])).length) Slot.unset).toArray = ls at hl ⊢
  have hl : lv_has ls 3 [(0, .ref mo), (1, .int p1), (2, .int p2)] := hl
  refine lv_aload_n hx hb dX11_sum_0 rfl (lv_at hl 0 rfl) ?_
  refine va_get (v := .ref mu) (D := D) (ci := 11) (C := RX11) (T := TX11) (N := 19) hx hb hts in_X11 hown hK hP 0 rfl rfl 5 (by decide) (hts _ kl_RX11_25) (fun _ h9 => h9) rfl dX11_sum_1 ?_
  refine lv_bipush (v := 7) hx hb dX11_sum_4 (by decide) ?_
  refine lv_iload_n hx hb dX11_sum_6 rfl (lv_at hl 1 rfl) ?_
  refine lv_imul hx hb dX11_sum_7 ?_
  refine lv_iload_n hx hb dX11_sum_8 rfl (lv_at hl 2 rfl) ?_
  refine lv_iadd hx hb dX11_sum_9 ?_
  refine ty_laldF (E := [(rf_MO mo mw ma mf m0 m1 mu mv u0 u1 iz th mb mn mpt mbg mwr mwk mlf men)]) (ws := ws) hx hb hK hP hT h_mu (rf_uix hc6 hk) dX11_sum_10 (fun x_1 hx_2 => ?_)
  exact W.lret (v := x_1) hx hb hr (fun t ht hW => ⟨⟨x_1, ws, rfl, ⟨hT, ⟨rfl, hx_2⟩⟩, by rw [ht]; exact hP, by rw [hAe]; exact hD⟩, hS.F ht⟩) hS.2.2 dX11_sum_11
theorem dX11_chargeEfficiency_0 : decode cX11_chargeEfficiency 0 = .ok (.aload_n 0, 1) := by decide +kernel
theorem dX11_chargeEfficiency_1 : decode cX11_chargeEfficiency 1 = .ok (.iload_n 1, 1) := by decide +kernel
theorem dX11_chargeEfficiency_2 : decode cX11_chargeEfficiency 2 = .ok (.invokevirtual 344, 3) := by decide +kernel
theorem dX11_chargeEfficiency_5 : decode cX11_chargeEfficiency 5 = .ok (.ifCond .ne 14, 3) := by decide +kernel
theorem dX11_chargeEfficiency_8 : decode cX11_chargeEfficiency 8 = .ok (.aload_n 0, 1) := by decide +kernel
theorem dX11_chargeEfficiency_9 : decode cX11_chargeEfficiency 9 = .ok (.iload_n 1, 1) := by decide +kernel
theorem dX11_chargeEfficiency_10 : decode cX11_chargeEfficiency 10 = .ok (.iconst 0, 1) := by decide +kernel
theorem dX11_chargeEfficiency_11 : decode cX11_chargeEfficiency 11 = .ok (.invokevirtual 261, 3) := by decide +kernel
theorem dX11_chargeEfficiency_14 : decode cX11_chargeEfficiency 14 = .ok (.lconst 0, 1) := by decide +kernel
theorem dX11_chargeEfficiency_15 : decode cX11_chargeEfficiency 15 = .ok (.lcmp, 1) := by decide +kernel
theorem dX11_chargeEfficiency_16 : decode cX11_chargeEfficiency 16 = .ok (.ifCond .ne 5, 3) := by decide +kernel
theorem dX11_chargeEfficiency_19 : decode cX11_chargeEfficiency 19 = .ok (.fconst 0, 1) := by decide +kernel
theorem dX11_chargeEfficiency_20 : decode cX11_chargeEfficiency 20 = .ok (.freturn, 1) := by decide +kernel
theorem dX11_chargeEfficiency_21 : decode cX11_chargeEfficiency 21 = .ok (.aload_n 0, 1) := by decide +kernel
theorem dX11_chargeEfficiency_22 : decode cX11_chargeEfficiency 22 = .ok (.iload_n 1, 1) := by decide +kernel
theorem dX11_chargeEfficiency_23 : decode cX11_chargeEfficiency 23 = .ok (.iconst 1, 1) := by decide +kernel
theorem dX11_chargeEfficiency_24 : decode cX11_chargeEfficiency 24 = .ok (.invokevirtual 261, 3) := by decide +kernel
theorem dX11_chargeEfficiency_27 : decode cX11_chargeEfficiency 27 = .ok (.l2f, 1) := by decide +kernel
theorem dX11_chargeEfficiency_28 : decode cX11_chargeEfficiency 28 = .ok (.aload_n 0, 1) := by decide +kernel
theorem dX11_chargeEfficiency_29 : decode cX11_chargeEfficiency 29 = .ok (.iload_n 1, 1) := by decide +kernel
theorem dX11_chargeEfficiency_30 : decode cX11_chargeEfficiency 30 = .ok (.iconst 0, 1) := by decide +kernel
theorem dX11_chargeEfficiency_31 : decode cX11_chargeEfficiency 31 = .ok (.invokevirtual 261, 3) := by decide +kernel
theorem dX11_chargeEfficiency_34 : decode cX11_chargeEfficiency 34 = .ok (.l2f, 1) := by decide +kernel
theorem dX11_chargeEfficiency_35 : decode cX11_chargeEfficiency 35 = .ok (.fdiv, 1) := by decide +kernel
theorem dX11_chargeEfficiency_36 : decode cX11_chargeEfficiency 36 = .ok (.freturn, 1) := by decide +kernel
set_option maxRecDepth 100000 in
set_option maxHeartbeats 4000000 in
theorem m_X11_chargeEfficiency (l : Launch) (D : va_G) (ct : Nat → ClassId) (S : ty_S) (ws : va_W) (ph : va_W → Prop) (xx : Nat → Nat → Nat → Prop) (mo : Nat) (mw : Nat) (ma : Nat) (mf : Nat) (m0 : Nat) (m1 : Nat) (mu : Nat) (mv : Nat) (u0 : Nat) (u1 : Nat) (iz : Nat) (mb : Nat) (th : Int32) (mn : Int32) (mpt : Int32) (mbg : Int32) (mwr : Int32) (mwk : Int32) (mlf : Int32) (men : Int32) (f : Nat → Int32) (G : Nat → Int32) (cx : Int) (p1 : Int32) (sz : Nat) (hT : ty_V ct S ph ws) (h_mu : S mu = some (.inr (1, 42))) (h_mv : S mv = some (.inr (1, 42))) (h_u0 : S u0 = some (.inr (1, 42))) (h_u1 : S u1 = some (.inr (1, 42))) (hph : ty_C ph xx) (hy1 : ty_y1 xx) (hR : rf_R G cx f) : Met l yX11_chargeEfficiency (ws_ yX11_chargeEfficiency cX11_chargeEfficiency 2 (some .float)) ({ frames := 2, cells := 0, slots := 0, locals := 46 } : Room) (va_Pc [.ref mo, .int p1] (cmP D ct sz ([(rf_MO mo mw ma mf m0 m1 mu mv u0 u1 iz th mb mn mpt mbg mwr mwk mlf men), (rf_RW ct 0 mw 958 f)] ++ ws))) (va_Qf (fun (r : UInt32) (u : va_W × Int32) => match u with | (u9, th1) => ty_V ct S ph u9) (cmB D ([(rf_MO mo mw ma mf m0 m1 mu mv u0 u1 iz th mb mn mpt mbg mwr mwk mlf men), (rf_RW ct 0 mw 958 f)] ++ ws) sz (fun (u : va_W × Int32) => match u with | (u9, th1) => ([(rf_MO mo mw ma mf m0 m1 mu mv u0 u1 iz th1 mb mn mpt mbg mwr mwk mlf men), (rf_RW ct 0 mw 958 f)] ++ u9))) (va_A ([(rf_MO mo mw ma mf m0 m1 mu mv u0 u1 iz th mb mn mpt mbg mwr mwk mlf men), (rf_RW ct 0 mw 958 f)] ++ ws) sz)) 0 0 (va_A ([(rf_MO mo mw ma mf m0 m1 mu mv u0 u1 iz th mb mn mpt mbg mwr mwk mlf men), (rf_RW ct 0 mw 958 f)] ++ ws) sz) := by
  refine Met.ofW (cc := cX11_chargeEfficiency) (maxL := 2) (ret := (some .float)) (by decide) rfl ?_
  intro p e s m args below meth c s₁ B hml hv
  obtain ⟨rfl, hsz, hP, hK, hD0, hX⟩ := hv
  have hx := B.exec
  have hb := B.bytes
  have hr := B.returns
  have hts := ws_all (atoms_spec (ws := ws_ yX11_chargeEfficiency cX11_chargeEfficiency 2 (some .float)) B.pre)
  have hown : s.vm.findClass RX11 = some m.cls := findClass_of_methodNamed B.named
  have hlocks := B.notSynchronized
  subst hsz
  have hD := hD0.self (sz := s.heap.size)
  generalize hAe : va_A ([(rf_MO mo mw ma mf m0 m1 mu mv u0 u1 iz th mb mn mpt mbg mwr mwk mlf men), (rf_RW ct 0 mw 958 f)] ++ ws) s.heap.size = A at hD hX ⊢
  have hA : ∀ q : Nat, s.heap.size ≤ q → A q := fun q h => by rw [← hAe]; exact Or.inr h
  have hS : va_S A s.heap s.heap [] := va_S.rf
  have hl := lv_entry ([.ref mo, .int p1]) (n := 2) (Nat.le_of_ble_eq_true rfl)
  rw [lg_entry_eq]
  generalize (lg_sl ([.ref mo, .int p1]) ++ List.replicate (2 - (lg_sl ([.ref mo, .int p1])).length) Slot.unset).toArray = ls at hl ⊢
  have hl : lv_has ls 2 [(0, .ref mo), (1, .int p1)] := hl
  refine lv_aload_n hx hb dX11_chargeEfficiency_0 rfl (lv_at hl 0 rfl) ?_
  refine lv_iload_n hx hb dX11_chargeEfficiency_1 rfl (lv_at hl 1 rfl) ?_
  refine ty_ki (wr := []) (wc := ([(rf_MO mo mw ma mf m0 m1 mu mv u0 u1 iz th mb mn mpt mbg mwr mwk mlf men), (rf_RW ct 0 mw 958 f)] ++ ws)) (va_runV (As := [.int p1]) (rest := []) ⟨hx, hb, hml, hown, hts⟩ (m_X11_noChannel l D ct S ws ph xx mo mw ma mf m0 m1 mu mv u0 u1 iz mb th mn mpt mbg mwr mwk mlf men f G cx p1 _ hT h_mu h_mv h_u0 h_u1 hph hy1 hR) (cm_V 1 hts kc_X11_noChannel ki_RX11 kl_RX11_344 kv_X11_noChannel kx_X11_noChannel kd_X11_noChannel ⟨Nat.le_of_ble_eq_true rfl, Nat.le_of_ble_eq_true rfl⟩) (ty_preE (wr := []) (wc := ([(rf_MO mo mw ma mf m0 m1 mu mv u0 u1 iz th mb mn mpt mbg mwr mwk mlf men), (rf_RW ct 0 mw 958 f)] ++ ws)) (ci := 11) (q0 := 0) hP hK hD hS hA hX rfl rfl) rfl rfl hl.1 rfl (lv_room (Nat.le_of_ble_eq_true rfl)) dX11_chargeEfficiency_2 ⟨Nat.le_of_ble_eq_true rfl, Nat.le_of_ble_eq_true rfl⟩) hP hD hS hA (fun r_1 u H locs hw_2 hP hD hS => ?_)
  obtain ⟨ws_3, th1_4⟩ := u
  obtain ⟨hT, hp_5⟩ := hw_2
  have hp_5 : ((r_1 = 0 ∧ 0 ≤ p1.toInt ∧ p1.toInt < (G 9).toInt) ∨ r_1 = 1) := hp_5
  have hP : va_P D vwCl ([(rf_MO mo mw ma mf m0 m1 mu mv u0 u1 iz th1_4 mb mn mpt mbg mwr mwk mlf men), (rf_RW ct 0 mw 958 f)] ++ ws_3) H := hP
  have hD : va_D A ([(rf_MO mo mw ma mf m0 m1 mu mv u0 u1 iz th1_4 mb mn mpt mbg mwr mwk mlf men), (rf_RW ct 0 mw 958 f)] ++ ws_3) := hD
  rcases hp_5 with ⟨rfl, hz_6⟩ | rfl
  · refine lv_if_ne (tgt := 19) hx hb dX11_chargeEfficiency_5 (by decide) (fun hc => absurd (by decide) hc) (fun _ => ?_)
    refine lv_aload_n hx hb dX11_chargeEfficiency_8 rfl (lv_at hl 0 rfl) ?_
    refine lv_iload_n hx hb dX11_chargeEfficiency_9 rfl (lv_at hl 1 rfl) ?_
    refine lv_iconst (v := 0) hx hb dX11_chargeEfficiency_10 (by decide) ?_
    have hP : va_P D vwCl ([(rf_RW ct 0 mw 958 f), (rf_MO mo mw ma mf m0 m1 mu mv u0 u1 iz th1_4 mb mn mpt mbg mwr mwk mlf men)] ++ ws_3) H := ty_permP hP (ty_ordp (E := [(rf_MO mo mw ma mf m0 m1 mu mv u0 u1 iz th1_4 mb mn mpt mbg mwr mwk mlf men), (rf_RW ct 0 mw 958 f)]) (E2 := [(rf_RW ct 0 mw 958 f), (rf_MO mo mw ma mf m0 m1 mu mv u0 u1 iz th1_4 mb mn mpt mbg mwr mwk mlf men)]) (n := 2) [1, 0] rfl rfl (by decide))
    have hD : va_D A ([(rf_RW ct 0 mw 958 f), (rf_MO mo mw ma mf m0 m1 mu mv u0 u1 iz th1_4 mb mn mpt mbg mwr mwk mlf men)] ++ ws_3) := ty_permD hD (ty_ordp (E := [(rf_MO mo mw ma mf m0 m1 mu mv u0 u1 iz th1_4 mb mn mpt mbg mwr mwk mlf men), (rf_RW ct 0 mw 958 f)]) (E2 := [(rf_RW ct 0 mw 958 f), (rf_MO mo mw ma mf m0 m1 mu mv u0 u1 iz th1_4 mb mn mpt mbg mwr mwk mlf men)]) (n := 2) [1, 0] rfl rfl (by decide))
    refine ty_kl (wr := [(rf_RW ct 0 mw 958 f)]) (wc := ([(rf_MO mo mw ma mf m0 m1 mu mv u0 u1 iz th1_4 mb mn mpt mbg mwr mwk mlf men)] ++ ws_3)) (va_runV (As := [.int p1, .int 0]) (rest := []) ⟨hx, hb, hml, hown, hts⟩ (m_sumF l D ct S ws_3 ph xx mo mw ma mf m0 m1 mu mv u0 u1 iz mb th1_4 mn mpt mbg mwr mwk mlf men p1 (0 : Int32) _ hT h_mu h_mv h_u0 h_u1 hph hy1 (rf_c6 hR hz_6) (by decide)) (cm_V 2 hts kc_X11_sum ki_RX11 kl_RX11_261 kv_X11_sum kx_X11_sum kd_X11_sum ⟨Nat.le_of_ble_eq_true rfl, Nat.le_of_ble_eq_true rfl⟩) (ty_preE (wr := [(rf_RW ct 0 mw 958 f)]) (wc := ([(rf_MO mo mw ma mf m0 m1 mu mv u0 u1 iz th1_4 mb mn mpt mbg mwr mwk mlf men)] ++ ws_3)) (ci := 11) (q0 := 1) hP hK hD hS hA hX rfl rfl) rfl rfl hl.1 rfl (lv_room (Nat.le_of_ble_eq_true rfl)) dX11_chargeEfficiency_11 ⟨Nat.le_of_ble_eq_true rfl, Nat.le_of_ble_eq_true rfl⟩) hP hD hS hA (fun r_7 u H locs hw_8 hP hD hS => ?_)
    obtain ⟨ws_9, rfl⟩ : ∃ z, z = u := ⟨_, rfl⟩
    obtain ⟨hT, hp_10⟩ := hw_8
    have hp_10 : ws_9 = ws_3 ∧ ty_lat ws_3 mu ((7 * p1) + (0 : Int32)) r_7 := hp_10
    have hP : va_P D vwCl ([(rf_RW ct 0 mw 958 f), (rf_MO mo mw ma mf m0 m1 mu mv u0 u1 iz th1_4 mb mn mpt mbg mwr mwk mlf men)] ++ ws_9) H := hP
    have hD : va_D A ([(rf_RW ct 0 mw 958 f), (rf_MO mo mw ma mf m0 m1 mu mv u0 u1 iz th1_4 mb mn mpt mbg mwr mwk mlf men)] ++ ws_9) := hD
    refine lv_lconst (v := 0) hx hb dX11_chargeEfficiency_14 (by decide) ?_
    refine W.lcmp hx hb dX11_chargeEfficiency_15 ?_
    refine lv_if_ne (tgt := 21) hx hb dX11_chargeEfficiency_16 (by decide) (fun hc_11 => ?_) (fun hc_11 => ?_)
    · refine lv_aload_n hx hb dX11_chargeEfficiency_21 rfl (lv_at hl 0 rfl) ?_
      refine lv_iload_n hx hb dX11_chargeEfficiency_22 rfl (lv_at hl 1 rfl) ?_
      refine lv_iconst (v := 1) hx hb dX11_chargeEfficiency_23 (by decide) ?_
      refine ty_kl (wr := [(rf_RW ct 0 mw 958 f)]) (wc := ([(rf_MO mo mw ma mf m0 m1 mu mv u0 u1 iz th1_4 mb mn mpt mbg mwr mwk mlf men)] ++ ws_9)) (va_runV (As := [.int p1, .int 1]) (rest := []) ⟨hx, hb, hml, hown, hts⟩ (m_sumF l D ct S ws_9 ph xx mo mw ma mf m0 m1 mu mv u0 u1 iz mb th1_4 mn mpt mbg mwr mwk mlf men p1 (1 : Int32) _ hT h_mu h_mv h_u0 h_u1 hph hy1 (rf_c6 hR hz_6) (by decide)) (cm_V 2 hts kc_X11_sum ki_RX11 kl_RX11_261 kv_X11_sum kx_X11_sum kd_X11_sum ⟨Nat.le_of_ble_eq_true rfl, Nat.le_of_ble_eq_true rfl⟩) (ty_preE (wr := [(rf_RW ct 0 mw 958 f)]) (wc := ([(rf_MO mo mw ma mf m0 m1 mu mv u0 u1 iz th1_4 mb mn mpt mbg mwr mwk mlf men)] ++ ws_9)) (ci := 11) (q0 := 1) hP hK hD hS hA hX rfl rfl) rfl rfl hl.1 rfl (lv_room (Nat.le_of_ble_eq_true rfl)) dX11_chargeEfficiency_24 ⟨Nat.le_of_ble_eq_true rfl, Nat.le_of_ble_eq_true rfl⟩) hP hD hS hA (fun r_12 u H locs hw_13 hP hD hS => ?_)
      obtain ⟨ws_14, rfl⟩ : ∃ z, z = u := ⟨_, rfl⟩
      obtain ⟨hT, hp_15⟩ := hw_13
      have hp_15 : ws_14 = ws_9 ∧ ty_lat ws_9 mu ((7 * p1) + (1 : Int32)) r_12 := hp_15
      have hP : va_P D vwCl ([(rf_RW ct 0 mw 958 f), (rf_MO mo mw ma mf m0 m1 mu mv u0 u1 iz th1_4 mb mn mpt mbg mwr mwk mlf men)] ++ ws_14) H := hP
      have hD : va_D A ([(rf_RW ct 0 mw 958 f), (rf_MO mo mw ma mf m0 m1 mu mv u0 u1 iz th1_4 mb mn mpt mbg mwr mwk mlf men)] ++ ws_14) := hD
      refine lv_l2f hx hb dX11_chargeEfficiency_27 ?_
      refine lv_aload_n hx hb dX11_chargeEfficiency_28 rfl (lv_at hl 0 rfl) ?_
      refine lv_iload_n hx hb dX11_chargeEfficiency_29 rfl (lv_at hl 1 rfl) ?_
      refine lv_iconst (v := 0) hx hb dX11_chargeEfficiency_30 (by decide) ?_
      refine ty_kl (wr := [(rf_RW ct 0 mw 958 f)]) (wc := ([(rf_MO mo mw ma mf m0 m1 mu mv u0 u1 iz th1_4 mb mn mpt mbg mwr mwk mlf men)] ++ ws_14)) (va_runV (As := [.int p1, .int 0]) (rest := [.float (FP.l2f r_12)]) ⟨hx, hb, hml, hown, hts⟩ (m_sumF l D ct S ws_14 ph xx mo mw ma mf m0 m1 mu mv u0 u1 iz mb th1_4 mn mpt mbg mwr mwk mlf men p1 (0 : Int32) _ hT h_mu h_mv h_u0 h_u1 hph hy1 (rf_c6 hR hz_6) (by decide)) (cm_V 2 hts kc_X11_sum ki_RX11 kl_RX11_261 kv_X11_sum kx_X11_sum kd_X11_sum ⟨Nat.le_of_ble_eq_true rfl, Nat.le_of_ble_eq_true rfl⟩) (ty_preE (wr := [(rf_RW ct 0 mw 958 f)]) (wc := ([(rf_MO mo mw ma mf m0 m1 mu mv u0 u1 iz th1_4 mb mn mpt mbg mwr mwk mlf men)] ++ ws_14)) (ci := 11) (q0 := 1) hP hK hD hS hA hX rfl rfl) rfl rfl hl.1 rfl (lv_room (Nat.le_of_ble_eq_true rfl)) dX11_chargeEfficiency_31 ⟨Nat.le_of_ble_eq_true rfl, Nat.le_of_ble_eq_true rfl⟩) hP hD hS hA (fun r_16 u H locs hw_17 hP hD hS => ?_)
      obtain ⟨ws_18, rfl⟩ : ∃ z, z = u := ⟨_, rfl⟩
      obtain ⟨hT, hp_19⟩ := hw_17
      have hp_19 : ws_18 = ws_14 ∧ ty_lat ws_14 mu ((7 * p1) + (0 : Int32)) r_16 := hp_19
      have hP : va_P D vwCl ([(rf_RW ct 0 mw 958 f), (rf_MO mo mw ma mf m0 m1 mu mv u0 u1 iz th1_4 mb mn mpt mbg mwr mwk mlf men)] ++ ws_18) H := hP
      have hD : va_D A ([(rf_RW ct 0 mw 958 f), (rf_MO mo mw ma mf m0 m1 mu mv u0 u1 iz th1_4 mb mn mpt mbg mwr mwk mlf men)] ++ ws_18) := hD
      have hs_20 : ty_lat ws_18 mu ((7 * p1) + 0) r_7 := by rw [hp_19.1, hp_15.1, hp_10.1]; exact hp_10.2
      have hs_21 : ty_lat ws_18 mu ((7 * p1) + 0) r_16 := by rw [hp_19.1]; exact hp_19.2
      have hs_22 : r_7 = r_16 := ty_latf hD hs_20 hs_21
      refine lv_l2f hx hb dX11_chargeEfficiency_34 ?_
      refine lv_fdiv hx hb dX11_chargeEfficiency_35 (fq_quo (fun q => hc_11 (by rw [hs_22, q]; exact cm_lceq 0))) ?_
      have hP : va_P D vwCl ([(rf_MO mo mw ma mf m0 m1 mu mv u0 u1 iz th1_4 mb mn mpt mbg mwr mwk mlf men), (rf_RW ct 0 mw 958 f)] ++ ws_18) H := ty_permP hP (ty_ordp (E := [(rf_RW ct 0 mw 958 f), (rf_MO mo mw ma mf m0 m1 mu mv u0 u1 iz th1_4 mb mn mpt mbg mwr mwk mlf men)]) (E2 := [(rf_MO mo mw ma mf m0 m1 mu mv u0 u1 iz th1_4 mb mn mpt mbg mwr mwk mlf men), (rf_RW ct 0 mw 958 f)]) (n := 2) [1, 0] rfl rfl (by decide))
      have hD : va_D A ([(rf_MO mo mw ma mf m0 m1 mu mv u0 u1 iz th1_4 mb mn mpt mbg mwr mwk mlf men), (rf_RW ct 0 mw 958 f)] ++ ws_18) := ty_permD hD (ty_ordp (E := [(rf_RW ct 0 mw 958 f), (rf_MO mo mw ma mf m0 m1 mu mv u0 u1 iz th1_4 mb mn mpt mbg mwr mwk mlf men)]) (E2 := [(rf_MO mo mw ma mf m0 m1 mu mv u0 u1 iz th1_4 mb mn mpt mbg mwr mwk mlf men), (rf_RW ct 0 mw 958 f)]) (n := 2) [1, 0] rfl rfl (by decide))
      exact W.fret (v := (FP.fdiv (FP.l2f r_12) (FP.l2f r_16))) hx hb hr (fun t ht hW => ⟨⟨(FP.fdiv (FP.l2f r_12) (FP.l2f r_16)), (ws_18, th1_4), rfl, hT, by rw [ht]; exact hP, by rw [hAe]; exact hD⟩, hS.F ht⟩) hS.2.2 dX11_chargeEfficiency_36
    · refine lv_fconst0 hx hb dX11_chargeEfficiency_19 ?_
      have hP : va_P D vwCl ([(rf_MO mo mw ma mf m0 m1 mu mv u0 u1 iz th1_4 mb mn mpt mbg mwr mwk mlf men), (rf_RW ct 0 mw 958 f)] ++ ws_9) H := ty_permP hP (ty_ordp (E := [(rf_RW ct 0 mw 958 f), (rf_MO mo mw ma mf m0 m1 mu mv u0 u1 iz th1_4 mb mn mpt mbg mwr mwk mlf men)]) (E2 := [(rf_MO mo mw ma mf m0 m1 mu mv u0 u1 iz th1_4 mb mn mpt mbg mwr mwk mlf men), (rf_RW ct 0 mw 958 f)]) (n := 2) [1, 0] rfl rfl (by decide))
      have hD : va_D A ([(rf_MO mo mw ma mf m0 m1 mu mv u0 u1 iz th1_4 mb mn mpt mbg mwr mwk mlf men), (rf_RW ct 0 mw 958 f)] ++ ws_9) := ty_permD hD (ty_ordp (E := [(rf_RW ct 0 mw 958 f), (rf_MO mo mw ma mf m0 m1 mu mv u0 u1 iz th1_4 mb mn mpt mbg mwr mwk mlf men)]) (E2 := [(rf_MO mo mw ma mf m0 m1 mu mv u0 u1 iz th1_4 mb mn mpt mbg mwr mwk mlf men), (rf_RW ct 0 mw 958 f)]) (n := 2) [1, 0] rfl rfl (by decide))
      exact W.fret (v := 0) hx hb hr (fun t ht hW => ⟨⟨0, (ws_9, th1_4), rfl, hT, by rw [ht]; exact hP, by rw [hAe]; exact hD⟩, hS.F ht⟩) hS.2.2 dX11_chargeEfficiency_20
  · refine lv_if_ne (tgt := 19) hx hb dX11_chargeEfficiency_5 (by decide) (fun _ => ?_) (fun hc => absurd hc (by decide))
    refine lv_fconst0 hx hb dX11_chargeEfficiency_19 ?_
    exact W.fret (v := 0) hx hb hr (fun t ht hW => ⟨⟨0, (ws_3, th1_4), rfl, hT, by rw [ht]; exact hP, by rw [hAe]; exact hD⟩, hS.F ht⟩) hS.2.2 dX11_chargeEfficiency_20
theorem dX11_energyEfficiency_0 : decode cX11_energyEfficiency 0 = .ok (.aload_n 0, 1) := by decide +kernel
theorem dX11_energyEfficiency_1 : decode cX11_energyEfficiency 1 = .ok (.iload_n 1, 1) := by decide +kernel
theorem dX11_energyEfficiency_2 : decode cX11_energyEfficiency 2 = .ok (.invokevirtual 344, 3) := by decide +kernel
theorem dX11_energyEfficiency_5 : decode cX11_energyEfficiency 5 = .ok (.ifCond .ne 14, 3) := by decide +kernel
theorem dX11_energyEfficiency_8 : decode cX11_energyEfficiency 8 = .ok (.aload_n 0, 1) := by decide +kernel
theorem dX11_energyEfficiency_9 : decode cX11_energyEfficiency 9 = .ok (.iload_n 1, 1) := by decide +kernel
theorem dX11_energyEfficiency_10 : decode cX11_energyEfficiency 10 = .ok (.iconst 2, 1) := by decide +kernel
theorem dX11_energyEfficiency_11 : decode cX11_energyEfficiency 11 = .ok (.invokevirtual 261, 3) := by decide +kernel
theorem dX11_energyEfficiency_14 : decode cX11_energyEfficiency 14 = .ok (.lconst 0, 1) := by decide +kernel
theorem dX11_energyEfficiency_15 : decode cX11_energyEfficiency 15 = .ok (.lcmp, 1) := by decide +kernel
theorem dX11_energyEfficiency_16 : decode cX11_energyEfficiency 16 = .ok (.ifCond .ne 5, 3) := by decide +kernel
theorem dX11_energyEfficiency_19 : decode cX11_energyEfficiency 19 = .ok (.dconst 0, 1) := by decide +kernel
theorem dX11_energyEfficiency_20 : decode cX11_energyEfficiency 20 = .ok (.dreturn, 1) := by decide +kernel
theorem dX11_energyEfficiency_21 : decode cX11_energyEfficiency 21 = .ok (.aload_n 0, 1) := by decide +kernel
theorem dX11_energyEfficiency_22 : decode cX11_energyEfficiency 22 = .ok (.iload_n 1, 1) := by decide +kernel
theorem dX11_energyEfficiency_23 : decode cX11_energyEfficiency 23 = .ok (.iconst 3, 1) := by decide +kernel
theorem dX11_energyEfficiency_24 : decode cX11_energyEfficiency 24 = .ok (.invokevirtual 261, 3) := by decide +kernel
theorem dX11_energyEfficiency_27 : decode cX11_energyEfficiency 27 = .ok (.l2d, 1) := by decide +kernel
theorem dX11_energyEfficiency_28 : decode cX11_energyEfficiency 28 = .ok (.aload_n 0, 1) := by decide +kernel
theorem dX11_energyEfficiency_29 : decode cX11_energyEfficiency 29 = .ok (.iload_n 1, 1) := by decide +kernel
theorem dX11_energyEfficiency_30 : decode cX11_energyEfficiency 30 = .ok (.iconst 2, 1) := by decide +kernel
theorem dX11_energyEfficiency_31 : decode cX11_energyEfficiency 31 = .ok (.invokevirtual 261, 3) := by decide +kernel
theorem dX11_energyEfficiency_34 : decode cX11_energyEfficiency 34 = .ok (.l2d, 1) := by decide +kernel
theorem dX11_energyEfficiency_35 : decode cX11_energyEfficiency 35 = .ok (.ddiv, 1) := by decide +kernel
theorem dX11_energyEfficiency_36 : decode cX11_energyEfficiency 36 = .ok (.dreturn, 1) := by decide +kernel
set_option maxRecDepth 100000 in
set_option maxHeartbeats 4000000 in
theorem m_X11_energyEfficiency (l : Launch) (D : va_G) (ct : Nat → ClassId) (S : ty_S) (ws : va_W) (ph : va_W → Prop) (xx : Nat → Nat → Nat → Prop) (mo : Nat) (mw : Nat) (ma : Nat) (mf : Nat) (m0 : Nat) (m1 : Nat) (mu : Nat) (mv : Nat) (u0 : Nat) (u1 : Nat) (iz : Nat) (mb : Nat) (th : Int32) (mn : Int32) (mpt : Int32) (mbg : Int32) (mwr : Int32) (mwk : Int32) (mlf : Int32) (men : Int32) (f : Nat → Int32) (G : Nat → Int32) (cx : Int) (p1 : Int32) (sz : Nat) (hT : ty_V ct S ph ws) (h_mu : S mu = some (.inr (1, 42))) (h_mv : S mv = some (.inr (1, 42))) (h_u0 : S u0 = some (.inr (1, 42))) (h_u1 : S u1 = some (.inr (1, 42))) (hph : ty_C ph xx) (hy1 : ty_y1 xx) (hR : rf_R G cx f) : Met l yX11_energyEfficiency (ws_ yX11_energyEfficiency cX11_energyEfficiency 2 (some .double)) ({ frames := 2, cells := 0, slots := 0, locals := 46 } : Room) (va_Pc [.ref mo, .int p1] (cmP D ct sz ([(rf_MO mo mw ma mf m0 m1 mu mv u0 u1 iz th mb mn mpt mbg mwr mwk mlf men), (rf_RW ct 0 mw 958 f)] ++ ws))) (va_Qd (fun (r : UInt64) (u : va_W × Int32) => match u with | (u9, th1) => ty_V ct S ph u9) (cmB D ([(rf_MO mo mw ma mf m0 m1 mu mv u0 u1 iz th mb mn mpt mbg mwr mwk mlf men), (rf_RW ct 0 mw 958 f)] ++ ws) sz (fun (u : va_W × Int32) => match u with | (u9, th1) => ([(rf_MO mo mw ma mf m0 m1 mu mv u0 u1 iz th1 mb mn mpt mbg mwr mwk mlf men), (rf_RW ct 0 mw 958 f)] ++ u9))) (va_A ([(rf_MO mo mw ma mf m0 m1 mu mv u0 u1 iz th mb mn mpt mbg mwr mwk mlf men), (rf_RW ct 0 mw 958 f)] ++ ws) sz)) 0 0 (va_A ([(rf_MO mo mw ma mf m0 m1 mu mv u0 u1 iz th mb mn mpt mbg mwr mwk mlf men), (rf_RW ct 0 mw 958 f)] ++ ws) sz) := by
  refine Met.ofW (cc := cX11_energyEfficiency) (maxL := 2) (ret := (some .double)) (by decide) rfl ?_
  intro p e s m args below meth c s₁ B hml hv
  obtain ⟨rfl, hsz, hP, hK, hD0, hX⟩ := hv
  have hx := B.exec
  have hb := B.bytes
  have hr := B.returns
  have hts := ws_all (atoms_spec (ws := ws_ yX11_energyEfficiency cX11_energyEfficiency 2 (some .double)) B.pre)
  have hown : s.vm.findClass RX11 = some m.cls := findClass_of_methodNamed B.named
  have hlocks := B.notSynchronized
  subst hsz
  have hD := hD0.self (sz := s.heap.size)
  generalize hAe : va_A ([(rf_MO mo mw ma mf m0 m1 mu mv u0 u1 iz th mb mn mpt mbg mwr mwk mlf men), (rf_RW ct 0 mw 958 f)] ++ ws) s.heap.size = A at hD hX ⊢
  have hA : ∀ q : Nat, s.heap.size ≤ q → A q := fun q h => by rw [← hAe]; exact Or.inr h
  have hS : va_S A s.heap s.heap [] := va_S.rf
  have hl := lv_entry ([.ref mo, .int p1]) (n := 2) (Nat.le_of_ble_eq_true rfl)
  rw [lg_entry_eq]
  generalize (lg_sl ([.ref mo, .int p1]) ++ List.replicate (2 - (lg_sl ([.ref mo, .int p1])).length) Slot.unset).toArray = ls at hl ⊢
  have hl : lv_has ls 2 [(0, .ref mo), (1, .int p1)] := hl
  refine lv_aload_n hx hb dX11_energyEfficiency_0 rfl (lv_at hl 0 rfl) ?_
  refine lv_iload_n hx hb dX11_energyEfficiency_1 rfl (lv_at hl 1 rfl) ?_
  refine ty_ki (wr := []) (wc := ([(rf_MO mo mw ma mf m0 m1 mu mv u0 u1 iz th mb mn mpt mbg mwr mwk mlf men), (rf_RW ct 0 mw 958 f)] ++ ws)) (va_runV (As := [.int p1]) (rest := []) ⟨hx, hb, hml, hown, hts⟩ (m_X11_noChannel l D ct S ws ph xx mo mw ma mf m0 m1 mu mv u0 u1 iz mb th mn mpt mbg mwr mwk mlf men f G cx p1 _ hT h_mu h_mv h_u0 h_u1 hph hy1 hR) (cm_V 1 hts kc_X11_noChannel ki_RX11 kl_RX11_344 kv_X11_noChannel kx_X11_noChannel kd_X11_noChannel ⟨Nat.le_of_ble_eq_true rfl, Nat.le_of_ble_eq_true rfl⟩) (ty_preE (wr := []) (wc := ([(rf_MO mo mw ma mf m0 m1 mu mv u0 u1 iz th mb mn mpt mbg mwr mwk mlf men), (rf_RW ct 0 mw 958 f)] ++ ws)) (ci := 11) (q0 := 0) hP hK hD hS hA hX rfl rfl) rfl rfl hl.1 rfl (lv_room (Nat.le_of_ble_eq_true rfl)) dX11_energyEfficiency_2 ⟨Nat.le_of_ble_eq_true rfl, Nat.le_of_ble_eq_true rfl⟩) hP hD hS hA (fun r_1 u H locs hw_2 hP hD hS => ?_)
  obtain ⟨ws_3, th1_4⟩ := u
  obtain ⟨hT, hp_5⟩ := hw_2
  have hp_5 : ((r_1 = 0 ∧ 0 ≤ p1.toInt ∧ p1.toInt < (G 9).toInt) ∨ r_1 = 1) := hp_5
  have hP : va_P D vwCl ([(rf_MO mo mw ma mf m0 m1 mu mv u0 u1 iz th1_4 mb mn mpt mbg mwr mwk mlf men), (rf_RW ct 0 mw 958 f)] ++ ws_3) H := hP
  have hD : va_D A ([(rf_MO mo mw ma mf m0 m1 mu mv u0 u1 iz th1_4 mb mn mpt mbg mwr mwk mlf men), (rf_RW ct 0 mw 958 f)] ++ ws_3) := hD
  rcases hp_5 with ⟨rfl, hz_6⟩ | rfl
  · refine lv_if_ne (tgt := 19) hx hb dX11_energyEfficiency_5 (by decide) (fun hc => absurd (by decide) hc) (fun _ => ?_)
    refine lv_aload_n hx hb dX11_energyEfficiency_8 rfl (lv_at hl 0 rfl) ?_
    refine lv_iload_n hx hb dX11_energyEfficiency_9 rfl (lv_at hl 1 rfl) ?_
    refine lv_iconst (v := 2) hx hb dX11_energyEfficiency_10 (by decide) ?_
    have hP : va_P D vwCl ([(rf_RW ct 0 mw 958 f), (rf_MO mo mw ma mf m0 m1 mu mv u0 u1 iz th1_4 mb mn mpt mbg mwr mwk mlf men)] ++ ws_3) H := ty_permP hP (ty_ordp (E := [(rf_MO mo mw ma mf m0 m1 mu mv u0 u1 iz th1_4 mb mn mpt mbg mwr mwk mlf men), (rf_RW ct 0 mw 958 f)]) (E2 := [(rf_RW ct 0 mw 958 f), (rf_MO mo mw ma mf m0 m1 mu mv u0 u1 iz th1_4 mb mn mpt mbg mwr mwk mlf men)]) (n := 2) [1, 0] rfl rfl (by decide))
    have hD : va_D A ([(rf_RW ct 0 mw 958 f), (rf_MO mo mw ma mf m0 m1 mu mv u0 u1 iz th1_4 mb mn mpt mbg mwr mwk mlf men)] ++ ws_3) := ty_permD hD (ty_ordp (E := [(rf_MO mo mw ma mf m0 m1 mu mv u0 u1 iz th1_4 mb mn mpt mbg mwr mwk mlf men), (rf_RW ct 0 mw 958 f)]) (E2 := [(rf_RW ct 0 mw 958 f), (rf_MO mo mw ma mf m0 m1 mu mv u0 u1 iz th1_4 mb mn mpt mbg mwr mwk mlf men)]) (n := 2) [1, 0] rfl rfl (by decide))
    refine ty_kl (wr := [(rf_RW ct 0 mw 958 f)]) (wc := ([(rf_MO mo mw ma mf m0 m1 mu mv u0 u1 iz th1_4 mb mn mpt mbg mwr mwk mlf men)] ++ ws_3)) (va_runV (As := [.int p1, .int 2]) (rest := []) ⟨hx, hb, hml, hown, hts⟩ (m_sumF l D ct S ws_3 ph xx mo mw ma mf m0 m1 mu mv u0 u1 iz mb th1_4 mn mpt mbg mwr mwk mlf men p1 (2 : Int32) _ hT h_mu h_mv h_u0 h_u1 hph hy1 (rf_c6 hR hz_6) (by decide)) (cm_V 2 hts kc_X11_sum ki_RX11 kl_RX11_261 kv_X11_sum kx_X11_sum kd_X11_sum ⟨Nat.le_of_ble_eq_true rfl, Nat.le_of_ble_eq_true rfl⟩) (ty_preE (wr := [(rf_RW ct 0 mw 958 f)]) (wc := ([(rf_MO mo mw ma mf m0 m1 mu mv u0 u1 iz th1_4 mb mn mpt mbg mwr mwk mlf men)] ++ ws_3)) (ci := 11) (q0 := 1) hP hK hD hS hA hX rfl rfl) rfl rfl hl.1 rfl (lv_room (Nat.le_of_ble_eq_true rfl)) dX11_energyEfficiency_11 ⟨Nat.le_of_ble_eq_true rfl, Nat.le_of_ble_eq_true rfl⟩) hP hD hS hA (fun r_7 u H locs hw_8 hP hD hS => ?_)
    obtain ⟨ws_9, rfl⟩ : ∃ z, z = u := ⟨_, rfl⟩
    obtain ⟨hT, hp_10⟩ := hw_8
    have hp_10 : ws_9 = ws_3 ∧ ty_lat ws_3 mu ((7 * p1) + (2 : Int32)) r_7 := hp_10
    have hP : va_P D vwCl ([(rf_RW ct 0 mw 958 f), (rf_MO mo mw ma mf m0 m1 mu mv u0 u1 iz th1_4 mb mn mpt mbg mwr mwk mlf men)] ++ ws_9) H := hP
    have hD : va_D A ([(rf_RW ct 0 mw 958 f), (rf_MO mo mw ma mf m0 m1 mu mv u0 u1 iz th1_4 mb mn mpt mbg mwr mwk mlf men)] ++ ws_9) := hD
    refine lv_lconst (v := 0) hx hb dX11_energyEfficiency_14 (by decide) ?_
    refine W.lcmp hx hb dX11_energyEfficiency_15 ?_
    refine lv_if_ne (tgt := 21) hx hb dX11_energyEfficiency_16 (by decide) (fun hc_11 => ?_) (fun hc_11 => ?_)
    · refine lv_aload_n hx hb dX11_energyEfficiency_21 rfl (lv_at hl 0 rfl) ?_
      refine lv_iload_n hx hb dX11_energyEfficiency_22 rfl (lv_at hl 1 rfl) ?_
      refine lv_iconst (v := 3) hx hb dX11_energyEfficiency_23 (by decide) ?_
      refine ty_kl (wr := [(rf_RW ct 0 mw 958 f)]) (wc := ([(rf_MO mo mw ma mf m0 m1 mu mv u0 u1 iz th1_4 mb mn mpt mbg mwr mwk mlf men)] ++ ws_9)) (va_runV (As := [.int p1, .int 3]) (rest := []) ⟨hx, hb, hml, hown, hts⟩ (m_sumF l D ct S ws_9 ph xx mo mw ma mf m0 m1 mu mv u0 u1 iz mb th1_4 mn mpt mbg mwr mwk mlf men p1 (3 : Int32) _ hT h_mu h_mv h_u0 h_u1 hph hy1 (rf_c6 hR hz_6) (by decide)) (cm_V 2 hts kc_X11_sum ki_RX11 kl_RX11_261 kv_X11_sum kx_X11_sum kd_X11_sum ⟨Nat.le_of_ble_eq_true rfl, Nat.le_of_ble_eq_true rfl⟩) (ty_preE (wr := [(rf_RW ct 0 mw 958 f)]) (wc := ([(rf_MO mo mw ma mf m0 m1 mu mv u0 u1 iz th1_4 mb mn mpt mbg mwr mwk mlf men)] ++ ws_9)) (ci := 11) (q0 := 1) hP hK hD hS hA hX rfl rfl) rfl rfl hl.1 rfl (lv_room (Nat.le_of_ble_eq_true rfl)) dX11_energyEfficiency_24 ⟨Nat.le_of_ble_eq_true rfl, Nat.le_of_ble_eq_true rfl⟩) hP hD hS hA (fun r_12 u H locs hw_13 hP hD hS => ?_)
      obtain ⟨ws_14, rfl⟩ : ∃ z, z = u := ⟨_, rfl⟩
      obtain ⟨hT, hp_15⟩ := hw_13
      have hp_15 : ws_14 = ws_9 ∧ ty_lat ws_9 mu ((7 * p1) + (3 : Int32)) r_12 := hp_15
      have hP : va_P D vwCl ([(rf_RW ct 0 mw 958 f), (rf_MO mo mw ma mf m0 m1 mu mv u0 u1 iz th1_4 mb mn mpt mbg mwr mwk mlf men)] ++ ws_14) H := hP
      have hD : va_D A ([(rf_RW ct 0 mw 958 f), (rf_MO mo mw ma mf m0 m1 mu mv u0 u1 iz th1_4 mb mn mpt mbg mwr mwk mlf men)] ++ ws_14) := hD
      refine lv_l2d hx hb dX11_energyEfficiency_27 ?_
      refine lv_aload_n hx hb dX11_energyEfficiency_28 rfl (lv_at hl 0 rfl) ?_
      refine lv_iload_n hx hb dX11_energyEfficiency_29 rfl (lv_at hl 1 rfl) ?_
      refine lv_iconst (v := 2) hx hb dX11_energyEfficiency_30 (by decide) ?_
      refine ty_kl (wr := [(rf_RW ct 0 mw 958 f)]) (wc := ([(rf_MO mo mw ma mf m0 m1 mu mv u0 u1 iz th1_4 mb mn mpt mbg mwr mwk mlf men)] ++ ws_14)) (va_runV (As := [.int p1, .int 2]) (rest := [.double (FP.l2d r_12)]) ⟨hx, hb, hml, hown, hts⟩ (m_sumF l D ct S ws_14 ph xx mo mw ma mf m0 m1 mu mv u0 u1 iz mb th1_4 mn mpt mbg mwr mwk mlf men p1 (2 : Int32) _ hT h_mu h_mv h_u0 h_u1 hph hy1 (rf_c6 hR hz_6) (by decide)) (cm_V 2 hts kc_X11_sum ki_RX11 kl_RX11_261 kv_X11_sum kx_X11_sum kd_X11_sum ⟨Nat.le_of_ble_eq_true rfl, Nat.le_of_ble_eq_true rfl⟩) (ty_preE (wr := [(rf_RW ct 0 mw 958 f)]) (wc := ([(rf_MO mo mw ma mf m0 m1 mu mv u0 u1 iz th1_4 mb mn mpt mbg mwr mwk mlf men)] ++ ws_14)) (ci := 11) (q0 := 1) hP hK hD hS hA hX rfl rfl) rfl rfl hl.1 rfl (lv_room (Nat.le_of_ble_eq_true rfl)) dX11_energyEfficiency_31 ⟨Nat.le_of_ble_eq_true rfl, Nat.le_of_ble_eq_true rfl⟩) hP hD hS hA (fun r_16 u H locs hw_17 hP hD hS => ?_)
      obtain ⟨ws_18, rfl⟩ : ∃ z, z = u := ⟨_, rfl⟩
      obtain ⟨hT, hp_19⟩ := hw_17
      have hp_19 : ws_18 = ws_14 ∧ ty_lat ws_14 mu ((7 * p1) + (2 : Int32)) r_16 := hp_19
      have hP : va_P D vwCl ([(rf_RW ct 0 mw 958 f), (rf_MO mo mw ma mf m0 m1 mu mv u0 u1 iz th1_4 mb mn mpt mbg mwr mwk mlf men)] ++ ws_18) H := hP
      have hD : va_D A ([(rf_RW ct 0 mw 958 f), (rf_MO mo mw ma mf m0 m1 mu mv u0 u1 iz th1_4 mb mn mpt mbg mwr mwk mlf men)] ++ ws_18) := hD
      have hs_20 : ty_lat ws_18 mu ((7 * p1) + 2) r_7 := by rw [hp_19.1, hp_15.1, hp_10.1]; exact hp_10.2
      have hs_21 : ty_lat ws_18 mu ((7 * p1) + 2) r_16 := by rw [hp_19.1]; exact hp_19.2
      have hs_22 : r_7 = r_16 := ty_latf hD hs_20 hs_21
      refine lv_l2d hx hb dX11_energyEfficiency_34 ?_
      refine lv_ddiv hx hb dX11_energyEfficiency_35 (dq_quo (fun q => hc_11 (by rw [hs_22, q]; exact cm_lceq 0))) ?_
      have hP : va_P D vwCl ([(rf_MO mo mw ma mf m0 m1 mu mv u0 u1 iz th1_4 mb mn mpt mbg mwr mwk mlf men), (rf_RW ct 0 mw 958 f)] ++ ws_18) H := ty_permP hP (ty_ordp (E := [(rf_RW ct 0 mw 958 f), (rf_MO mo mw ma mf m0 m1 mu mv u0 u1 iz th1_4 mb mn mpt mbg mwr mwk mlf men)]) (E2 := [(rf_MO mo mw ma mf m0 m1 mu mv u0 u1 iz th1_4 mb mn mpt mbg mwr mwk mlf men), (rf_RW ct 0 mw 958 f)]) (n := 2) [1, 0] rfl rfl (by decide))
      have hD : va_D A ([(rf_MO mo mw ma mf m0 m1 mu mv u0 u1 iz th1_4 mb mn mpt mbg mwr mwk mlf men), (rf_RW ct 0 mw 958 f)] ++ ws_18) := ty_permD hD (ty_ordp (E := [(rf_RW ct 0 mw 958 f), (rf_MO mo mw ma mf m0 m1 mu mv u0 u1 iz th1_4 mb mn mpt mbg mwr mwk mlf men)]) (E2 := [(rf_MO mo mw ma mf m0 m1 mu mv u0 u1 iz th1_4 mb mn mpt mbg mwr mwk mlf men), (rf_RW ct 0 mw 958 f)]) (n := 2) [1, 0] rfl rfl (by decide))
      exact W.dret (v := (FP.ddiv (FP.l2d r_12) (FP.l2d r_16))) hx hb hr (fun t ht hW => ⟨⟨(FP.ddiv (FP.l2d r_12) (FP.l2d r_16)), (ws_18, th1_4), rfl, hT, by rw [ht]; exact hP, by rw [hAe]; exact hD⟩, hS.F ht⟩) hS.2.2 dX11_energyEfficiency_36
    · refine lv_dconst0 hx hb dX11_energyEfficiency_19 ?_
      have hP : va_P D vwCl ([(rf_MO mo mw ma mf m0 m1 mu mv u0 u1 iz th1_4 mb mn mpt mbg mwr mwk mlf men), (rf_RW ct 0 mw 958 f)] ++ ws_9) H := ty_permP hP (ty_ordp (E := [(rf_RW ct 0 mw 958 f), (rf_MO mo mw ma mf m0 m1 mu mv u0 u1 iz th1_4 mb mn mpt mbg mwr mwk mlf men)]) (E2 := [(rf_MO mo mw ma mf m0 m1 mu mv u0 u1 iz th1_4 mb mn mpt mbg mwr mwk mlf men), (rf_RW ct 0 mw 958 f)]) (n := 2) [1, 0] rfl rfl (by decide))
      have hD : va_D A ([(rf_MO mo mw ma mf m0 m1 mu mv u0 u1 iz th1_4 mb mn mpt mbg mwr mwk mlf men), (rf_RW ct 0 mw 958 f)] ++ ws_9) := ty_permD hD (ty_ordp (E := [(rf_RW ct 0 mw 958 f), (rf_MO mo mw ma mf m0 m1 mu mv u0 u1 iz th1_4 mb mn mpt mbg mwr mwk mlf men)]) (E2 := [(rf_MO mo mw ma mf m0 m1 mu mv u0 u1 iz th1_4 mb mn mpt mbg mwr mwk mlf men), (rf_RW ct 0 mw 958 f)]) (n := 2) [1, 0] rfl rfl (by decide))
      exact W.dret (v := 0) hx hb hr (fun t ht hW => ⟨⟨0, (ws_9, th1_4), rfl, hT, by rw [ht]; exact hP, by rw [hAe]; exact hD⟩, hS.F ht⟩) hS.2.2 dX11_energyEfficiency_20
  · refine lv_if_ne (tgt := 19) hx hb dX11_energyEfficiency_5 (by decide) (fun _ => ?_) (fun hc => absurd hc (by decide))
    refine lv_dconst0 hx hb dX11_energyEfficiency_19 ?_
    exact W.dret (v := 0) hx hb hr (fun t ht hW => ⟨⟨0, (ws_3, th1_4), rfl, hT, by rw [ht]; exact hP, by rw [hAe]; exact hD⟩, hS.F ht⟩) hS.2.2 dX11_energyEfficiency_20
