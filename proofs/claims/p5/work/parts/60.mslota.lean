theorem rf_Ec {f h : Nat → Int32} (hE : rf_E f) (he : ∀ j : Nat, j < 958 → h j = f j) : rf_E h := by
  obtain ⟨G, hR⟩ := hE
  exact ⟨G, rf_Req hR he⟩
theorem rf_sv0 {k s : Nat → Int32} {p v : Int32} (hp : p = 0) (h : k 1 = 0 ∨ rf_E s) : upd k p.toNatClampNeg v 1 = 0 ∨ rf_E s := by
  subst hp
  rw [rf_upd_ne (by decide)]
  exact h
theorem rf_sv1 {k s : Nat → Int32} {p v : Int32} (hp : p = 0 ∨ p = 1) (hn : ¬ p = 0) (h : k 0 = 0 ∨ rf_E s) : upd k p.toNatClampNeg v 0 = 0 ∨ rf_E s := by
  rcases hp with q | q
  · exact absurd q hn
  · subst q
    rw [rf_upd_ne (by decide)]
    exact h
theorem rf_i2s {p : Int32} (h : p = 0 ∨ p = 1) : vp_in p 2 := by
  rcases h with q | q
  · subst q
    exact cm_vin (by decide)
  · subst q
    exact cm_vin (by decide)
theorem rf_rs0 {k s : Nat → Int32} {p : Int32} (hp : p = 0) (h : ¬ k p.toNatClampNeg = 0) (hs : k 0 = 0 ∨ rf_E s) : rf_E s := by
  subst hp
  exact hs.elim (fun q => absurd q h) (fun q => q)
theorem rf_rs1 {k s : Nat → Int32} {p : Int32} (hp : p = 0 ∨ p = 1) (hn : ¬ p = 0) (h : ¬ k p.toNatClampNeg = 0) (hs : k 1 = 0 ∨ rf_E s) : rf_E s := by
  rcases hp with q | q
  · exact absurd q hn
  · subst q
    exact hs.elim (fun q => absurd q h) (fun q => q)
theorem rf_slot {p : Int32} (h : ¬ cm_rng p.toInt64 0 1 = 0) : p = 0 ∨ p = 1 := by
  have r := rf_rng h
  rw [Jvm.Kit.i64_of_i32, show (0 : Int64).toInt = 0 from by decide, show (1 : Int64).toInt = 1 from by decide] at r
  rcases (by omega : p.toInt = 0 ∨ p.toInt = 1) with q | q
  · exact Or.inl (Int32.toInt_inj.mp (q.trans (by decide)))
  · exact Or.inr (Int32.toInt_inj.mp (q.trans (by decide)))
/-- the slots, and what lies in them -/
def q_sv (p : Int32) (k s0 s1 f k1 s01 s11 : Nat → Int32) (su z0 z1 z01 z11 : Nat → Int64) (r e : Int32) : Prop := (¬ (p = 0 ∨ p = 1) ∧ k1 = k ∧ s01 = s0 ∧ s11 = s1 ∧ z01 = z0 ∧ z11 = z1 ∧ e = 1) ∨ (p = 0 ∧ ¬ k1 0 = 0 ∧ k1 1 = k 1 ∧ q_eq 958 f s01 ∧ s11 = s1 ∧ q_cs su z01 ∧ z11 = z1 ∧ e = 0 ∧ r = f 8) ∨ (p = 1 ∧ k1 0 = k 0 ∧ ¬ k1 1 = 0 ∧ s01 = s0 ∧ q_eq 958 f s11 ∧ z01 = z0 ∧ q_cs su z11 ∧ e = 0 ∧ r = f 8)
def q_rs (p : Int32) (k s0 s1 f f1 : Nat → Int32) (z0 z1 su su1 : Nat → Int64) (r e : Int32) : Prop := (¬ (p = 0 ∨ p = 1) ∧ f1 = f ∧ su1 = su ∧ e = 1) ∨ (p = 0 ∧ e = 0 ∧ ((k 0 = 0 ∧ f1 = f ∧ su1 = su ∧ r = -1) ∨ (¬ k 0 = 0 ∧ q_eq 958 s0 f1 ∧ q_cs z0 su1 ∧ r = f1 8))) ∨ (p = 1 ∧ e = 0 ∧ ((k 1 = 0 ∧ f1 = f ∧ su1 = su ∧ r = -1) ∨ (¬ k 1 = 0 ∧ q_eq 958 s1 f1 ∧ q_cs z1 su1 ∧ r = f1 8)))
theorem q_svA {p e : Int32} {k s0 s1 f h : Nat → Int32} {su z0 z1 y : Nat → Int64} (hp : p = 0) (q : q_eq 958 f h) (c : q_cs su y) (he : e = 0) : q_sv p k s0 s1 f (upd k p.toNatClampNeg (vp_nar .boolean 1)) h s1 su z0 z1 y z1 (f 8) e := by
  subst hp
  refine Or.inr (Or.inl ⟨rfl, ?_, rf_upd_ne (by decide), q, rfl, c, rfl, he, rfl⟩)
  rw [show (0 : Int32).toNatClampNeg = 0 from by decide, rf_upd_eq]
  decide
theorem q_svB {p e : Int32} {k s0 s1 f h : Nat → Int32} {su z0 z1 y : Nat → Int64} (hp : p = 0 ∨ p = 1) (hn : ¬ p = 0) (q : q_eq 958 f h) (c : q_cs su y) (he : e = 0) : q_sv p k s0 s1 f (upd k p.toNatClampNeg (vp_nar .boolean 1)) s0 h su z0 z1 z0 y (f 8) e := by
  rcases hp with z | z
  · exact absurd z hn
  · subst z
    refine Or.inr (Or.inr ⟨rfl, rf_upd_ne (by decide), ?_, rfl, q, rfl, c, he, rfl⟩)
    rw [show (1 : Int32).toNatClampNeg = 1 from by decide, rf_upd_eq]
    decide
theorem q_rsN {p e : Int32} {k s0 s1 f : Nat → Int32} {z0 z1 su : Nat → Int64} (hp : p = 0 ∨ p = 1) (h : k p.toNatClampNeg = 0) (he : e = 0) : q_rs p k s0 s1 f f z0 z1 su su (-1) e := by
  rcases hp with z | z
  · subst z
    exact Or.inr (Or.inl ⟨rfl, he, Or.inl ⟨h, rfl, rfl, rfl⟩⟩)
  · subst z
    exact Or.inr (Or.inr ⟨rfl, he, Or.inl ⟨h, rfl, rfl, rfl⟩⟩)
theorem q_rsA {p e : Int32} {k s0 s1 f h : Nat → Int32} {z0 z1 su y : Nat → Int64} (hp : p = 0) (hk : ¬ k p.toNatClampNeg = 0) (q : q_eq 958 s0 h) (c : q_cs z0 y) (he : e = 0) : q_rs p k s0 s1 f h z0 z1 su y (h 8) e := by
  subst hp
  exact Or.inr (Or.inl ⟨rfl, he, Or.inr ⟨hk, q, c, rfl⟩⟩)
theorem q_rsB {p e : Int32} {k s0 s1 f h : Nat → Int32} {z0 z1 su y : Nat → Int64} (hp : p = 0 ∨ p = 1) (hn : ¬ p = 0) (hk : ¬ k p.toNatClampNeg = 0) (q : q_eq 958 s1 h) (c : q_cs z1 y) (he : e = 0) : q_rs p k s0 s1 f h z0 z1 su y (h 8) e := by
  rcases hp with z | z
  · exact absurd z hn
  · subst z
    exact Or.inr (Or.inr ⟨rfl, he, Or.inr ⟨hk, q, c, rfl⟩⟩)
set_option maxRecDepth 100000 in
set_option maxHeartbeats 4000000 in
theorem m_noSlot (l : Launch) (D : va_G) (ct : Nat → ClassId) (S : ty_S) (ws : va_W) (ph : va_W → Prop) (xx : Nat → Nat → Nat → Prop) (mo : Nat) (mw : Nat) (ma : Nat) (mf : Nat) (m0 : Nat) (m1 : Nat) (mu : Nat) (mv : Nat) (u0 : Nat) (u1 : Nat) (iz : Nat) (mb : Nat) (th : Int32) (mn : Int32) (mpt : Int32) (mbg : Int32) (mwr : Int32) (mwk : Int32) (mlf : Int32) (men : Int32) (p1 : Int32) (sz : Nat) (hT : ty_V ct S ph ws) (hph : ty_C ph xx) (hy1 : ty_y1 xx) : Met l yX11_noSlot (ws_ yX11_noSlot cX11_noSlot 2 (some .boolean)) ({ frames := 1, cells := 0, slots := 0, locals := 25 } : Room) (va_Pc [.ref mo, .int p1] (cmP D ct sz ([(rf_MO mo mw ma mf m0 m1 mu mv u0 u1 iz th mb mn mpt mbg mwr mwk mlf men)] ++ ws))) (va_Qi (fun (r : Int32) (u : va_W × Int32) => match u with | (u9, th1) => ty_V ct S ph u9 ∧ ((r = 0 ∧ (p1 = 0 ∨ p1 = 1) ∧ th1 = 0) ∨ (r = 1 ∧ ¬ (p1 = 0 ∨ p1 = 1) ∧ th1 = 1))) (cmB D ([(rf_MO mo mw ma mf m0 m1 mu mv u0 u1 iz th mb mn mpt mbg mwr mwk mlf men)] ++ ws) sz (fun (u : va_W × Int32) => match u with | (u9, th1) => ([(rf_MO mo mw ma mf m0 m1 mu mv u0 u1 iz th1 mb mn mpt mbg mwr mwk mlf men)] ++ u9))) (va_A ([(rf_MO mo mw ma mf m0 m1 mu mv u0 u1 iz th mb mn mpt mbg mwr mwk mlf men)] ++ ws) sz)) 0 0 (va_A ([(rf_MO mo mw ma mf m0 m1 mu mv u0 u1 iz th mb mn mpt mbg mwr mwk mlf men)] ++ ws) sz) := by
  refine Met.ofW (cc := cX11_noSlot) (maxL := 2) (ret := (some .boolean)) (by decide) rfl ?_
  intro p e s m args below meth c s₁ B hml hv
  obtain ⟨rfl, hsz, hP, hK, hD0, hX⟩ := hv
  have hx := B.exec
  have hb := B.bytes
  have hr := B.returns
  have hts := ws_all (atoms_spec (ws := ws_ yX11_noSlot cX11_noSlot 2 (some .boolean)) B.pre)
  have hown : s.vm.findClass RX11 = some m.cls := findClass_of_methodNamed B.named
  have hlocks := B.notSynchronized
  subst hsz
  have hD := hD0.self (sz := s.heap.size)
  generalize hAe : va_A ([(rf_MO mo mw ma mf m0 m1 mu mv u0 u1 iz th mb mn mpt mbg mwr mwk mlf men)] ++ ws) s.heap.size = A at hD hX ⊢
  have hA : ∀ q : Nat, s.heap.size ≤ q → A q := fun q h => by rw [← hAe]; exact Or.inr h
  have hS : va_S A s.heap s.heap [] := va_S.rf
  have hl := lv_entry ([.ref mo, .int p1]) (n := 2) (Nat.le_of_ble_eq_true rfl)
  rw [lg_entry_eq]
  generalize (lg_sl ([.ref mo, .int p1]) ++ List.replicate (2 - (lg_sl ([.ref mo, .int p1])).length) Slot.unset).toArray = ls at hl ⊢
  have hl : lv_has ls 2 [(0, .ref mo), (1, .int p1)] := hl
  refine lv_aload_n hx hb dX11_noSlot_0 rfl (lv_at hl 0 rfl) ?_
  refine lv_iconst (v := 0) hx hb dX11_noSlot_1 (by decide) ?_
  refine va_put (v := .int 0) (ty := .int) (D := D) (ci := 11) (C := RX11) (T := TX11) (N := 19) hx hb hts in_X11 tyX11 tyX11_ok nmX11 hown hK hP hD hS 0 rfl rfl 10 (by decide) (hts _ kl_RX11_49) (fun _ h9 => h9) rfl (by decide +kernel) rfl rfl (Nat.le_of_ble_eq_true rfl) dX11_noSlot_2 (fun H locs hP hD hS => ?_)
  have hP : va_P D vwCl ([(rf_MO mo mw ma mf m0 m1 mu mv u0 u1 iz (0) mb mn mpt mbg mwr mwk mlf men)] ++ ws) H := hP
  have hD : va_D A ([(rf_MO mo mw ma mf m0 m1 mu mv u0 u1 iz (0) mb mn mpt mbg mwr mwk mlf men)] ++ ws) := hD
  refine lv_aload_n hx hb dX11_noSlot_5 rfl (lv_at hl 0 rfl) ?_
  refine lv_iload_n hx hb dX11_noSlot_6 rfl (lv_at hl 1 rfl) ?_
  refine lv_i2l hx hb dX11_noSlot_7 rfl ?_
  refine lv_lconst (v := 0) hx hb dX11_noSlot_8 (by decide) ?_
  refine lv_lconst (v := 1) hx hb dX11_noSlot_9 (by decide) ?_
  obtain ⟨hP, hD⟩ := ty_ipPD (E1 := [(rf_MO mo mw ma mf m0 m1 mu mv u0 u1 iz (0) mb mn mpt mbg mwr mwk mlf men)]) (E2 := []) hP hD rfl ty_mva
  refine ty_Ki hP hD hS hA (va_runS (As := [.long p1.toInt64, .long 0, .long 1]) (rest := [.ref mo]) ⟨hx, hb, hml, hown, hts⟩ (m_X11_in l D ct S ws ph xx p1.toInt64 (0 : Int64) (1 : Int64) _ hT hph hy1) (cm_S 3 hts kc_X11_in ki_RX11 kl_RX11_70 ks_X11_in kd_X11_in ⟨Nat.le_of_ble_eq_true rfl, Nat.le_of_ble_eq_true rfl⟩) (ty_preS hP hK hD hS hA hX) rfl rfl hl.1 rfl (lv_room (Nat.le_of_ble_eq_true rfl)) dX11_noSlot_10 ⟨Nat.le_of_ble_eq_true rfl, Nat.le_of_ble_eq_true rfl⟩) (fun r_1 u H locs hw_2 hP hD hS => ?_)
  obtain ⟨ws_3, rfl⟩ : ∃ z, z = u := ⟨_, rfl⟩
  obtain ⟨hT, rfl⟩ := hw_2
  obtain ⟨hP, hD⟩ := ty_shPD (w2 := ([(rf_MO mo mw ma mf m0 m1 mu mv u0 u1 iz (0) mb mn mpt mbg mwr mwk mlf men)] ++ ws_3)) hP hD rfl
  refine lv_if_ne (tgt := 20) hx hb dX11_noSlot_13 (by decide) (fun hc_4 => ?_) (fun hc_4 => ?_)
  · refine lv_iconst (v := 0) hx hb dX11_noSlot_20 (by decide) ?_
    refine lv_iconst (v := 1) hx hb dX11_noSlot_21 (by decide) ?_
    obtain ⟨hP, hD⟩ := ty_ipPD (E1 := []) (E2 := [(rf_MO mo mw ma mf m0 m1 mu mv u0 u1 iz (0) mb mn mpt mbg mwr mwk mlf men)]) hP hD rfl ty_mva
    refine ty_Ki hP hD hS hA (va_runV (As := [.int 0, .int 1]) (rest := []) ⟨hx, hb, hml, hown, hts⟩ (m_throwsIf_0 l D ct S ws_3 ph xx mo mw ma mf m0 m1 mu mv u0 u1 iz mb mn mpt mbg mwr mwk mlf men (0 : Int32) (1 : Int32) _ hT hph hy1 (by decide)) (cm_V 2 hts kc_X11_throwsIf ki_RX11 kl_RX11_328 kv_X11_throwsIf kx_X11_throwsIf kd_X11_throwsIf ⟨Nat.le_of_ble_eq_true rfl, Nat.le_of_ble_eq_true rfl⟩) (ty_preE (ci := 11) (q0 := 0) hP hK hD hS hA hX rfl rfl) rfl rfl hl.1 rfl (lv_room (Nat.le_of_ble_eq_true rfl)) dX11_noSlot_22 ⟨Nat.le_of_ble_eq_true rfl, Nat.le_of_ble_eq_true rfl⟩) (fun r_5 u H locs hw_6 hP hD hS => ?_)
    obtain ⟨ws_7, th1_8⟩ := u
    obtain ⟨hT, hp_9⟩ := hw_6
    have hp_9 : ((r_5 = 0 ∧ (0 : Int32) = 0 ∧ th1_8 = 0) ∨ (r_5 = 1 ∧ ¬ (0 : Int32) = 0 ∧ th1_8 = (1 : Int32))) := hp_9
    obtain ⟨hP, hD⟩ := ty_shPD (w2 := ([(rf_MO mo mw ma mf m0 m1 mu mv u0 u1 iz th1_8 mb mn mpt mbg mwr mwk mlf men)] ++ ws_7)) hP hD rfl
    rcases hp_9 with ⟨rfl, hz_10⟩ | ⟨rfl, hz_11⟩
    · have he_12 := hz_10.2
      have hP : va_P D vwCl ([(rf_MO mo mw ma mf m0 m1 mu mv u0 u1 iz (0) mb mn mpt mbg mwr mwk mlf men)] ++ ws_7) H := by rw [he_12] at hP; exact hP
      have hD : va_D A ([(rf_MO mo mw ma mf m0 m1 mu mv u0 u1 iz (0) mb mn mpt mbg mwr mwk mlf men)] ++ ws_7) := by rw [he_12] at hD; exact hD
      exact W.zret (v := 0) hx hb hr (by decide) (fun t ht hW => ⟨⟨0, (ws_7, (0 : Int32)), rfl, ⟨hT, (Or.inl ⟨rfl, rf_slot hc_4, rfl⟩)⟩, by rw [ht]; exact hP, by rw [hAe]; exact hD⟩, hS.F ht⟩) hS.2.2 dX11_noSlot_25
    · exact absurd rfl hz_11.1
  · refine lv_iconst (v := 1) hx hb dX11_noSlot_16 (by decide) ?_
    refine lv_goto (tgt := 21) hx hb dX11_noSlot_17 (by decide) ?_
    refine lv_iconst (v := 1) hx hb dX11_noSlot_21 (by decide) ?_
    obtain ⟨hP, hD⟩ := ty_ipPD (E1 := []) (E2 := [(rf_MO mo mw ma mf m0 m1 mu mv u0 u1 iz (0) mb mn mpt mbg mwr mwk mlf men)]) hP hD rfl ty_mva
    refine ty_Ki hP hD hS hA (va_runV (As := [.int 1, .int 1]) (rest := []) ⟨hx, hb, hml, hown, hts⟩ (m_throwsIf_0 l D ct S ws_3 ph xx mo mw ma mf m0 m1 mu mv u0 u1 iz mb mn mpt mbg mwr mwk mlf men (1 : Int32) (1 : Int32) _ hT hph hy1 (by decide)) (cm_V 2 hts kc_X11_throwsIf ki_RX11 kl_RX11_328 kv_X11_throwsIf kx_X11_throwsIf kd_X11_throwsIf ⟨Nat.le_of_ble_eq_true rfl, Nat.le_of_ble_eq_true rfl⟩) (ty_preE (ci := 11) (q0 := 0) hP hK hD hS hA hX rfl rfl) rfl rfl hl.1 rfl (lv_room (Nat.le_of_ble_eq_true rfl)) dX11_noSlot_22 ⟨Nat.le_of_ble_eq_true rfl, Nat.le_of_ble_eq_true rfl⟩) (fun r_13 u H locs hw_14 hP hD hS => ?_)
    obtain ⟨ws_15, th1_16⟩ := u
    obtain ⟨hT, hp_17⟩ := hw_14
    have hp_17 : ((r_13 = 0 ∧ (1 : Int32) = 0 ∧ th1_16 = 0) ∨ (r_13 = 1 ∧ ¬ (1 : Int32) = 0 ∧ th1_16 = (1 : Int32))) := hp_17
    obtain ⟨hP, hD⟩ := ty_shPD (w2 := ([(rf_MO mo mw ma mf m0 m1 mu mv u0 u1 iz th1_16 mb mn mpt mbg mwr mwk mlf men)] ++ ws_15)) hP hD rfl
    rcases hp_17 with ⟨rfl, hz_18⟩ | ⟨rfl, hz_19⟩
    · exact absurd hz_18.1 (by decide)
    · have he_20 := hz_19.2
      have hP : va_P D vwCl ([(rf_MO mo mw ma mf m0 m1 mu mv u0 u1 iz (1) mb mn mpt mbg mwr mwk mlf men)] ++ ws_15) H := by rw [he_20] at hP; exact hP
      have hD : va_D A ([(rf_MO mo mw ma mf m0 m1 mu mv u0 u1 iz (1) mb mn mpt mbg mwr mwk mlf men)] ++ ws_15) := by rw [he_20] at hD; exact hD
      exact W.zret (v := 1) hx hb hr (by decide) (fun t ht hW => ⟨⟨1, (ws_15, (1 : Int32)), rfl, ⟨hT, (Or.inr ⟨rfl, rf_nsl hc_4, rfl⟩)⟩, by rw [ht]; exact hP, by rw [hAe]; exact hD⟩, hS.F ht⟩) hS.2.2 dX11_noSlot_25
set_option maxRecDepth 100000 in
set_option maxHeartbeats 4000000 in
theorem m_saveSnapshot (l : Launch) (D : va_G) (ct : Nat → ClassId) (S : ty_S) (ws : va_W) (ph : va_W → Prop) (xx : Nat → Nat → Nat → Prop) (mo : Nat) (mw : Nat) (ma : Nat) (mf : Nat) (m0 : Nat) (m1 : Nat) (mu : Nat) (mv : Nat) (u0 : Nat) (u1 : Nat) (iz : Nat) (mb : Nat) (th : Int32) (mn : Int32) (mpt : Int32) (mbg : Int32) (mwr : Int32) (mwk : Int32) (mlf : Int32) (men : Int32) (f : Nat → Int32) (s0 : Nat → Int32) (s1 : Nat → Int32) (k : Nat → Int32) (su : Nat → Int64) (z0 : Nat → Int64) (z1 : Nat → Int64) (p1 : Int32) (sz : Nat) (hT : ty_V ct S ph ws) (hph : ty_C ph xx) (hy1 : ty_y1 xx) (hy11 : ty_y0 xx 11) (hE : rf_E f) (hs0 : k 0 = 0 ∨ rf_E s0) (hs1 : k 1 = 0 ∨ rf_E s1) : Met l yX11_saveSnapshot (ws_ yX11_saveSnapshot cX11_saveSnapshot 2 (some .int)) ({ frames := 2, cells := 0, slots := 0, locals := 46 } : Room) (va_Pc [.ref mo, .int p1] (cmP D ct sz ([(rf_MO mo mw ma mf m0 m1 mu mv u0 u1 iz th mb mn mpt mbg mwr mwk mlf men), (rf_RW ct 0 mw 958 f), (rf_RW ct 0 m0 958 s0), (rf_RW ct 0 m1 958 s1), (rf_RW ct 2 iz 2 k), (mu, .inl (ct 1, 42, .inr (.inl su))), (u0, .inl (ct 1, 42, .inr (.inl z0))), (u1, .inl (ct 1, 42, .inr (.inl z1)))] ++ ws))) (va_Qi (fun (r : Int32) (u : va_W × Int32 × (Nat → Int32) × (Nat → Int32) × (Nat → Int32) × (Nat → Int64) × (Nat → Int64)) => match u with | (u9, th1, s01, s11, k1, z01, z11) => ty_V ct S ph u9 ∧ ((k1 0 = 0 ∨ rf_E s01) ∧ (k1 1 = 0 ∨ rf_E s11)) ∧ q_sv p1 k s0 s1 f k1 s01 s11 su z0 z1 z01 z11 r th1) (cmB D ([(rf_MO mo mw ma mf m0 m1 mu mv u0 u1 iz th mb mn mpt mbg mwr mwk mlf men), (rf_RW ct 0 mw 958 f), (rf_RW ct 0 m0 958 s0), (rf_RW ct 0 m1 958 s1), (rf_RW ct 2 iz 2 k), (mu, .inl (ct 1, 42, .inr (.inl su))), (u0, .inl (ct 1, 42, .inr (.inl z0))), (u1, .inl (ct 1, 42, .inr (.inl z1)))] ++ ws) sz (fun (u : va_W × Int32 × (Nat → Int32) × (Nat → Int32) × (Nat → Int32) × (Nat → Int64) × (Nat → Int64)) => match u with | (u9, th1, s01, s11, k1, z01, z11) => ([(rf_MO mo mw ma mf m0 m1 mu mv u0 u1 iz th1 mb mn mpt mbg mwr mwk mlf men), (rf_RW ct 0 mw 958 f), (rf_RW ct 0 m0 958 s01), (rf_RW ct 0 m1 958 s11), (rf_RW ct 2 iz 2 k1), (mu, .inl (ct 1, 42, .inr (.inl su))), (u0, .inl (ct 1, 42, .inr (.inl z01))), (u1, .inl (ct 1, 42, .inr (.inl z11)))] ++ u9))) (va_A ([(rf_MO mo mw ma mf m0 m1 mu mv u0 u1 iz th mb mn mpt mbg mwr mwk mlf men), (rf_RW ct 0 mw 958 f), (rf_RW ct 0 m0 958 s0), (rf_RW ct 0 m1 958 s1), (rf_RW ct 2 iz 2 k), (mu, .inl (ct 1, 42, .inr (.inl su))), (u0, .inl (ct 1, 42, .inr (.inl z0))), (u1, .inl (ct 1, 42, .inr (.inl z1)))] ++ ws) sz)) 0 0 (va_A ([(rf_MO mo mw ma mf m0 m1 mu mv u0 u1 iz th mb mn mpt mbg mwr mwk mlf men), (rf_RW ct 0 mw 958 f), (rf_RW ct 0 m0 958 s0), (rf_RW ct 0 m1 958 s1), (rf_RW ct 2 iz 2 k), (mu, .inl (ct 1, 42, .inr (.inl su))), (u0, .inl (ct 1, 42, .inr (.inl z0))), (u1, .inl (ct 1, 42, .inr (.inl z1)))] ++ ws) sz) := by
  refine Met.ofW (cc := cX11_saveSnapshot) (maxL := 2) (ret := (some .int)) (by decide) rfl ?_
  intro p e s m args below meth c s₁ B hml hv
  obtain ⟨rfl, hsz, hP, hK, hD0, hX⟩ := hv
  have hx := B.exec
  have hb := B.bytes
  have hr := B.returns
  have hts := ws_all (atoms_spec (ws := ws_ yX11_saveSnapshot cX11_saveSnapshot 2 (some .int)) B.pre)
  have hown : s.vm.findClass RX11 = some m.cls := findClass_of_methodNamed B.named
  have hlocks := B.notSynchronized
  subst hsz
  have hD := hD0.self (sz := s.heap.size)
  generalize hAe : va_A ([(rf_MO mo mw ma mf m0 m1 mu mv u0 u1 iz th mb mn mpt mbg mwr mwk mlf men), (rf_RW ct 0 mw 958 f), (rf_RW ct 0 m0 958 s0), (rf_RW ct 0 m1 958 s1), (rf_RW ct 2 iz 2 k), (mu, .inl (ct 1, 42, .inr (.inl su))), (u0, .inl (ct 1, 42, .inr (.inl z0))), (u1, .inl (ct 1, 42, .inr (.inl z1)))] ++ ws) s.heap.size = A at hD hX ⊢
  have hA : ∀ q : Nat, s.heap.size ≤ q → A q := fun q h => by rw [← hAe]; exact Or.inr h
  have hS : va_S A s.heap s.heap [] := va_S.rf
  have hl := lv_entry ([.ref mo, .int p1]) (n := 2) (Nat.le_of_ble_eq_true rfl)
  rw [lg_entry_eq]
  generalize (lg_sl ([.ref mo, .int p1]) ++ List.replicate (2 - (lg_sl ([.ref mo, .int p1])).length) Slot.unset).toArray = ls at hl ⊢
  have hl : lv_has ls 2 [(0, .ref mo), (1, .int p1)] := hl
  refine lv_aload_n hx hb dX11_saveSnapshot_0 rfl (lv_at hl 0 rfl) ?_
  refine lv_iload_n hx hb dX11_saveSnapshot_1 rfl (lv_at hl 1 rfl) ?_
  obtain ⟨hP, hD⟩ := ty_opPD (E1 := [(rf_RW ct 0 mw 958 f), (rf_RW ct 0 m0 958 s0), (rf_RW ct 0 m1 958 s1), (rf_RW ct 2 iz 2 k), (mu, .inl (ct 1, 42, .inr (.inl su))), (u0, .inl (ct 1, 42, .inr (.inl z0))), (u1, .inl (ct 1, 42, .inr (.inl z1)))]) (E2 := [(rf_MO mo mw ma mf m0 m1 mu mv u0 u1 iz th mb mn mpt mbg mwr mwk mlf men)]) (n := 8) [1, 2, 3, 4, 5, 6, 7, 0] hP hD rfl rfl (by decide +kernel) ty_mva
  refine ty_Ki hP hD hS hA (va_runV (As := [.int p1]) (rest := []) ⟨hx, hb, hml, hown, hts⟩ (m_noSlot l D ct S ws ph xx mo mw ma mf m0 m1 mu mv u0 u1 iz mb th mn mpt mbg mwr mwk mlf men p1 _ hT hph hy1) (cm_V 1 hts kc_X11_noSlot ki_RX11 kl_RX11_402 kv_X11_noSlot kx_X11_noSlot kd_X11_noSlot ⟨Nat.le_of_ble_eq_true rfl, Nat.le_of_ble_eq_true rfl⟩) (ty_preE (ci := 11) (q0 := 7) hP hK hD hS hA hX rfl rfl) rfl rfl hl.1 rfl (lv_room (Nat.le_of_ble_eq_true rfl)) dX11_saveSnapshot_2 ⟨Nat.le_of_ble_eq_true rfl, Nat.le_of_ble_eq_true rfl⟩) (fun r_1 u H locs hw_2 hP hD hS => ?_)
  obtain ⟨ws_3, th1_4⟩ := u
  obtain ⟨hT, hp_5⟩ := hw_2
  have hp_5 : ((r_1 = 0 ∧ (p1 = 0 ∨ p1 = 1) ∧ th1_4 = 0) ∨ (r_1 = 1 ∧ ¬ (p1 = 0 ∨ p1 = 1) ∧ th1_4 = 1)) := hp_5
  obtain ⟨hP, hD⟩ := ty_shPD (w2 := ([(rf_RW ct 0 mw 958 f), (rf_RW ct 0 m0 958 s0), (rf_RW ct 0 m1 958 s1), (rf_RW ct 2 iz 2 k), (mu, .inl (ct 1, 42, .inr (.inl su))), (u0, .inl (ct 1, 42, .inr (.inl z0))), (u1, .inl (ct 1, 42, .inr (.inl z1))), (rf_MO mo mw ma mf m0 m1 mu mv u0 u1 iz th1_4 mb mn mpt mbg mwr mwk mlf men)] ++ ws_3)) hP hD rfl
  rcases hp_5 with ⟨rfl, hz_6⟩ | ⟨rfl, hz_7⟩
  · refine lv_if_eq (tgt := 10) hx hb dX11_saveSnapshot_5 (by decide) (fun _ => ?_) (fun hc => absurd (by decide) hc)
    refine lv_aload_n hx hb dX11_saveSnapshot_10 rfl (lv_at hl 0 rfl) ?_
    refine va_get (v := .ref mw) (D := D) (ci := 11) (C := RX11) (T := TX11) (N := 19) hx hb hts in_X11 hown hK hP 7 rfl rfl 0 (by decide) (hts _ kl_RX11_9) (fun _ h9 => h9) rfl dX11_saveSnapshot_11 ?_
    refine lv_iload_n hx hb dX11_saveSnapshot_14 rfl (lv_at hl 1 rfl) ?_
    refine lv_if_ne (tgt := 25) hx hb dX11_saveSnapshot_15 (by decide) (fun hc_8 => ?_) (fun hc_8 => ?_)
    · refine lv_aload_n hx hb dX11_saveSnapshot_25 rfl (lv_at hl 0 rfl) ?_
      refine va_get (v := .ref m1) (D := D) (ci := 11) (C := RX11) (T := TX11) (N := 19) hx hb hts in_X11 hown hK hP 7 rfl rfl 4 (by decide) (hts _ kl_RX11_22) (fun _ h9 => h9) rfl dX11_saveSnapshot_26 ?_
      obtain ⟨hP, hD⟩ := ty_opPD (E1 := [(rf_RW ct 0 m0 958 s0), (rf_RW ct 2 iz 2 k), (mu, .inl (ct 1, 42, .inr (.inl su))), (u0, .inl (ct 1, 42, .inr (.inl z0))), (u1, .inl (ct 1, 42, .inr (.inl z1))), (rf_MO mo mw ma mf m0 m1 mu mv u0 u1 iz th1_4 mb mn mpt mbg mwr mwk mlf men)]) (E2 := [(rf_RW ct 0 mw 958 f), (rf_RW ct 0 m1 958 s1)]) (n := 8) [1, 3, 4, 5, 6, 7, 0, 2] hP hD rfl rfl (by decide +kernel) ty_mva
      refine ty_Kv hP hD hS hA (va_runS (As := [.ref mw, .ref m1]) (rest := []) ⟨hx, hb, hml, hown, hts⟩ (m_copies l D ct S ws_3 ph xx mw m1 f s1 _ hT hph hy1) (cm_S 2 hts kc_X11_copies ki_RX11 kl_RX11_205 ks_X11_copies kd_X11_copies ⟨Nat.le_of_ble_eq_true rfl, Nat.le_of_ble_eq_true rfl⟩) (ty_preS hP hK hD hS hA hX) rfl rfl hl.1 rfl (lv_room (Nat.le_of_ble_eq_true rfl)) dX11_saveSnapshot_29 ⟨Nat.le_of_ble_eq_true rfl, Nat.le_of_ble_eq_true rfl⟩) (fun u H locs hw_10 hP hD hS => ?_)
      obtain ⟨ws_11, h_12⟩ := u
      obtain ⟨hT, hp_13⟩ := hw_10
      have hp_13 : (q_copies f h_12) ∧ ∀ j : Nat, j < 958 → h_12 j = f j := hp_13
      obtain ⟨hq_14, hp_15⟩ := hp_13
      obtain ⟨hP, hD⟩ := ty_shPD (w2 := ([(rf_RW ct 0 m0 958 s0), (rf_RW ct 2 iz 2 k), (mu, .inl (ct 1, 42, .inr (.inl su))), (u0, .inl (ct 1, 42, .inr (.inl z0))), (u1, .inl (ct 1, 42, .inr (.inl z1))), (rf_MO mo mw ma mf m0 m1 mu mv u0 u1 iz th1_4 mb mn mpt mbg mwr mwk mlf men), (rf_RW ct 0 mw 958 f), (rf_RW ct 0 m1 958 h_12)] ++ ws_11)) hP hD rfl
      refine lv_aload_n hx hb dX11_saveSnapshot_32 rfl (lv_at hl 0 rfl) ?_
      refine va_get (v := .ref mu) (D := D) (ci := 11) (C := RX11) (T := TX11) (N := 19) hx hb hts in_X11 hown hK hP 5 rfl rfl 5 (by decide) (hts _ kl_RX11_25) (fun _ h9 => h9) rfl dX11_saveSnapshot_33 ?_
      refine lv_iload_n hx hb dX11_saveSnapshot_36 rfl (lv_at hl 1 rfl) ?_
      refine lv_if_ne (tgt := 47) hx hb dX11_saveSnapshot_37 (by decide) (fun hc_16 => ?_) (fun hc_16 => ?_)
      · refine lv_aload_n hx hb dX11_saveSnapshot_47 rfl (lv_at hl 0 rfl) ?_
        refine va_get (v := .ref u1) (D := D) (ci := 11) (C := RX11) (T := TX11) (N := 19) hx hb hts in_X11 hown hK hP 5 rfl rfl 8 (by decide) (hts _ kl_RX11_35) (fun _ h9 => h9) rfl dX11_saveSnapshot_48 ?_
        obtain ⟨hP, hD⟩ := ty_opPD (E1 := [(rf_RW ct 0 m0 958 s0), (rf_RW ct 2 iz 2 k), (u0, .inl (ct 1, 42, .inr (.inl z0))), (rf_MO mo mw ma mf m0 m1 mu mv u0 u1 iz th1_4 mb mn mpt mbg mwr mwk mlf men), (rf_RW ct 0 mw 958 f), (rf_RW ct 0 m1 958 h_12)]) (E2 := [(mu, .inl (ct 1, 42, .inr (.inl su))), (u1, .inl (ct 1, 42, .inr (.inl z1)))]) (n := 8) [0, 1, 3, 5, 6, 7, 2, 4] hP hD rfl rfl (by decide +kernel) ty_mva
        refine ty_Kv hP hD hS hA (va_runS (As := [.ref mu, .ref u1]) (rest := []) ⟨hx, hb, hml, hown, hts⟩ (m_copiesSums l D ct S ws_11 ph xx mu u1 su z1 _ hT hph hy1 hy11) (cm_S 2 hts kc_X11_copiesSums ki_RX11 kl_RX11_375 ks_X11_copiesSums kd_X11_copiesSums ⟨Nat.le_of_ble_eq_true rfl, Nat.le_of_ble_eq_true rfl⟩) (ty_preS hP hK hD hS hA hX) rfl rfl hl.1 rfl (lv_room (Nat.le_of_ble_eq_true rfl)) dX11_saveSnapshot_51 ⟨Nat.le_of_ble_eq_true rfl, Nat.le_of_ble_eq_true rfl⟩) (fun u H locs hw_18 hP hD hS => ?_)
        obtain ⟨ws_19, sh_20⟩ := u
        obtain ⟨hT, hp_21⟩ := hw_18
        have hp_21 : q_cs su sh_20 := hp_21
        obtain ⟨hP, hD⟩ := ty_shPD (w2 := ([(rf_RW ct 0 m0 958 s0), (rf_RW ct 2 iz 2 k), (u0, .inl (ct 1, 42, .inr (.inl z0))), (rf_MO mo mw ma mf m0 m1 mu mv u0 u1 iz th1_4 mb mn mpt mbg mwr mwk mlf men), (rf_RW ct 0 mw 958 f), (rf_RW ct 0 m1 958 h_12), (mu, .inl (ct 1, 42, .inr (.inl su))), (u1, .inl (ct 1, 42, .inr (.inl sh_20)))] ++ ws_19)) hP hD rfl
        refine lv_aload_n hx hb dX11_saveSnapshot_54 rfl (lv_at hl 0 rfl) ?_
        refine va_get (v := .ref iz) (D := D) (ci := 11) (C := RX11) (T := TX11) (N := 19) hx hb hts in_X11 hown hK hP 3 rfl rfl 9 (by decide) (hts _ kl_RX11_38) (fun _ h9 => h9) rfl dX11_saveSnapshot_55 ?_
        refine lv_iload_n hx hb dX11_saveSnapshot_58 rfl (lv_at hl 1 rfl) ?_
        refine lv_iconst (v := 1) hx hb dX11_saveSnapshot_59 (by decide) ?_
        refine va_zast hx hb hK hP hD hS 1 2 rfl rfl (rf_i2s hz_6.1) dX11_saveSnapshot_60 (fun H locs hP hD hS => ?_)
        have hP : va_P D vwCl ([(rf_RW ct 0 m0 958 s0), (rf_RW ct 2 iz 2 (upd k p1.toNatClampNeg (vp_nar .boolean 1))), (u0, .inl (ct 1, 42, .inr (.inl z0))), (rf_MO mo mw ma mf m0 m1 mu mv u0 u1 iz th1_4 mb mn mpt mbg mwr mwk mlf men), (rf_RW ct 0 mw 958 f), (rf_RW ct 0 m1 958 h_12), (mu, .inl (ct 1, 42, .inr (.inl su))), (u1, .inl (ct 1, 42, .inr (.inl sh_20)))] ++ ws_19) H := hP
        have hD : va_D A ([(rf_RW ct 0 m0 958 s0), (rf_RW ct 2 iz 2 (upd k p1.toNatClampNeg (vp_nar .boolean 1))), (u0, .inl (ct 1, 42, .inr (.inl z0))), (rf_MO mo mw ma mf m0 m1 mu mv u0 u1 iz th1_4 mb mn mpt mbg mwr mwk mlf men), (rf_RW ct 0 mw 958 f), (rf_RW ct 0 m1 958 h_12), (mu, .inl (ct 1, 42, .inr (.inl su))), (u1, .inl (ct 1, 42, .inr (.inl sh_20)))] ++ ws_19) := hD
        refine lv_aload_n hx hb dX11_saveSnapshot_61 rfl (lv_at hl 0 rfl) ?_
        refine va_get (v := .ref mw) (D := D) (ci := 11) (C := RX11) (T := TX11) (N := 19) hx hb hts in_X11 hown hK hP 3 rfl rfl 0 (by decide) (hts _ kl_RX11_9) (fun _ h9 => h9) rfl dX11_saveSnapshot_62 ?_
        refine lv_bipush (v := 8) hx hb dX11_saveSnapshot_65 (by decide) ?_
        refine va_iald hx hb hK hP 4 0 rfl rfl (cm_vin (by decide)) dX11_saveSnapshot_67 ?_
        refine cm_cst (y := (f 8)) (by first | rfl | decide +kernel) ?_
        obtain ⟨hP, hD⟩ := ty_ordPD (E2 := [(rf_MO mo mw ma mf m0 m1 mu mv u0 u1 iz th1_4 mb mn mpt mbg mwr mwk mlf men), (rf_RW ct 0 mw 958 f), (rf_RW ct 0 m0 958 s0), (rf_RW ct 0 m1 958 h_12), (rf_RW ct 2 iz 2 (upd k p1.toNatClampNeg (vp_nar .boolean 1))), (mu, .inl (ct 1, 42, .inr (.inl su))), (u0, .inl (ct 1, 42, .inr (.inl z0))), (u1, .inl (ct 1, 42, .inr (.inl sh_20)))]) (n := 8) [3, 4, 0, 5, 1, 6, 2, 7] hP hD rfl rfl (by decide +kernel)
        exact W.iret (v := (f 8)) hx hb hr (fun t ht hW => ⟨⟨(f 8), (ws_19, th1_4, s0, h_12, (upd k p1.toNatClampNeg (vp_nar .boolean 1)), z0, sh_20), rfl, ⟨hT, ⟨⟨rf_sv1 hz_6.1 hc_8 hs0, Or.inr (rf_Ec hE hp_15)⟩, q_svB hz_6.1 hc_8 hp_15 hp_21 hz_6.2⟩⟩, by rw [ht]; exact hP, by rw [hAe]; exact hD⟩, hS.F ht⟩) hS.2.2 dX11_saveSnapshot_68
      · refine lv_aload_n hx hb dX11_saveSnapshot_40 rfl (lv_at hl 0 rfl) ?_
        refine va_get (v := .ref u0) (D := D) (ci := 11) (C := RX11) (T := TX11) (N := 19) hx hb hts in_X11 hown hK hP 5 rfl rfl 7 (by decide) (hts _ kl_RX11_32) (fun _ h9 => h9) rfl dX11_saveSnapshot_41 ?_
        refine lv_goto (tgt := 51) hx hb dX11_saveSnapshot_44 (by decide) ?_
        obtain ⟨hP, hD⟩ := ty_opPD (E1 := [(rf_RW ct 0 m0 958 s0), (rf_RW ct 2 iz 2 k), (u1, .inl (ct 1, 42, .inr (.inl z1))), (rf_MO mo mw ma mf m0 m1 mu mv u0 u1 iz th1_4 mb mn mpt mbg mwr mwk mlf men), (rf_RW ct 0 mw 958 f), (rf_RW ct 0 m1 958 h_12)]) (E2 := [(mu, .inl (ct 1, 42, .inr (.inl su))), (u0, .inl (ct 1, 42, .inr (.inl z0)))]) (n := 8) [0, 1, 4, 5, 6, 7, 2, 3] hP hD rfl rfl (by decide +kernel) ty_mva
        refine ty_Kv hP hD hS hA (va_runS (As := [.ref mu, .ref u0]) (rest := []) ⟨hx, hb, hml, hown, hts⟩ (m_copiesSums l D ct S ws_11 ph xx mu u0 su z0 _ hT hph hy1 hy11) (cm_S 2 hts kc_X11_copiesSums ki_RX11 kl_RX11_375 ks_X11_copiesSums kd_X11_copiesSums ⟨Nat.le_of_ble_eq_true rfl, Nat.le_of_ble_eq_true rfl⟩) (ty_preS hP hK hD hS hA hX) rfl rfl hl.1 rfl (lv_room (Nat.le_of_ble_eq_true rfl)) dX11_saveSnapshot_51 ⟨Nat.le_of_ble_eq_true rfl, Nat.le_of_ble_eq_true rfl⟩) (fun u H locs hw_23 hP hD hS => ?_)
        obtain ⟨ws_24, sh_25⟩ := u
        obtain ⟨hT, hp_26⟩ := hw_23
        have hp_26 : q_cs su sh_25 := hp_26
        obtain ⟨hP, hD⟩ := ty_shPD (w2 := ([(rf_RW ct 0 m0 958 s0), (rf_RW ct 2 iz 2 k), (u1, .inl (ct 1, 42, .inr (.inl z1))), (rf_MO mo mw ma mf m0 m1 mu mv u0 u1 iz th1_4 mb mn mpt mbg mwr mwk mlf men), (rf_RW ct 0 mw 958 f), (rf_RW ct 0 m1 958 h_12), (mu, .inl (ct 1, 42, .inr (.inl su))), (u0, .inl (ct 1, 42, .inr (.inl sh_25)))] ++ ws_24)) hP hD rfl
        refine lv_aload_n hx hb dX11_saveSnapshot_54 rfl (lv_at hl 0 rfl) ?_
        refine va_get (v := .ref iz) (D := D) (ci := 11) (C := RX11) (T := TX11) (N := 19) hx hb hts in_X11 hown hK hP 3 rfl rfl 9 (by decide) (hts _ kl_RX11_38) (fun _ h9 => h9) rfl dX11_saveSnapshot_55 ?_
        refine lv_iload_n hx hb dX11_saveSnapshot_58 rfl (lv_at hl 1 rfl) ?_
        refine lv_iconst (v := 1) hx hb dX11_saveSnapshot_59 (by decide) ?_
        refine va_zast hx hb hK hP hD hS 1 2 rfl rfl (rf_i2s hz_6.1) dX11_saveSnapshot_60 (fun H locs hP hD hS => ?_)
        have hP : va_P D vwCl ([(rf_RW ct 0 m0 958 s0), (rf_RW ct 2 iz 2 (upd k p1.toNatClampNeg (vp_nar .boolean 1))), (u1, .inl (ct 1, 42, .inr (.inl z1))), (rf_MO mo mw ma mf m0 m1 mu mv u0 u1 iz th1_4 mb mn mpt mbg mwr mwk mlf men), (rf_RW ct 0 mw 958 f), (rf_RW ct 0 m1 958 h_12), (mu, .inl (ct 1, 42, .inr (.inl su))), (u0, .inl (ct 1, 42, .inr (.inl sh_25)))] ++ ws_24) H := hP
        have hD : va_D A ([(rf_RW ct 0 m0 958 s0), (rf_RW ct 2 iz 2 (upd k p1.toNatClampNeg (vp_nar .boolean 1))), (u1, .inl (ct 1, 42, .inr (.inl z1))), (rf_MO mo mw ma mf m0 m1 mu mv u0 u1 iz th1_4 mb mn mpt mbg mwr mwk mlf men), (rf_RW ct 0 mw 958 f), (rf_RW ct 0 m1 958 h_12), (mu, .inl (ct 1, 42, .inr (.inl su))), (u0, .inl (ct 1, 42, .inr (.inl sh_25)))] ++ ws_24) := hD
        refine lv_aload_n hx hb dX11_saveSnapshot_61 rfl (lv_at hl 0 rfl) ?_
        refine va_get (v := .ref mw) (D := D) (ci := 11) (C := RX11) (T := TX11) (N := 19) hx hb hts in_X11 hown hK hP 3 rfl rfl 0 (by decide) (hts _ kl_RX11_9) (fun _ h9 => h9) rfl dX11_saveSnapshot_62 ?_
        refine lv_bipush (v := 8) hx hb dX11_saveSnapshot_65 (by decide) ?_
        refine va_iald hx hb hK hP 4 0 rfl rfl (cm_vin (by decide)) dX11_saveSnapshot_67 ?_
        refine cm_cst (y := (f 8)) (by first | rfl | decide +kernel) ?_
        obtain ⟨hP, hD⟩ := ty_ordPD (E2 := [(rf_MO mo mw ma mf m0 m1 mu mv u0 u1 iz th1_4 mb mn mpt mbg mwr mwk mlf men), (rf_RW ct 0 mw 958 f), (rf_RW ct 0 m0 958 s0), (rf_RW ct 0 m1 958 h_12), (rf_RW ct 2 iz 2 (upd k p1.toNatClampNeg (vp_nar .boolean 1))), (mu, .inl (ct 1, 42, .inr (.inl su))), (u0, .inl (ct 1, 42, .inr (.inl sh_25))), (u1, .inl (ct 1, 42, .inr (.inl z1)))]) (n := 8) [3, 4, 0, 5, 1, 6, 7, 2] hP hD rfl rfl (by decide +kernel)
        exact W.iret (v := (f 8)) hx hb hr (fun t ht hW => ⟨⟨(f 8), (ws_24, th1_4, s0, h_12, (upd k p1.toNatClampNeg (vp_nar .boolean 1)), sh_25, z1), rfl, ⟨hT, (absurd hc_16 hc_8)⟩, by rw [ht]; exact hP, by rw [hAe]; exact hD⟩, hS.F ht⟩) hS.2.2 dX11_saveSnapshot_68
    · refine lv_aload_n hx hb dX11_saveSnapshot_18 rfl (lv_at hl 0 rfl) ?_
      refine va_get (v := .ref m0) (D := D) (ci := 11) (C := RX11) (T := TX11) (N := 19) hx hb hts in_X11 hown hK hP 7 rfl rfl 3 (by decide) (hts _ kl_RX11_19) (fun _ h9 => h9) rfl dX11_saveSnapshot_19 ?_
      refine lv_goto (tgt := 29) hx hb dX11_saveSnapshot_22 (by decide) ?_
      obtain ⟨hP, hD⟩ := ty_opPD (E1 := [(rf_RW ct 0 m1 958 s1), (rf_RW ct 2 iz 2 k), (mu, .inl (ct 1, 42, .inr (.inl su))), (u0, .inl (ct 1, 42, .inr (.inl z0))), (u1, .inl (ct 1, 42, .inr (.inl z1))), (rf_MO mo mw ma mf m0 m1 mu mv u0 u1 iz th1_4 mb mn mpt mbg mwr mwk mlf men)]) (E2 := [(rf_RW ct 0 mw 958 f), (rf_RW ct 0 m0 958 s0)]) (n := 8) [2, 3, 4, 5, 6, 7, 0, 1] hP hD rfl rfl (by decide +kernel) ty_mva
      refine ty_Kv hP hD hS hA (va_runS (As := [.ref mw, .ref m0]) (rest := []) ⟨hx, hb, hml, hown, hts⟩ (m_copies l D ct S ws_3 ph xx mw m0 f s0 _ hT hph hy1) (cm_S 2 hts kc_X11_copies ki_RX11 kl_RX11_205 ks_X11_copies kd_X11_copies ⟨Nat.le_of_ble_eq_true rfl, Nat.le_of_ble_eq_true rfl⟩) (ty_preS hP hK hD hS hA hX) rfl rfl hl.1 rfl (lv_room (Nat.le_of_ble_eq_true rfl)) dX11_saveSnapshot_29 ⟨Nat.le_of_ble_eq_true rfl, Nat.le_of_ble_eq_true rfl⟩) (fun u H locs hw_28 hP hD hS => ?_)
      obtain ⟨ws_29, h_30⟩ := u
      obtain ⟨hT, hp_31⟩ := hw_28
      have hp_31 : (q_copies f h_30) ∧ ∀ j : Nat, j < 958 → h_30 j = f j := hp_31
      obtain ⟨hq_32, hp_33⟩ := hp_31
      obtain ⟨hP, hD⟩ := ty_shPD (w2 := ([(rf_RW ct 0 m1 958 s1), (rf_RW ct 2 iz 2 k), (mu, .inl (ct 1, 42, .inr (.inl su))), (u0, .inl (ct 1, 42, .inr (.inl z0))), (u1, .inl (ct 1, 42, .inr (.inl z1))), (rf_MO mo mw ma mf m0 m1 mu mv u0 u1 iz th1_4 mb mn mpt mbg mwr mwk mlf men), (rf_RW ct 0 mw 958 f), (rf_RW ct 0 m0 958 h_30)] ++ ws_29)) hP hD rfl
      refine lv_aload_n hx hb dX11_saveSnapshot_32 rfl (lv_at hl 0 rfl) ?_
      refine va_get (v := .ref mu) (D := D) (ci := 11) (C := RX11) (T := TX11) (N := 19) hx hb hts in_X11 hown hK hP 5 rfl rfl 5 (by decide) (hts _ kl_RX11_25) (fun _ h9 => h9) rfl dX11_saveSnapshot_33 ?_
      refine lv_iload_n hx hb dX11_saveSnapshot_36 rfl (lv_at hl 1 rfl) ?_
      refine lv_if_ne (tgt := 47) hx hb dX11_saveSnapshot_37 (by decide) (fun hc_34 => ?_) (fun hc_34 => ?_)
      · refine lv_aload_n hx hb dX11_saveSnapshot_47 rfl (lv_at hl 0 rfl) ?_
        refine va_get (v := .ref u1) (D := D) (ci := 11) (C := RX11) (T := TX11) (N := 19) hx hb hts in_X11 hown hK hP 5 rfl rfl 8 (by decide) (hts _ kl_RX11_35) (fun _ h9 => h9) rfl dX11_saveSnapshot_48 ?_
        obtain ⟨hP, hD⟩ := ty_opPD (E1 := [(rf_RW ct 0 m1 958 s1), (rf_RW ct 2 iz 2 k), (u0, .inl (ct 1, 42, .inr (.inl z0))), (rf_MO mo mw ma mf m0 m1 mu mv u0 u1 iz th1_4 mb mn mpt mbg mwr mwk mlf men), (rf_RW ct 0 mw 958 f), (rf_RW ct 0 m0 958 h_30)]) (E2 := [(mu, .inl (ct 1, 42, .inr (.inl su))), (u1, .inl (ct 1, 42, .inr (.inl z1)))]) (n := 8) [0, 1, 3, 5, 6, 7, 2, 4] hP hD rfl rfl (by decide +kernel) ty_mva
        refine ty_Kv hP hD hS hA (va_runS (As := [.ref mu, .ref u1]) (rest := []) ⟨hx, hb, hml, hown, hts⟩ (m_copiesSums l D ct S ws_29 ph xx mu u1 su z1 _ hT hph hy1 hy11) (cm_S 2 hts kc_X11_copiesSums ki_RX11 kl_RX11_375 ks_X11_copiesSums kd_X11_copiesSums ⟨Nat.le_of_ble_eq_true rfl, Nat.le_of_ble_eq_true rfl⟩) (ty_preS hP hK hD hS hA hX) rfl rfl hl.1 rfl (lv_room (Nat.le_of_ble_eq_true rfl)) dX11_saveSnapshot_51 ⟨Nat.le_of_ble_eq_true rfl, Nat.le_of_ble_eq_true rfl⟩) (fun u H locs hw_36 hP hD hS => ?_)
        obtain ⟨ws_37, sh_38⟩ := u
        obtain ⟨hT, hp_39⟩ := hw_36
        have hp_39 : q_cs su sh_38 := hp_39
        obtain ⟨hP, hD⟩ := ty_shPD (w2 := ([(rf_RW ct 0 m1 958 s1), (rf_RW ct 2 iz 2 k), (u0, .inl (ct 1, 42, .inr (.inl z0))), (rf_MO mo mw ma mf m0 m1 mu mv u0 u1 iz th1_4 mb mn mpt mbg mwr mwk mlf men), (rf_RW ct 0 mw 958 f), (rf_RW ct 0 m0 958 h_30), (mu, .inl (ct 1, 42, .inr (.inl su))), (u1, .inl (ct 1, 42, .inr (.inl sh_38)))] ++ ws_37)) hP hD rfl
        refine lv_aload_n hx hb dX11_saveSnapshot_54 rfl (lv_at hl 0 rfl) ?_
        refine va_get (v := .ref iz) (D := D) (ci := 11) (C := RX11) (T := TX11) (N := 19) hx hb hts in_X11 hown hK hP 3 rfl rfl 9 (by decide) (hts _ kl_RX11_38) (fun _ h9 => h9) rfl dX11_saveSnapshot_55 ?_
        refine lv_iload_n hx hb dX11_saveSnapshot_58 rfl (lv_at hl 1 rfl) ?_
        refine lv_iconst (v := 1) hx hb dX11_saveSnapshot_59 (by decide) ?_
        refine va_zast hx hb hK hP hD hS 1 2 rfl rfl (rf_i2s hz_6.1) dX11_saveSnapshot_60 (fun H locs hP hD hS => ?_)
        have hP : va_P D vwCl ([(rf_RW ct 0 m1 958 s1), (rf_RW ct 2 iz 2 (upd k p1.toNatClampNeg (vp_nar .boolean 1))), (u0, .inl (ct 1, 42, .inr (.inl z0))), (rf_MO mo mw ma mf m0 m1 mu mv u0 u1 iz th1_4 mb mn mpt mbg mwr mwk mlf men), (rf_RW ct 0 mw 958 f), (rf_RW ct 0 m0 958 h_30), (mu, .inl (ct 1, 42, .inr (.inl su))), (u1, .inl (ct 1, 42, .inr (.inl sh_38)))] ++ ws_37) H := hP
        have hD : va_D A ([(rf_RW ct 0 m1 958 s1), (rf_RW ct 2 iz 2 (upd k p1.toNatClampNeg (vp_nar .boolean 1))), (u0, .inl (ct 1, 42, .inr (.inl z0))), (rf_MO mo mw ma mf m0 m1 mu mv u0 u1 iz th1_4 mb mn mpt mbg mwr mwk mlf men), (rf_RW ct 0 mw 958 f), (rf_RW ct 0 m0 958 h_30), (mu, .inl (ct 1, 42, .inr (.inl su))), (u1, .inl (ct 1, 42, .inr (.inl sh_38)))] ++ ws_37) := hD
        refine lv_aload_n hx hb dX11_saveSnapshot_61 rfl (lv_at hl 0 rfl) ?_
        refine va_get (v := .ref mw) (D := D) (ci := 11) (C := RX11) (T := TX11) (N := 19) hx hb hts in_X11 hown hK hP 3 rfl rfl 0 (by decide) (hts _ kl_RX11_9) (fun _ h9 => h9) rfl dX11_saveSnapshot_62 ?_
        refine lv_bipush (v := 8) hx hb dX11_saveSnapshot_65 (by decide) ?_
        refine va_iald hx hb hK hP 4 0 rfl rfl (cm_vin (by decide)) dX11_saveSnapshot_67 ?_
        refine cm_cst (y := (f 8)) (by first | rfl | decide +kernel) ?_
        obtain ⟨hP, hD⟩ := ty_ordPD (E2 := [(rf_MO mo mw ma mf m0 m1 mu mv u0 u1 iz th1_4 mb mn mpt mbg mwr mwk mlf men), (rf_RW ct 0 mw 958 f), (rf_RW ct 0 m0 958 h_30), (rf_RW ct 0 m1 958 s1), (rf_RW ct 2 iz 2 (upd k p1.toNatClampNeg (vp_nar .boolean 1))), (mu, .inl (ct 1, 42, .inr (.inl su))), (u0, .inl (ct 1, 42, .inr (.inl z0))), (u1, .inl (ct 1, 42, .inr (.inl sh_38)))]) (n := 8) [3, 4, 5, 0, 1, 6, 2, 7] hP hD rfl rfl (by decide +kernel)
        exact W.iret (v := (f 8)) hx hb hr (fun t ht hW => ⟨⟨(f 8), (ws_37, th1_4, h_30, s1, (upd k p1.toNatClampNeg (vp_nar .boolean 1)), z0, sh_38), rfl, ⟨hT, (absurd hc_8 hc_34)⟩, by rw [ht]; exact hP, by rw [hAe]; exact hD⟩, hS.F ht⟩) hS.2.2 dX11_saveSnapshot_68
      · refine lv_aload_n hx hb dX11_saveSnapshot_40 rfl (lv_at hl 0 rfl) ?_
        refine va_get (v := .ref u0) (D := D) (ci := 11) (C := RX11) (T := TX11) (N := 19) hx hb hts in_X11 hown hK hP 5 rfl rfl 7 (by decide) (hts _ kl_RX11_32) (fun _ h9 => h9) rfl dX11_saveSnapshot_41 ?_
        refine lv_goto (tgt := 51) hx hb dX11_saveSnapshot_44 (by decide) ?_
        obtain ⟨hP, hD⟩ := ty_opPD (E1 := [(rf_RW ct 0 m1 958 s1), (rf_RW ct 2 iz 2 k), (u1, .inl (ct 1, 42, .inr (.inl z1))), (rf_MO mo mw ma mf m0 m1 mu mv u0 u1 iz th1_4 mb mn mpt mbg mwr mwk mlf men), (rf_RW ct 0 mw 958 f), (rf_RW ct 0 m0 958 h_30)]) (E2 := [(mu, .inl (ct 1, 42, .inr (.inl su))), (u0, .inl (ct 1, 42, .inr (.inl z0)))]) (n := 8) [0, 1, 4, 5, 6, 7, 2, 3] hP hD rfl rfl (by decide +kernel) ty_mva
        refine ty_Kv hP hD hS hA (va_runS (As := [.ref mu, .ref u0]) (rest := []) ⟨hx, hb, hml, hown, hts⟩ (m_copiesSums l D ct S ws_29 ph xx mu u0 su z0 _ hT hph hy1 hy11) (cm_S 2 hts kc_X11_copiesSums ki_RX11 kl_RX11_375 ks_X11_copiesSums kd_X11_copiesSums ⟨Nat.le_of_ble_eq_true rfl, Nat.le_of_ble_eq_true rfl⟩) (ty_preS hP hK hD hS hA hX) rfl rfl hl.1 rfl (lv_room (Nat.le_of_ble_eq_true rfl)) dX11_saveSnapshot_51 ⟨Nat.le_of_ble_eq_true rfl, Nat.le_of_ble_eq_true rfl⟩) (fun u H locs hw_41 hP hD hS => ?_)
        obtain ⟨ws_42, sh_43⟩ := u
        obtain ⟨hT, hp_44⟩ := hw_41
        have hp_44 : q_cs su sh_43 := hp_44
        obtain ⟨hP, hD⟩ := ty_shPD (w2 := ([(rf_RW ct 0 m1 958 s1), (rf_RW ct 2 iz 2 k), (u1, .inl (ct 1, 42, .inr (.inl z1))), (rf_MO mo mw ma mf m0 m1 mu mv u0 u1 iz th1_4 mb mn mpt mbg mwr mwk mlf men), (rf_RW ct 0 mw 958 f), (rf_RW ct 0 m0 958 h_30), (mu, .inl (ct 1, 42, .inr (.inl su))), (u0, .inl (ct 1, 42, .inr (.inl sh_43)))] ++ ws_42)) hP hD rfl
        refine lv_aload_n hx hb dX11_saveSnapshot_54 rfl (lv_at hl 0 rfl) ?_
        refine va_get (v := .ref iz) (D := D) (ci := 11) (C := RX11) (T := TX11) (N := 19) hx hb hts in_X11 hown hK hP 3 rfl rfl 9 (by decide) (hts _ kl_RX11_38) (fun _ h9 => h9) rfl dX11_saveSnapshot_55 ?_
        refine lv_iload_n hx hb dX11_saveSnapshot_58 rfl (lv_at hl 1 rfl) ?_
        refine lv_iconst (v := 1) hx hb dX11_saveSnapshot_59 (by decide) ?_
        refine va_zast hx hb hK hP hD hS 1 2 rfl rfl (rf_i2s hz_6.1) dX11_saveSnapshot_60 (fun H locs hP hD hS => ?_)
        have hP : va_P D vwCl ([(rf_RW ct 0 m1 958 s1), (rf_RW ct 2 iz 2 (upd k p1.toNatClampNeg (vp_nar .boolean 1))), (u1, .inl (ct 1, 42, .inr (.inl z1))), (rf_MO mo mw ma mf m0 m1 mu mv u0 u1 iz th1_4 mb mn mpt mbg mwr mwk mlf men), (rf_RW ct 0 mw 958 f), (rf_RW ct 0 m0 958 h_30), (mu, .inl (ct 1, 42, .inr (.inl su))), (u0, .inl (ct 1, 42, .inr (.inl sh_43)))] ++ ws_42) H := hP
        have hD : va_D A ([(rf_RW ct 0 m1 958 s1), (rf_RW ct 2 iz 2 (upd k p1.toNatClampNeg (vp_nar .boolean 1))), (u1, .inl (ct 1, 42, .inr (.inl z1))), (rf_MO mo mw ma mf m0 m1 mu mv u0 u1 iz th1_4 mb mn mpt mbg mwr mwk mlf men), (rf_RW ct 0 mw 958 f), (rf_RW ct 0 m0 958 h_30), (mu, .inl (ct 1, 42, .inr (.inl su))), (u0, .inl (ct 1, 42, .inr (.inl sh_43)))] ++ ws_42) := hD
        refine lv_aload_n hx hb dX11_saveSnapshot_61 rfl (lv_at hl 0 rfl) ?_
        refine va_get (v := .ref mw) (D := D) (ci := 11) (C := RX11) (T := TX11) (N := 19) hx hb hts in_X11 hown hK hP 3 rfl rfl 0 (by decide) (hts _ kl_RX11_9) (fun _ h9 => h9) rfl dX11_saveSnapshot_62 ?_
        refine lv_bipush (v := 8) hx hb dX11_saveSnapshot_65 (by decide) ?_
        refine va_iald hx hb hK hP 4 0 rfl rfl (cm_vin (by decide)) dX11_saveSnapshot_67 ?_
        refine cm_cst (y := (f 8)) (by first | rfl | decide +kernel) ?_
        obtain ⟨hP, hD⟩ := ty_ordPD (E2 := [(rf_MO mo mw ma mf m0 m1 mu mv u0 u1 iz th1_4 mb mn mpt mbg mwr mwk mlf men), (rf_RW ct 0 mw 958 f), (rf_RW ct 0 m0 958 h_30), (rf_RW ct 0 m1 958 s1), (rf_RW ct 2 iz 2 (upd k p1.toNatClampNeg (vp_nar .boolean 1))), (mu, .inl (ct 1, 42, .inr (.inl su))), (u0, .inl (ct 1, 42, .inr (.inl sh_43))), (u1, .inl (ct 1, 42, .inr (.inl z1)))]) (n := 8) [3, 4, 5, 0, 1, 6, 7, 2] hP hD rfl rfl (by decide +kernel)
        exact W.iret (v := (f 8)) hx hb hr (fun t ht hW => ⟨⟨(f 8), (ws_42, th1_4, h_30, s1, (upd k p1.toNatClampNeg (vp_nar .boolean 1)), sh_43, z1), rfl, ⟨hT, ⟨⟨Or.inr (rf_Ec hE hp_33), rf_sv0 hc_8 hs1⟩, q_svA hc_8 hp_33 hp_44 hz_6.2⟩⟩, by rw [ht]; exact hP, by rw [hAe]; exact hD⟩, hS.F ht⟩) hS.2.2 dX11_saveSnapshot_68
  · refine lv_if_eq (tgt := 10) hx hb dX11_saveSnapshot_5 (by decide) (fun hc => absurd hc (by decide)) (fun _ => ?_)
    refine lv_iconst (v := 0) hx hb dX11_saveSnapshot_8 (by decide) ?_
    obtain ⟨hP, hD⟩ := ty_ordPD (E2 := [(rf_MO mo mw ma mf m0 m1 mu mv u0 u1 iz th1_4 mb mn mpt mbg mwr mwk mlf men), (rf_RW ct 0 mw 958 f), (rf_RW ct 0 m0 958 s0), (rf_RW ct 0 m1 958 s1), (rf_RW ct 2 iz 2 k), (mu, .inl (ct 1, 42, .inr (.inl su))), (u0, .inl (ct 1, 42, .inr (.inl z0))), (u1, .inl (ct 1, 42, .inr (.inl z1)))]) (n := 8) [7, 0, 1, 2, 3, 4, 5, 6] hP hD rfl rfl (by decide +kernel)
    exact W.iret (v := 0) hx hb hr (fun t ht hW => ⟨⟨0, (ws_3, th1_4, s0, s1, k, z0, z1), rfl, ⟨hT, ⟨⟨hs0, hs1⟩, Or.inl ⟨hz_7.1, rfl, rfl, rfl, rfl, rfl, hz_7.2⟩⟩⟩, by rw [ht]; exact hP, by rw [hAe]; exact hD⟩, hS.F ht⟩) hS.2.2 dX11_saveSnapshot_9
set_option maxRecDepth 100000 in
set_option maxHeartbeats 4000000 in
theorem m_restoreSnapshot (l : Launch) (D : va_G) (ct : Nat → ClassId) (S : ty_S) (ws : va_W) (ph : va_W → Prop) (xx : Nat → Nat → Nat → Prop) (mo : Nat) (mw : Nat) (ma : Nat) (mf : Nat) (m0 : Nat) (m1 : Nat) (mu : Nat) (mv : Nat) (u0 : Nat) (u1 : Nat) (iz : Nat) (mb : Nat) (th : Int32) (mn : Int32) (mpt : Int32) (mbg : Int32) (mwr : Int32) (mwk : Int32) (mlf : Int32) (men : Int32) (f : Nat → Int32) (s0 : Nat → Int32) (s1 : Nat → Int32) (k : Nat → Int32) (su : Nat → Int64) (z0 : Nat → Int64) (z1 : Nat → Int64) (p1 : Int32) (sz : Nat) (hT : ty_V ct S ph ws) (hph : ty_C ph xx) (hy1 : ty_y1 xx) (hy11 : ty_y0 xx 11) (hE : rf_E f) (hs0 : k 0 = 0 ∨ rf_E s0) (hs1 : k 1 = 0 ∨ rf_E s1) : Met l yX11_restoreSnapshot (ws_ yX11_restoreSnapshot cX11_restoreSnapshot 2 (some .int)) ({ frames := 2, cells := 0, slots := 0, locals := 46 } : Room) (va_Pc [.ref mo, .int p1] (cmP D ct sz ([(rf_MO mo mw ma mf m0 m1 mu mv u0 u1 iz th mb mn mpt mbg mwr mwk mlf men), (rf_RW ct 0 mw 958 f), (rf_RW ct 0 m0 958 s0), (rf_RW ct 0 m1 958 s1), (rf_RW ct 2 iz 2 k), (mu, .inl (ct 1, 42, .inr (.inl su))), (u0, .inl (ct 1, 42, .inr (.inl z0))), (u1, .inl (ct 1, 42, .inr (.inl z1)))] ++ ws))) (va_Qi (fun (r : Int32) (u : va_W × Int32 × (Nat → Int32) × (Nat → Int64)) => match u with | (u9, th1, f1, su1) => ty_V ct S ph u9 ∧ rf_E f1 ∧ q_rs p1 k s0 s1 f f1 z0 z1 su su1 r th1) (cmB D ([(rf_MO mo mw ma mf m0 m1 mu mv u0 u1 iz th mb mn mpt mbg mwr mwk mlf men), (rf_RW ct 0 mw 958 f), (rf_RW ct 0 m0 958 s0), (rf_RW ct 0 m1 958 s1), (rf_RW ct 2 iz 2 k), (mu, .inl (ct 1, 42, .inr (.inl su))), (u0, .inl (ct 1, 42, .inr (.inl z0))), (u1, .inl (ct 1, 42, .inr (.inl z1)))] ++ ws) sz (fun (u : va_W × Int32 × (Nat → Int32) × (Nat → Int64)) => match u with | (u9, th1, f1, su1) => ([(rf_MO mo mw ma mf m0 m1 mu mv u0 u1 iz th1 mb mn mpt mbg mwr mwk mlf men), (rf_RW ct 0 mw 958 f1), (rf_RW ct 0 m0 958 s0), (rf_RW ct 0 m1 958 s1), (rf_RW ct 2 iz 2 k), (mu, .inl (ct 1, 42, .inr (.inl su1))), (u0, .inl (ct 1, 42, .inr (.inl z0))), (u1, .inl (ct 1, 42, .inr (.inl z1)))] ++ u9))) (va_A ([(rf_MO mo mw ma mf m0 m1 mu mv u0 u1 iz th mb mn mpt mbg mwr mwk mlf men), (rf_RW ct 0 mw 958 f), (rf_RW ct 0 m0 958 s0), (rf_RW ct 0 m1 958 s1), (rf_RW ct 2 iz 2 k), (mu, .inl (ct 1, 42, .inr (.inl su))), (u0, .inl (ct 1, 42, .inr (.inl z0))), (u1, .inl (ct 1, 42, .inr (.inl z1)))] ++ ws) sz)) 0 0 (va_A ([(rf_MO mo mw ma mf m0 m1 mu mv u0 u1 iz th mb mn mpt mbg mwr mwk mlf men), (rf_RW ct 0 mw 958 f), (rf_RW ct 0 m0 958 s0), (rf_RW ct 0 m1 958 s1), (rf_RW ct 2 iz 2 k), (mu, .inl (ct 1, 42, .inr (.inl su))), (u0, .inl (ct 1, 42, .inr (.inl z0))), (u1, .inl (ct 1, 42, .inr (.inl z1)))] ++ ws) sz) := by
  refine Met.ofW (cc := cX11_restoreSnapshot) (maxL := 2) (ret := (some .int)) (by decide) rfl ?_
  intro p e s m args below meth c s₁ B hml hv
  obtain ⟨rfl, hsz, hP, hK, hD0, hX⟩ := hv
  have hx := B.exec
  have hb := B.bytes
  have hr := B.returns
  have hts := ws_all (atoms_spec (ws := ws_ yX11_restoreSnapshot cX11_restoreSnapshot 2 (some .int)) B.pre)
  have hown : s.vm.findClass RX11 = some m.cls := findClass_of_methodNamed B.named
  have hlocks := B.notSynchronized
  subst hsz
  have hD := hD0.self (sz := s.heap.size)
  generalize hAe : va_A ([(rf_MO mo mw ma mf m0 m1 mu mv u0 u1 iz th mb mn mpt mbg mwr mwk mlf men), (rf_RW ct 0 mw 958 f), (rf_RW ct 0 m0 958 s0), (rf_RW ct 0 m1 958 s1), (rf_RW ct 2 iz 2 k), (mu, .inl (ct 1, 42, .inr (.inl su))), (u0, .inl (ct 1, 42, .inr (.inl z0))), (u1, .inl (ct 1, 42, .inr (.inl z1)))] ++ ws) s.heap.size = A at hD hX ⊢
  have hA : ∀ q : Nat, s.heap.size ≤ q → A q := fun q h => by rw [← hAe]; exact Or.inr h
  have hS : va_S A s.heap s.heap [] := va_S.rf
  have hl := lv_entry ([.ref mo, .int p1]) (n := 2) (Nat.le_of_ble_eq_true rfl)
  rw [lg_entry_eq]
  generalize (lg_sl ([.ref mo, .int p1]) ++ List.replicate (2 - (lg_sl ([.ref mo, .int p1])).length) Slot.unset).toArray = ls at hl ⊢
  have hl : lv_has ls 2 [(0, .ref mo), (1, .int p1)] := hl
  refine lv_aload_n hx hb dX11_restoreSnapshot_0 rfl (lv_at hl 0 rfl) ?_
  refine lv_iload_n hx hb dX11_restoreSnapshot_1 rfl (lv_at hl 1 rfl) ?_
  obtain ⟨hP, hD⟩ := ty_opPD (E1 := [(rf_RW ct 0 mw 958 f), (rf_RW ct 0 m0 958 s0), (rf_RW ct 0 m1 958 s1), (rf_RW ct 2 iz 2 k), (mu, .inl (ct 1, 42, .inr (.inl su))), (u0, .inl (ct 1, 42, .inr (.inl z0))), (u1, .inl (ct 1, 42, .inr (.inl z1)))]) (E2 := [(rf_MO mo mw ma mf m0 m1 mu mv u0 u1 iz th mb mn mpt mbg mwr mwk mlf men)]) (n := 8) [1, 2, 3, 4, 5, 6, 7, 0] hP hD rfl rfl (by decide +kernel) ty_mva
  refine ty_Ki hP hD hS hA (va_runV (As := [.int p1]) (rest := []) ⟨hx, hb, hml, hown, hts⟩ (m_noSlot l D ct S ws ph xx mo mw ma mf m0 m1 mu mv u0 u1 iz mb th mn mpt mbg mwr mwk mlf men p1 _ hT hph hy1) (cm_V 1 hts kc_X11_noSlot ki_RX11 kl_RX11_402 kv_X11_noSlot kx_X11_noSlot kd_X11_noSlot ⟨Nat.le_of_ble_eq_true rfl, Nat.le_of_ble_eq_true rfl⟩) (ty_preE (ci := 11) (q0 := 7) hP hK hD hS hA hX rfl rfl) rfl rfl hl.1 rfl (lv_room (Nat.le_of_ble_eq_true rfl)) dX11_restoreSnapshot_2 ⟨Nat.le_of_ble_eq_true rfl, Nat.le_of_ble_eq_true rfl⟩) (fun r_1 u H locs hw_2 hP hD hS => ?_)
  obtain ⟨ws_3, th1_4⟩ := u
  obtain ⟨hT, hp_5⟩ := hw_2
  have hp_5 : ((r_1 = 0 ∧ (p1 = 0 ∨ p1 = 1) ∧ th1_4 = 0) ∨ (r_1 = 1 ∧ ¬ (p1 = 0 ∨ p1 = 1) ∧ th1_4 = 1)) := hp_5
  obtain ⟨hP, hD⟩ := ty_shPD (w2 := ([(rf_RW ct 0 mw 958 f), (rf_RW ct 0 m0 958 s0), (rf_RW ct 0 m1 958 s1), (rf_RW ct 2 iz 2 k), (mu, .inl (ct 1, 42, .inr (.inl su))), (u0, .inl (ct 1, 42, .inr (.inl z0))), (u1, .inl (ct 1, 42, .inr (.inl z1))), (rf_MO mo mw ma mf m0 m1 mu mv u0 u1 iz th1_4 mb mn mpt mbg mwr mwk mlf men)] ++ ws_3)) hP hD rfl
  rcases hp_5 with ⟨rfl, hz_6⟩ | ⟨rfl, hz_7⟩
  · refine lv_if_eq (tgt := 10) hx hb dX11_restoreSnapshot_5 (by decide) (fun _ => ?_) (fun hc => absurd (by decide) hc)
    refine lv_aload_n hx hb dX11_restoreSnapshot_10 rfl (lv_at hl 0 rfl) ?_
    refine va_get (v := .ref iz) (D := D) (ci := 11) (C := RX11) (T := TX11) (N := 19) hx hb hts in_X11 hown hK hP 7 rfl rfl 9 (by decide) (hts _ kl_RX11_38) (fun _ h9 => h9) rfl dX11_restoreSnapshot_11 ?_
    refine lv_iload_n hx hb dX11_restoreSnapshot_14 rfl (lv_at hl 1 rfl) ?_
    refine va_zald hx hb hK hP 3 2 rfl rfl (rf_i2s hz_6.1) dX11_restoreSnapshot_15 ?_
    refine lv_if_ne (tgt := 21) hx hb dX11_restoreSnapshot_16 (by decide) (fun hc_8 => ?_) (fun hc_8 => ?_)
    · refine lv_iload_n hx hb dX11_restoreSnapshot_21 rfl (lv_at hl 1 rfl) ?_
      refine lv_if_ne (tgt := 32) hx hb dX11_restoreSnapshot_22 (by decide) (fun hc_9 => ?_) (fun hc_9 => ?_)
      · refine lv_aload_n hx hb dX11_restoreSnapshot_32 rfl (lv_at hl 0 rfl) ?_
        refine va_get (v := .ref m1) (D := D) (ci := 11) (C := RX11) (T := TX11) (N := 19) hx hb hts in_X11 hown hK hP 7 rfl rfl 4 (by decide) (hts _ kl_RX11_22) (fun _ h9 => h9) rfl dX11_restoreSnapshot_33 ?_
        refine lv_aload_n hx hb dX11_restoreSnapshot_36 rfl (lv_at hl 0 rfl) ?_
        refine va_get (v := .ref mw) (D := D) (ci := 11) (C := RX11) (T := TX11) (N := 19) hx hb hts in_X11 hown hK hP 7 rfl rfl 0 (by decide) (hts _ kl_RX11_9) (fun _ h9 => h9) rfl dX11_restoreSnapshot_37 ?_
        obtain ⟨hP, hD⟩ := ty_opPD (E1 := [(rf_RW ct 0 m0 958 s0), (rf_RW ct 2 iz 2 k), (mu, .inl (ct 1, 42, .inr (.inl su))), (u0, .inl (ct 1, 42, .inr (.inl z0))), (u1, .inl (ct 1, 42, .inr (.inl z1))), (rf_MO mo mw ma mf m0 m1 mu mv u0 u1 iz th1_4 mb mn mpt mbg mwr mwk mlf men)]) (E2 := [(rf_RW ct 0 m1 958 s1), (rf_RW ct 0 mw 958 f)]) (n := 8) [1, 3, 4, 5, 6, 7, 2, 0] hP hD rfl rfl (by decide +kernel) ty_mva
        refine ty_Kv hP hD hS hA (va_runS (As := [.ref m1, .ref mw]) (rest := []) ⟨hx, hb, hml, hown, hts⟩ (m_copies l D ct S ws_3 ph xx m1 mw s1 f _ hT hph hy1) (cm_S 2 hts kc_X11_copies ki_RX11 kl_RX11_205 ks_X11_copies kd_X11_copies ⟨Nat.le_of_ble_eq_true rfl, Nat.le_of_ble_eq_true rfl⟩) (ty_preS hP hK hD hS hA hX) rfl rfl hl.1 rfl (lv_room (Nat.le_of_ble_eq_true rfl)) dX11_restoreSnapshot_40 ⟨Nat.le_of_ble_eq_true rfl, Nat.le_of_ble_eq_true rfl⟩) (fun u H locs hw_11 hP hD hS => ?_)
        obtain ⟨ws_12, h_13⟩ := u
        obtain ⟨hT, hp_14⟩ := hw_11
        have hp_14 : (q_copies s1 h_13) ∧ ∀ j : Nat, j < 958 → h_13 j = s1 j := hp_14
        obtain ⟨hq_15, hp_16⟩ := hp_14
        obtain ⟨hP, hD⟩ := ty_shPD (w2 := ([(rf_RW ct 0 m0 958 s0), (rf_RW ct 2 iz 2 k), (mu, .inl (ct 1, 42, .inr (.inl su))), (u0, .inl (ct 1, 42, .inr (.inl z0))), (u1, .inl (ct 1, 42, .inr (.inl z1))), (rf_MO mo mw ma mf m0 m1 mu mv u0 u1 iz th1_4 mb mn mpt mbg mwr mwk mlf men), (rf_RW ct 0 m1 958 s1), (rf_RW ct 0 mw 958 h_13)] ++ ws_12)) hP hD rfl
        refine lv_iload_n hx hb dX11_restoreSnapshot_43 rfl (lv_at hl 1 rfl) ?_
        refine lv_if_ne (tgt := 54) hx hb dX11_restoreSnapshot_44 (by decide) (fun hc_17 => ?_) (fun hc_17 => ?_)
        · refine lv_aload_n hx hb dX11_restoreSnapshot_54 rfl (lv_at hl 0 rfl) ?_
          refine va_get (v := .ref u1) (D := D) (ci := 11) (C := RX11) (T := TX11) (N := 19) hx hb hts in_X11 hown hK hP 5 rfl rfl 8 (by decide) (hts _ kl_RX11_35) (fun _ h9 => h9) rfl dX11_restoreSnapshot_55 ?_
          refine lv_aload_n hx hb dX11_restoreSnapshot_58 rfl (lv_at hl 0 rfl) ?_
          refine va_get (v := .ref mu) (D := D) (ci := 11) (C := RX11) (T := TX11) (N := 19) hx hb hts in_X11 hown hK hP 5 rfl rfl 5 (by decide) (hts _ kl_RX11_25) (fun _ h9 => h9) rfl dX11_restoreSnapshot_59 ?_
          obtain ⟨hP, hD⟩ := ty_opPD (E1 := [(rf_RW ct 0 m0 958 s0), (rf_RW ct 2 iz 2 k), (u0, .inl (ct 1, 42, .inr (.inl z0))), (rf_MO mo mw ma mf m0 m1 mu mv u0 u1 iz th1_4 mb mn mpt mbg mwr mwk mlf men), (rf_RW ct 0 m1 958 s1), (rf_RW ct 0 mw 958 h_13)]) (E2 := [(u1, .inl (ct 1, 42, .inr (.inl z1))), (mu, .inl (ct 1, 42, .inr (.inl su)))]) (n := 8) [0, 1, 3, 5, 6, 7, 4, 2] hP hD rfl rfl (by decide +kernel) ty_mva
          refine ty_Kv hP hD hS hA (va_runS (As := [.ref u1, .ref mu]) (rest := []) ⟨hx, hb, hml, hown, hts⟩ (m_copiesSums l D ct S ws_12 ph xx u1 mu z1 su _ hT hph hy1 hy11) (cm_S 2 hts kc_X11_copiesSums ki_RX11 kl_RX11_375 ks_X11_copiesSums kd_X11_copiesSums ⟨Nat.le_of_ble_eq_true rfl, Nat.le_of_ble_eq_true rfl⟩) (ty_preS hP hK hD hS hA hX) rfl rfl hl.1 rfl (lv_room (Nat.le_of_ble_eq_true rfl)) dX11_restoreSnapshot_62 ⟨Nat.le_of_ble_eq_true rfl, Nat.le_of_ble_eq_true rfl⟩) (fun u H locs hw_19 hP hD hS => ?_)
          obtain ⟨ws_20, sh_21⟩ := u
          obtain ⟨hT, hp_22⟩ := hw_19
          have hp_22 : q_cs z1 sh_21 := hp_22
          obtain ⟨hP, hD⟩ := ty_shPD (w2 := ([(rf_RW ct 0 m0 958 s0), (rf_RW ct 2 iz 2 k), (u0, .inl (ct 1, 42, .inr (.inl z0))), (rf_MO mo mw ma mf m0 m1 mu mv u0 u1 iz th1_4 mb mn mpt mbg mwr mwk mlf men), (rf_RW ct 0 m1 958 s1), (rf_RW ct 0 mw 958 h_13), (u1, .inl (ct 1, 42, .inr (.inl z1))), (mu, .inl (ct 1, 42, .inr (.inl sh_21)))] ++ ws_20)) hP hD rfl
          refine lv_aload_n hx hb dX11_restoreSnapshot_65 rfl (lv_at hl 0 rfl) ?_
          refine va_get (v := .ref mw) (D := D) (ci := 11) (C := RX11) (T := TX11) (N := 19) hx hb hts in_X11 hown hK hP 3 rfl rfl 0 (by decide) (hts _ kl_RX11_9) (fun _ h9 => h9) rfl dX11_restoreSnapshot_66 ?_
          refine lv_bipush (v := 8) hx hb dX11_restoreSnapshot_69 (by decide) ?_
          refine va_iald hx hb hK hP 5 0 rfl rfl (cm_vin (by decide)) dX11_restoreSnapshot_71 ?_
          refine cm_cst (y := (h_13 8)) (by first | rfl | decide +kernel) ?_
          obtain ⟨hP, hD⟩ := ty_ordPD (E2 := [(rf_MO mo mw ma mf m0 m1 mu mv u0 u1 iz th1_4 mb mn mpt mbg mwr mwk mlf men), (rf_RW ct 0 mw 958 h_13), (rf_RW ct 0 m0 958 s0), (rf_RW ct 0 m1 958 s1), (rf_RW ct 2 iz 2 k), (mu, .inl (ct 1, 42, .inr (.inl sh_21))), (u0, .inl (ct 1, 42, .inr (.inl z0))), (u1, .inl (ct 1, 42, .inr (.inl z1)))]) (n := 8) [3, 5, 0, 4, 1, 7, 2, 6] hP hD rfl rfl (by decide +kernel)
          exact W.iret (v := (h_13 8)) hx hb hr (fun t ht hW => ⟨⟨(h_13 8), (ws_20, th1_4, h_13, sh_21), rfl, ⟨hT, ⟨rf_Ec (rf_rs1 hz_6.1 hc_9 hc_8 hs1) hp_16, q_rsB hz_6.1 hc_9 hc_8 hp_16 hp_22 hz_6.2⟩⟩, by rw [ht]; exact hP, by rw [hAe]; exact hD⟩, hS.F ht⟩) hS.2.2 dX11_restoreSnapshot_72
        · refine lv_aload_n hx hb dX11_restoreSnapshot_47 rfl (lv_at hl 0 rfl) ?_
          refine va_get (v := .ref u0) (D := D) (ci := 11) (C := RX11) (T := TX11) (N := 19) hx hb hts in_X11 hown hK hP 5 rfl rfl 7 (by decide) (hts _ kl_RX11_32) (fun _ h9 => h9) rfl dX11_restoreSnapshot_48 ?_
          refine lv_goto (tgt := 58) hx hb dX11_restoreSnapshot_51 (by decide) ?_
          refine lv_aload_n hx hb dX11_restoreSnapshot_58 rfl (lv_at hl 0 rfl) ?_
          refine va_get (v := .ref mu) (D := D) (ci := 11) (C := RX11) (T := TX11) (N := 19) hx hb hts in_X11 hown hK hP 5 rfl rfl 5 (by decide) (hts _ kl_RX11_25) (fun _ h9 => h9) rfl dX11_restoreSnapshot_59 ?_
          obtain ⟨hP, hD⟩ := ty_opPD (E1 := [(rf_RW ct 0 m0 958 s0), (rf_RW ct 2 iz 2 k), (u1, .inl (ct 1, 42, .inr (.inl z1))), (rf_MO mo mw ma mf m0 m1 mu mv u0 u1 iz th1_4 mb mn mpt mbg mwr mwk mlf men), (rf_RW ct 0 m1 958 s1), (rf_RW ct 0 mw 958 h_13)]) (E2 := [(u0, .inl (ct 1, 42, .inr (.inl z0))), (mu, .inl (ct 1, 42, .inr (.inl su)))]) (n := 8) [0, 1, 4, 5, 6, 7, 3, 2] hP hD rfl rfl (by decide +kernel) ty_mva
          refine ty_Kv hP hD hS hA (va_runS (As := [.ref u0, .ref mu]) (rest := []) ⟨hx, hb, hml, hown, hts⟩ (m_copiesSums l D ct S ws_12 ph xx u0 mu z0 su _ hT hph hy1 hy11) (cm_S 2 hts kc_X11_copiesSums ki_RX11 kl_RX11_375 ks_X11_copiesSums kd_X11_copiesSums ⟨Nat.le_of_ble_eq_true rfl, Nat.le_of_ble_eq_true rfl⟩) (ty_preS hP hK hD hS hA hX) rfl rfl hl.1 rfl (lv_room (Nat.le_of_ble_eq_true rfl)) dX11_restoreSnapshot_62 ⟨Nat.le_of_ble_eq_true rfl, Nat.le_of_ble_eq_true rfl⟩) (fun u H locs hw_24 hP hD hS => ?_)
          obtain ⟨ws_25, sh_26⟩ := u
          obtain ⟨hT, hp_27⟩ := hw_24
          have hp_27 : q_cs z0 sh_26 := hp_27
          obtain ⟨hP, hD⟩ := ty_shPD (w2 := ([(rf_RW ct 0 m0 958 s0), (rf_RW ct 2 iz 2 k), (u1, .inl (ct 1, 42, .inr (.inl z1))), (rf_MO mo mw ma mf m0 m1 mu mv u0 u1 iz th1_4 mb mn mpt mbg mwr mwk mlf men), (rf_RW ct 0 m1 958 s1), (rf_RW ct 0 mw 958 h_13), (u0, .inl (ct 1, 42, .inr (.inl z0))), (mu, .inl (ct 1, 42, .inr (.inl sh_26)))] ++ ws_25)) hP hD rfl
          refine lv_aload_n hx hb dX11_restoreSnapshot_65 rfl (lv_at hl 0 rfl) ?_
          refine va_get (v := .ref mw) (D := D) (ci := 11) (C := RX11) (T := TX11) (N := 19) hx hb hts in_X11 hown hK hP 3 rfl rfl 0 (by decide) (hts _ kl_RX11_9) (fun _ h9 => h9) rfl dX11_restoreSnapshot_66 ?_
          refine lv_bipush (v := 8) hx hb dX11_restoreSnapshot_69 (by decide) ?_
          refine va_iald hx hb hK hP 5 0 rfl rfl (cm_vin (by decide)) dX11_restoreSnapshot_71 ?_
          refine cm_cst (y := (h_13 8)) (by first | rfl | decide +kernel) ?_
          obtain ⟨hP, hD⟩ := ty_ordPD (E2 := [(rf_MO mo mw ma mf m0 m1 mu mv u0 u1 iz th1_4 mb mn mpt mbg mwr mwk mlf men), (rf_RW ct 0 mw 958 h_13), (rf_RW ct 0 m0 958 s0), (rf_RW ct 0 m1 958 s1), (rf_RW ct 2 iz 2 k), (mu, .inl (ct 1, 42, .inr (.inl sh_26))), (u0, .inl (ct 1, 42, .inr (.inl z0))), (u1, .inl (ct 1, 42, .inr (.inl z1)))]) (n := 8) [3, 5, 0, 4, 1, 7, 6, 2] hP hD rfl rfl (by decide +kernel)
          exact W.iret (v := (h_13 8)) hx hb hr (fun t ht hW => ⟨⟨(h_13 8), (ws_25, th1_4, h_13, sh_26), rfl, ⟨hT, (absurd hc_17 hc_9)⟩, by rw [ht]; exact hP, by rw [hAe]; exact hD⟩, hS.F ht⟩) hS.2.2 dX11_restoreSnapshot_72
      · refine lv_aload_n hx hb dX11_restoreSnapshot_25 rfl (lv_at hl 0 rfl) ?_
        refine va_get (v := .ref m0) (D := D) (ci := 11) (C := RX11) (T := TX11) (N := 19) hx hb hts in_X11 hown hK hP 7 rfl rfl 3 (by decide) (hts _ kl_RX11_19) (fun _ h9 => h9) rfl dX11_restoreSnapshot_26 ?_
        refine lv_goto (tgt := 36) hx hb dX11_restoreSnapshot_29 (by decide) ?_
        refine lv_aload_n hx hb dX11_restoreSnapshot_36 rfl (lv_at hl 0 rfl) ?_
        refine va_get (v := .ref mw) (D := D) (ci := 11) (C := RX11) (T := TX11) (N := 19) hx hb hts in_X11 hown hK hP 7 rfl rfl 0 (by decide) (hts _ kl_RX11_9) (fun _ h9 => h9) rfl dX11_restoreSnapshot_37 ?_
        obtain ⟨hP, hD⟩ := ty_opPD (E1 := [(rf_RW ct 0 m1 958 s1), (rf_RW ct 2 iz 2 k), (mu, .inl (ct 1, 42, .inr (.inl su))), (u0, .inl (ct 1, 42, .inr (.inl z0))), (u1, .inl (ct 1, 42, .inr (.inl z1))), (rf_MO mo mw ma mf m0 m1 mu mv u0 u1 iz th1_4 mb mn mpt mbg mwr mwk mlf men)]) (E2 := [(rf_RW ct 0 m0 958 s0), (rf_RW ct 0 mw 958 f)]) (n := 8) [2, 3, 4, 5, 6, 7, 1, 0] hP hD rfl rfl (by decide +kernel) ty_mva
        refine ty_Kv hP hD hS hA (va_runS (As := [.ref m0, .ref mw]) (rest := []) ⟨hx, hb, hml, hown, hts⟩ (m_copies l D ct S ws_3 ph xx m0 mw s0 f _ hT hph hy1) (cm_S 2 hts kc_X11_copies ki_RX11 kl_RX11_205 ks_X11_copies kd_X11_copies ⟨Nat.le_of_ble_eq_true rfl, Nat.le_of_ble_eq_true rfl⟩) (ty_preS hP hK hD hS hA hX) rfl rfl hl.1 rfl (lv_room (Nat.le_of_ble_eq_true rfl)) dX11_restoreSnapshot_40 ⟨Nat.le_of_ble_eq_true rfl, Nat.le_of_ble_eq_true rfl⟩) (fun u H locs hw_29 hP hD hS => ?_)
        obtain ⟨ws_30, h_31⟩ := u
        obtain ⟨hT, hp_32⟩ := hw_29
        have hp_32 : (q_copies s0 h_31) ∧ ∀ j : Nat, j < 958 → h_31 j = s0 j := hp_32
        obtain ⟨hq_33, hp_34⟩ := hp_32
        obtain ⟨hP, hD⟩ := ty_shPD (w2 := ([(rf_RW ct 0 m1 958 s1), (rf_RW ct 2 iz 2 k), (mu, .inl (ct 1, 42, .inr (.inl su))), (u0, .inl (ct 1, 42, .inr (.inl z0))), (u1, .inl (ct 1, 42, .inr (.inl z1))), (rf_MO mo mw ma mf m0 m1 mu mv u0 u1 iz th1_4 mb mn mpt mbg mwr mwk mlf men), (rf_RW ct 0 m0 958 s0), (rf_RW ct 0 mw 958 h_31)] ++ ws_30)) hP hD rfl
        refine lv_iload_n hx hb dX11_restoreSnapshot_43 rfl (lv_at hl 1 rfl) ?_
        refine lv_if_ne (tgt := 54) hx hb dX11_restoreSnapshot_44 (by decide) (fun hc_35 => ?_) (fun hc_35 => ?_)
        · refine lv_aload_n hx hb dX11_restoreSnapshot_54 rfl (lv_at hl 0 rfl) ?_
          refine va_get (v := .ref u1) (D := D) (ci := 11) (C := RX11) (T := TX11) (N := 19) hx hb hts in_X11 hown hK hP 5 rfl rfl 8 (by decide) (hts _ kl_RX11_35) (fun _ h9 => h9) rfl dX11_restoreSnapshot_55 ?_
          refine lv_aload_n hx hb dX11_restoreSnapshot_58 rfl (lv_at hl 0 rfl) ?_
          refine va_get (v := .ref mu) (D := D) (ci := 11) (C := RX11) (T := TX11) (N := 19) hx hb hts in_X11 hown hK hP 5 rfl rfl 5 (by decide) (hts _ kl_RX11_25) (fun _ h9 => h9) rfl dX11_restoreSnapshot_59 ?_
          obtain ⟨hP, hD⟩ := ty_opPD (E1 := [(rf_RW ct 0 m1 958 s1), (rf_RW ct 2 iz 2 k), (u0, .inl (ct 1, 42, .inr (.inl z0))), (rf_MO mo mw ma mf m0 m1 mu mv u0 u1 iz th1_4 mb mn mpt mbg mwr mwk mlf men), (rf_RW ct 0 m0 958 s0), (rf_RW ct 0 mw 958 h_31)]) (E2 := [(u1, .inl (ct 1, 42, .inr (.inl z1))), (mu, .inl (ct 1, 42, .inr (.inl su)))]) (n := 8) [0, 1, 3, 5, 6, 7, 4, 2] hP hD rfl rfl (by decide +kernel) ty_mva
          refine ty_Kv hP hD hS hA (va_runS (As := [.ref u1, .ref mu]) (rest := []) ⟨hx, hb, hml, hown, hts⟩ (m_copiesSums l D ct S ws_30 ph xx u1 mu z1 su _ hT hph hy1 hy11) (cm_S 2 hts kc_X11_copiesSums ki_RX11 kl_RX11_375 ks_X11_copiesSums kd_X11_copiesSums ⟨Nat.le_of_ble_eq_true rfl, Nat.le_of_ble_eq_true rfl⟩) (ty_preS hP hK hD hS hA hX) rfl rfl hl.1 rfl (lv_room (Nat.le_of_ble_eq_true rfl)) dX11_restoreSnapshot_62 ⟨Nat.le_of_ble_eq_true rfl, Nat.le_of_ble_eq_true rfl⟩) (fun u H locs hw_37 hP hD hS => ?_)
          obtain ⟨ws_38, sh_39⟩ := u
          obtain ⟨hT, hp_40⟩ := hw_37
          have hp_40 : q_cs z1 sh_39 := hp_40
          obtain ⟨hP, hD⟩ := ty_shPD (w2 := ([(rf_RW ct 0 m1 958 s1), (rf_RW ct 2 iz 2 k), (u0, .inl (ct 1, 42, .inr (.inl z0))), (rf_MO mo mw ma mf m0 m1 mu mv u0 u1 iz th1_4 mb mn mpt mbg mwr mwk mlf men), (rf_RW ct 0 m0 958 s0), (rf_RW ct 0 mw 958 h_31), (u1, .inl (ct 1, 42, .inr (.inl z1))), (mu, .inl (ct 1, 42, .inr (.inl sh_39)))] ++ ws_38)) hP hD rfl
          refine lv_aload_n hx hb dX11_restoreSnapshot_65 rfl (lv_at hl 0 rfl) ?_
          refine va_get (v := .ref mw) (D := D) (ci := 11) (C := RX11) (T := TX11) (N := 19) hx hb hts in_X11 hown hK hP 3 rfl rfl 0 (by decide) (hts _ kl_RX11_9) (fun _ h9 => h9) rfl dX11_restoreSnapshot_66 ?_
          refine lv_bipush (v := 8) hx hb dX11_restoreSnapshot_69 (by decide) ?_
          refine va_iald hx hb hK hP 5 0 rfl rfl (cm_vin (by decide)) dX11_restoreSnapshot_71 ?_
          refine cm_cst (y := (h_31 8)) (by first | rfl | decide +kernel) ?_
          obtain ⟨hP, hD⟩ := ty_ordPD (E2 := [(rf_MO mo mw ma mf m0 m1 mu mv u0 u1 iz th1_4 mb mn mpt mbg mwr mwk mlf men), (rf_RW ct 0 mw 958 h_31), (rf_RW ct 0 m0 958 s0), (rf_RW ct 0 m1 958 s1), (rf_RW ct 2 iz 2 k), (mu, .inl (ct 1, 42, .inr (.inl sh_39))), (u0, .inl (ct 1, 42, .inr (.inl z0))), (u1, .inl (ct 1, 42, .inr (.inl z1)))]) (n := 8) [3, 5, 4, 0, 1, 7, 2, 6] hP hD rfl rfl (by decide +kernel)
          exact W.iret (v := (h_31 8)) hx hb hr (fun t ht hW => ⟨⟨(h_31 8), (ws_38, th1_4, h_31, sh_39), rfl, ⟨hT, (absurd hc_9 hc_35)⟩, by rw [ht]; exact hP, by rw [hAe]; exact hD⟩, hS.F ht⟩) hS.2.2 dX11_restoreSnapshot_72
        · refine lv_aload_n hx hb dX11_restoreSnapshot_47 rfl (lv_at hl 0 rfl) ?_
          refine va_get (v := .ref u0) (D := D) (ci := 11) (C := RX11) (T := TX11) (N := 19) hx hb hts in_X11 hown hK hP 5 rfl rfl 7 (by decide) (hts _ kl_RX11_32) (fun _ h9 => h9) rfl dX11_restoreSnapshot_48 ?_
          refine lv_goto (tgt := 58) hx hb dX11_restoreSnapshot_51 (by decide) ?_
          refine lv_aload_n hx hb dX11_restoreSnapshot_58 rfl (lv_at hl 0 rfl) ?_
          refine va_get (v := .ref mu) (D := D) (ci := 11) (C := RX11) (T := TX11) (N := 19) hx hb hts in_X11 hown hK hP 5 rfl rfl 5 (by decide) (hts _ kl_RX11_25) (fun _ h9 => h9) rfl dX11_restoreSnapshot_59 ?_
          obtain ⟨hP, hD⟩ := ty_opPD (E1 := [(rf_RW ct 0 m1 958 s1), (rf_RW ct 2 iz 2 k), (u1, .inl (ct 1, 42, .inr (.inl z1))), (rf_MO mo mw ma mf m0 m1 mu mv u0 u1 iz th1_4 mb mn mpt mbg mwr mwk mlf men), (rf_RW ct 0 m0 958 s0), (rf_RW ct 0 mw 958 h_31)]) (E2 := [(u0, .inl (ct 1, 42, .inr (.inl z0))), (mu, .inl (ct 1, 42, .inr (.inl su)))]) (n := 8) [0, 1, 4, 5, 6, 7, 3, 2] hP hD rfl rfl (by decide +kernel) ty_mva
          refine ty_Kv hP hD hS hA (va_runS (As := [.ref u0, .ref mu]) (rest := []) ⟨hx, hb, hml, hown, hts⟩ (m_copiesSums l D ct S ws_30 ph xx u0 mu z0 su _ hT hph hy1 hy11) (cm_S 2 hts kc_X11_copiesSums ki_RX11 kl_RX11_375 ks_X11_copiesSums kd_X11_copiesSums ⟨Nat.le_of_ble_eq_true rfl, Nat.le_of_ble_eq_true rfl⟩) (ty_preS hP hK hD hS hA hX) rfl rfl hl.1 rfl (lv_room (Nat.le_of_ble_eq_true rfl)) dX11_restoreSnapshot_62 ⟨Nat.le_of_ble_eq_true rfl, Nat.le_of_ble_eq_true rfl⟩) (fun u H locs hw_42 hP hD hS => ?_)
          obtain ⟨ws_43, sh_44⟩ := u
          obtain ⟨hT, hp_45⟩ := hw_42
          have hp_45 : q_cs z0 sh_44 := hp_45
          obtain ⟨hP, hD⟩ := ty_shPD (w2 := ([(rf_RW ct 0 m1 958 s1), (rf_RW ct 2 iz 2 k), (u1, .inl (ct 1, 42, .inr (.inl z1))), (rf_MO mo mw ma mf m0 m1 mu mv u0 u1 iz th1_4 mb mn mpt mbg mwr mwk mlf men), (rf_RW ct 0 m0 958 s0), (rf_RW ct 0 mw 958 h_31), (u0, .inl (ct 1, 42, .inr (.inl z0))), (mu, .inl (ct 1, 42, .inr (.inl sh_44)))] ++ ws_43)) hP hD rfl
          refine lv_aload_n hx hb dX11_restoreSnapshot_65 rfl (lv_at hl 0 rfl) ?_
          refine va_get (v := .ref mw) (D := D) (ci := 11) (C := RX11) (T := TX11) (N := 19) hx hb hts in_X11 hown hK hP 3 rfl rfl 0 (by decide) (hts _ kl_RX11_9) (fun _ h9 => h9) rfl dX11_restoreSnapshot_66 ?_
          refine lv_bipush (v := 8) hx hb dX11_restoreSnapshot_69 (by decide) ?_
          refine va_iald hx hb hK hP 5 0 rfl rfl (cm_vin (by decide)) dX11_restoreSnapshot_71 ?_
          refine cm_cst (y := (h_31 8)) (by first | rfl | decide +kernel) ?_
          obtain ⟨hP, hD⟩ := ty_ordPD (E2 := [(rf_MO mo mw ma mf m0 m1 mu mv u0 u1 iz th1_4 mb mn mpt mbg mwr mwk mlf men), (rf_RW ct 0 mw 958 h_31), (rf_RW ct 0 m0 958 s0), (rf_RW ct 0 m1 958 s1), (rf_RW ct 2 iz 2 k), (mu, .inl (ct 1, 42, .inr (.inl sh_44))), (u0, .inl (ct 1, 42, .inr (.inl z0))), (u1, .inl (ct 1, 42, .inr (.inl z1)))]) (n := 8) [3, 5, 4, 0, 1, 7, 6, 2] hP hD rfl rfl (by decide +kernel)
          exact W.iret (v := (h_31 8)) hx hb hr (fun t ht hW => ⟨⟨(h_31 8), (ws_43, th1_4, h_31, sh_44), rfl, ⟨hT, ⟨rf_Ec (rf_rs0 hc_9 hc_8 hs0) hp_34, q_rsA hc_9 hc_8 hp_34 hp_45 hz_6.2⟩⟩, by rw [ht]; exact hP, by rw [hAe]; exact hD⟩, hS.F ht⟩) hS.2.2 dX11_restoreSnapshot_72
    · refine lv_iconst (v := (-1)) hx hb dX11_restoreSnapshot_19 (by decide) ?_
      obtain ⟨hP, hD⟩ := ty_ordPD (E2 := [(rf_MO mo mw ma mf m0 m1 mu mv u0 u1 iz th1_4 mb mn mpt mbg mwr mwk mlf men), (rf_RW ct 0 mw 958 f), (rf_RW ct 0 m0 958 s0), (rf_RW ct 0 m1 958 s1), (rf_RW ct 2 iz 2 k), (mu, .inl (ct 1, 42, .inr (.inl su))), (u0, .inl (ct 1, 42, .inr (.inl z0))), (u1, .inl (ct 1, 42, .inr (.inl z1)))]) (n := 8) [7, 0, 1, 2, 3, 4, 5, 6] hP hD rfl rfl (by decide +kernel)
      exact W.iret (v := (-1)) hx hb hr (fun t ht hW => ⟨⟨(-1), (ws_3, th1_4, f, su), rfl, ⟨hT, ⟨hE, q_rsN hz_6.1 hc_8 hz_6.2⟩⟩, by rw [ht]; exact hP, by rw [hAe]; exact hD⟩, hS.F ht⟩) hS.2.2 dX11_restoreSnapshot_20
  · refine lv_if_eq (tgt := 10) hx hb dX11_restoreSnapshot_5 (by decide) (fun hc => absurd hc (by decide)) (fun _ => ?_)
    refine lv_iconst (v := 0) hx hb dX11_restoreSnapshot_8 (by decide) ?_
    obtain ⟨hP, hD⟩ := ty_ordPD (E2 := [(rf_MO mo mw ma mf m0 m1 mu mv u0 u1 iz th1_4 mb mn mpt mbg mwr mwk mlf men), (rf_RW ct 0 mw 958 f), (rf_RW ct 0 m0 958 s0), (rf_RW ct 0 m1 958 s1), (rf_RW ct 2 iz 2 k), (mu, .inl (ct 1, 42, .inr (.inl su))), (u0, .inl (ct 1, 42, .inr (.inl z0))), (u1, .inl (ct 1, 42, .inr (.inl z1)))]) (n := 8) [7, 0, 1, 2, 3, 4, 5, 6] hP hD rfl rfl (by decide +kernel)
    exact W.iret (v := 0) hx hb hr (fun t ht hW => ⟨⟨0, (ws_3, th1_4, f, su), rfl, ⟨hT, ⟨hE, Or.inl ⟨hz_7.1, rfl, rfl, hz_7.2⟩⟩⟩, by rw [ht]; exact hP, by rw [hAe]; exact hD⟩, hS.F ht⟩) hS.2.2 dX11_restoreSnapshot_9
