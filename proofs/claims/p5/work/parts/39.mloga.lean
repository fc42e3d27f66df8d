set_option maxRecDepth 100000 in
set_option maxHeartbeats 4000000 in
theorem m_X11_notes (l : Launch) (D : va_G) (ct : Nat → ClassId) (S : ty_S) (ws : va_W) (ph : va_W → Prop) (xx : Nat → Nat → Nat → Prop) (mo : Nat) (mw : Nat) (ma : Nat) (mf : Nat) (m0 : Nat) (m1 : Nat) (mu : Nat) (mv : Nat) (u0 : Nat) (u1 : Nat) (iz : Nat) (mb : Nat) (th : Int32) (mn : Int32) (mpt : Int32) (mbg : Int32) (mwr : Int32) (mwk : Int32) (mlf : Int32) (men : Int32) (f : Nat → Int32) (G : Nat → Int32) (cx : Int) (p1 : Int32) (p2 : Int32) (p3 : Int32) (sz : Nat) (hT : ty_V ct S ph ws) (hph : ty_C ph xx) (hy1 : ty_y1 xx) (hR : rf_R G cx f) : Met l yX11_notes (ws_ yX11_notes cX11_notes 5 none) ({ frames := 0, cells := 0, slots := 0, locals := 0 } : Room) (va_Pc [.ref mo, .int p1, .int p2, .int p3] (cmP D ct sz ([(rf_MO mo mw ma mf m0 m1 mu mv u0 u1 iz th mb mn mpt mbg mwr mwk mlf men), (rf_RW ct 0 mw 958 f)] ++ ws))) (va_Qv (fun (u : va_W × (Nat → Int32)) => match u with | (u9, f1) => ty_V ct S ph u9 ∧ rf_d (f 8) f f1 ∧ rf_R G cx f1 ∧ rf_sm f f1 ∧ q_kp 718 17 f f1) (cmB D ([(rf_MO mo mw ma mf m0 m1 mu mv u0 u1 iz th mb mn mpt mbg mwr mwk mlf men), (rf_RW ct 0 mw 958 f)] ++ ws) sz (fun (u : va_W × (Nat → Int32)) => match u with | (u9, f1) => ([(rf_MO mo mw ma mf m0 m1 mu mv u0 u1 iz th mb mn mpt mbg mwr mwk mlf men), (rf_RW ct 0 mw 958 f1)] ++ u9))) (va_A ([(rf_MO mo mw ma mf m0 m1 mu mv u0 u1 iz th mb mn mpt mbg mwr mwk mlf men), (rf_RW ct 0 mw 958 f)] ++ ws) sz)) 0 0 (va_A ([(rf_MO mo mw ma mf m0 m1 mu mv u0 u1 iz th mb mn mpt mbg mwr mwk mlf men), (rf_RW ct 0 mw 958 f)] ++ ws) sz) := by
  refine Met.ofW (cc := cX11_notes) (maxL := 5) (ret := none) (by decide) rfl ?_
  intro p e s m args below meth c s₁ B hml hv
  obtain ⟨rfl, hsz, hP, hK, hD0, hX⟩ := hv
  have hx := B.exec
  have hb := B.bytes
  have hr := B.returns
  have hts := ws_all (atoms_spec (ws := ws_ yX11_notes cX11_notes 5 none) B.pre)
  have hown : s.vm.findClass RX11 = some m.cls := findClass_of_methodNamed B.named
  have hlocks := B.notSynchronized
  subst hsz
  have hD := hD0.self (sz := s.heap.size)
  generalize hAe : va_A ([(rf_MO mo mw ma mf m0 m1 mu mv u0 u1 iz th mb mn mpt mbg mwr mwk mlf men), (rf_RW ct 0 mw 958 f)] ++ ws) s.heap.size = A at hD hX ⊢
  have hA : ∀ q : Nat, s.heap.size ≤ q → A q := fun q h => by rw [← hAe]; exact Or.inr h
  have hS : va_S A s.heap s.heap [] := va_S.rf
  have hl := lv_entry ([.ref mo, .int p1, .int p2, .int p3]) (n := 5) (Nat.le_of_ble_eq_true rfl)
  rw [lg_entry_eq]
  generalize (lg_sl ([.ref mo, .int p1, .int p2, .int p3]) ++ List.replicate (5 - (lg_sl ([.ref mo, .int p1, .int p2, .int p3])).length) Slot.unset).toArray = ls at hl ⊢
  have hl : lv_has ls 5 [(0, .ref mo), (1, .int p1), (2, .int p2), (3, .int p3)] := hl
  refine lv_aload_n hx hb dX11_notes_0 rfl (lv_at hl 0 rfl) ?_
  refine va_get (v := .ref mw) (D := D) (ci := 11) (C := RX11) (T := TX11) (N := 19) hx hb hts in_X11 hown hK hP 0 rfl rfl 0 (by decide) (hts _ kl_RX11_9) (fun _ h9 => h9) rfl dX11_notes_1 ?_
  refine lv_bipush (v := 17) hx hb dX11_notes_4 (by decide) ?_
  refine va_iald hx hb hK hP 1 0 rfl rfl (cm_vin (by decide)) dX11_notes_6 ?_
  refine cm_cst (y := (f 17)) (by first | rfl | decide +kernel) ?_
  refine lv_bipush (v := 60) hx hb dX11_notes_7 (by decide) ?_
  refine lv_icmp_ne (tgt := 58) hx hb dX11_notes_9 (by decide) (fun hc_1 => ?_) (fun hc_1 => ?_)
  · have hL_2 : 0 ≤ (f 17).toInt ∧ (f 17).toInt ≤ 59 := (rf_ne60 (N := 60) (by decide) hc_1 hR.2.2.1.2.2)
    refine lv_sipush (v := 718) hx hb dX11_notes_58 (by decide) ?_
    refine lv_iconst (v := 4) hx hb dX11_notes_61 (by decide) ?_
    refine lv_aload_n hx hb dX11_notes_62 rfl (lv_at hl 0 rfl) ?_
    refine va_get (v := .ref mw) (D := D) (ci := 11) (C := RX11) (T := TX11) (N := 19) hx hb hts in_X11 hown hK hP 0 rfl rfl 0 (by decide) (hts _ kl_RX11_9) (fun _ h9 => h9) rfl dX11_notes_63 ?_
    refine lv_bipush (v := 17) hx hb dX11_notes_66 (by decide) ?_
    refine va_iald hx hb hK hP 1 0 rfl rfl (cm_vin (by decide)) dX11_notes_68 ?_
    refine cm_cst (y := (f 17)) (by first | rfl | decide +kernel) ?_
    refine lv_imul hx hb dX11_notes_69 ?_
    refine lv_iadd hx hb dX11_notes_70 ?_
    refine lv_istore (lv' := [(4, .int (718 + (4 * (f 17)))), (0, .ref mo), (1, .int p1), (2, .int p2), (3, .int p3)]) hx hb dX11_notes_71 hl (by decide) rfl (fun ls hl => ?_)
    refine lv_aload_n hx hb dX11_notes_73 rfl (lv_at hl 1 rfl) ?_
    refine va_get (v := .ref mw) (D := D) (ci := 11) (C := RX11) (T := TX11) (N := 19) hx hb hts in_X11 hown hK hP 0 rfl rfl 0 (by decide) (hts _ kl_RX11_9) (fun _ h9 => h9) rfl dX11_notes_74 ?_
    refine lv_iload hx hb dX11_notes_77 (lv_at hl 0 rfl) ?_
    refine lv_aload_n hx hb dX11_notes_79 rfl (lv_at hl 1 rfl) ?_
    refine va_get (v := .ref mw) (D := D) (ci := 11) (C := RX11) (T := TX11) (N := 19) hx hb hts in_X11 hown hK hP 0 rfl rfl 0 (by decide) (hts _ kl_RX11_9) (fun _ h9 => h9) rfl dX11_notes_80 ?_
    refine lv_bipush (v := 8) hx hb dX11_notes_83 (by decide) ?_
    refine va_iald hx hb hK hP 1 0 rfl rfl (cm_vin (by decide)) dX11_notes_85 ?_
    refine cm_cst (y := (f 8)) (by first | rfl | decide +kernel) ?_
    refine va_iast hx hb hK hP hD hS 1 0 rfl rfl (rf_in1 (by have := (rf_nb0 (a := 718) (b := 4) (A := 718) (B := 4) (N := 59) (by decide) (by decide) hL_2 (by decide) (by decide) (by decide) (by decide)); omega)) dX11_notes_86 (fun H locs hP hD hS => ?_)
    have hP : va_P D vwCl ([(rf_MO mo mw ma mf m0 m1 mu mv u0 u1 iz th mb mn mpt mbg mwr mwk mlf men), (rf_RW ct 0 mw 958 (upd f (718 + (4 * (f 17))).toNatClampNeg (f 8)))] ++ ws) H := hP
    have hD : va_D A ([(rf_MO mo mw ma mf m0 m1 mu mv u0 u1 iz th mb mn mpt mbg mwr mwk mlf men), (rf_RW ct 0 mw 958 (upd f (718 + (4 * (f 17))).toNatClampNeg (f 8)))] ++ ws) := hD
    have hU_4 : rf_R G cx (upd f (718 + (4 * (f 17))).toNatClampNeg (f 8)) ∧ rf_sm f (upd f (718 + (4 * (f 17))).toNatClampNeg (f 8)) := (rf_free _ hR (Or.inr (rf_ge (rf_nb0 (a := 718) (b := 4) (A := 718) (B := 4) (N := 59) (by decide) (by decide) hL_2 (by decide) (by decide) (by decide) (by decide)).1)))
    generalize hf_7 : (upd f (718 + (4 * (f 17))).toNatClampNeg (f 8)) = f_3 at hP hD hU_4
    have hD_8 := rf_du (rf_dr f) hf_7 (by have := rf_ge (rf_nb0 (a := 718) (b := 4) (A := 718) (B := 4) (N := 59) (by decide) (by decide) hL_2 (by decide) (by decide) (by decide) (by decide)).1; omega)
    have hR_5 := hU_4.1
    have hM_6 := rf_smt (rf_smr f) hU_4.2
    have hk_9 := q_kpu (B := 718) (pl := 17) q_kp0 hf_7 (Or.inl (show 718 ≤ (Int32.toInt _).toNat from (by have e := rf_nbA (a := 718) (b := 4) (l := f 17) (k := 0) (A := 718) (B := 4) (K := 0) (N := 59) (by decide) (by decide) (by decide) hL_2 (by decide) (by decide) (by decide) (by decide) (by decide); rw [Int32.add_zero] at e; have := hL_2; omega)))
    have hq_10 : f_3 17 = f 17 := (rf_u17 hf_7 (rf_ge (rf_nb0 (a := 718) (b := 4) (A := 718) (B := 4) (N := 59) (by decide) (by decide) hL_2 (by decide) (by decide) (by decide) (by decide)).1) (by omega)).trans rfl
    refine lv_aload_n hx hb dX11_notes_87 rfl (lv_at hl 1 rfl) ?_
    refine va_get (v := .ref mw) (D := D) (ci := 11) (C := RX11) (T := TX11) (N := 19) hx hb hts in_X11 hown hK hP 0 rfl rfl 0 (by decide) (hts _ kl_RX11_9) (fun _ h9 => h9) rfl dX11_notes_88 ?_
    refine lv_iload hx hb dX11_notes_91 (lv_at hl 0 rfl) ?_
    refine lv_iconst (v := 1) hx hb dX11_notes_93 (by decide) ?_
    refine lv_iadd hx hb dX11_notes_94 ?_
    refine lv_iload_n hx hb dX11_notes_95 rfl (lv_at hl 2 rfl) ?_
    refine va_iast hx hb hK hP hD hS 1 0 rfl rfl (rf_in1 (by have := (rf_nb (a := 718) (b := 4) (A := 718) (B := 4) (N := 59) (k := 1) (K := 1) (by decide) (by decide) (by decide) hL_2 (by decide) (by decide) (by decide) (by decide) (by decide)); omega)) dX11_notes_96 (fun H locs hP hD hS => ?_)
    have hP : va_P D vwCl ([(rf_MO mo mw ma mf m0 m1 mu mv u0 u1 iz th mb mn mpt mbg mwr mwk mlf men), (rf_RW ct 0 mw 958 (upd f_3 ((718 + (4 * (f 17))) + 1).toNatClampNeg p1))] ++ ws) H := hP
    have hD : va_D A ([(rf_MO mo mw ma mf m0 m1 mu mv u0 u1 iz th mb mn mpt mbg mwr mwk mlf men), (rf_RW ct 0 mw 958 (upd f_3 ((718 + (4 * (f 17))) + 1).toNatClampNeg p1))] ++ ws) := hD
    have hU_12 : rf_R G cx (upd f_3 ((718 + (4 * (f 17))) + 1).toNatClampNeg p1) ∧ rf_sm f_3 (upd f_3 ((718 + (4 * (f 17))) + 1).toNatClampNeg p1) := (rf_free _ hR_5 (Or.inr (rf_ge (rf_nb (a := 718) (b := 4) (A := 718) (B := 4) (N := 59) (k := 1) (K := 1) (by decide) (by decide) (by decide) hL_2 (by decide) (by decide) (by decide) (by decide) (by decide)).1)))
    generalize hf_15 : (upd f_3 ((718 + (4 * (f 17))) + 1).toNatClampNeg p1) = f_11 at hP hD hU_12
    have hD_16 := rf_du hD_8 hf_15 (by have := rf_ge (rf_nb (a := 718) (b := 4) (A := 718) (B := 4) (N := 59) (k := 1) (K := 1) (by decide) (by decide) (by decide) hL_2 (by decide) (by decide) (by decide) (by decide) (by decide)).1; omega)
    have hR_13 := hU_12.1
    have hM_14 := rf_smt hM_6 hU_12.2
    have hk_17 := q_kpu (B := 718) (pl := 17) hk_9 hf_15 (Or.inl (show 718 ≤ (Int32.toInt _).toNat from (by have e := rf_nbA (a := 718) (b := 4) (l := f 17) (k := 1) (A := 718) (B := 4) (K := 1) (N := 59) (by decide) (by decide) (by decide) hL_2 (by decide) (by decide) (by decide) (by decide) (by decide); have := hL_2; omega)))
    have hq_18 : f_11 17 = f 17 := (rf_u17 hf_15 (rf_ge (rf_nb (a := 718) (b := 4) (A := 718) (B := 4) (N := 59) (k := 1) (K := 1) (by decide) (by decide) (by decide) hL_2 (by decide) (by decide) (by decide) (by decide) (by decide)).1) (by omega)).trans hq_10
    refine lv_aload_n hx hb dX11_notes_97 rfl (lv_at hl 1 rfl) ?_
    refine va_get (v := .ref mw) (D := D) (ci := 11) (C := RX11) (T := TX11) (N := 19) hx hb hts in_X11 hown hK hP 0 rfl rfl 0 (by decide) (hts _ kl_RX11_9) (fun _ h9 => h9) rfl dX11_notes_98 ?_
    refine lv_iload hx hb dX11_notes_101 (lv_at hl 0 rfl) ?_
    refine lv_iconst (v := 2) hx hb dX11_notes_103 (by decide) ?_
    refine lv_iadd hx hb dX11_notes_104 ?_
    refine lv_iload_n hx hb dX11_notes_105 rfl (lv_at hl 3 rfl) ?_
    refine va_iast hx hb hK hP hD hS 1 0 rfl rfl (rf_in1 (by have := (rf_nb (a := 718) (b := 4) (A := 718) (B := 4) (N := 59) (k := 2) (K := 2) (by decide) (by decide) (by decide) hL_2 (by decide) (by decide) (by decide) (by decide) (by decide)); omega)) dX11_notes_106 (fun H locs hP hD hS => ?_)
    have hP : va_P D vwCl ([(rf_MO mo mw ma mf m0 m1 mu mv u0 u1 iz th mb mn mpt mbg mwr mwk mlf men), (rf_RW ct 0 mw 958 (upd f_11 ((718 + (4 * (f 17))) + 2).toNatClampNeg p2))] ++ ws) H := hP
    have hD : va_D A ([(rf_MO mo mw ma mf m0 m1 mu mv u0 u1 iz th mb mn mpt mbg mwr mwk mlf men), (rf_RW ct 0 mw 958 (upd f_11 ((718 + (4 * (f 17))) + 2).toNatClampNeg p2))] ++ ws) := hD
    have hU_20 : rf_R G cx (upd f_11 ((718 + (4 * (f 17))) + 2).toNatClampNeg p2) ∧ rf_sm f_11 (upd f_11 ((718 + (4 * (f 17))) + 2).toNatClampNeg p2) := (rf_free _ hR_13 (Or.inr (rf_ge (rf_nb (a := 718) (b := 4) (A := 718) (B := 4) (N := 59) (k := 2) (K := 2) (by decide) (by decide) (by decide) hL_2 (by decide) (by decide) (by decide) (by decide) (by decide)).1)))
    generalize hf_23 : (upd f_11 ((718 + (4 * (f 17))) + 2).toNatClampNeg p2) = f_19 at hP hD hU_20
    have hD_24 := rf_du hD_16 hf_23 (by have := rf_ge (rf_nb (a := 718) (b := 4) (A := 718) (B := 4) (N := 59) (k := 2) (K := 2) (by decide) (by decide) (by decide) hL_2 (by decide) (by decide) (by decide) (by decide) (by decide)).1; omega)
    have hR_21 := hU_20.1
    have hM_22 := rf_smt hM_14 hU_20.2
    have hk_25 := q_kpu (B := 718) (pl := 17) hk_17 hf_23 (Or.inl (show 718 ≤ (Int32.toInt _).toNat from (by have e := rf_nbA (a := 718) (b := 4) (l := f 17) (k := 2) (A := 718) (B := 4) (K := 2) (N := 59) (by decide) (by decide) (by decide) hL_2 (by decide) (by decide) (by decide) (by decide) (by decide); have := hL_2; omega)))
    have hq_26 : f_19 17 = f 17 := (rf_u17 hf_23 (rf_ge (rf_nb (a := 718) (b := 4) (A := 718) (B := 4) (N := 59) (k := 2) (K := 2) (by decide) (by decide) (by decide) hL_2 (by decide) (by decide) (by decide) (by decide) (by decide)).1) (by omega)).trans hq_18
    refine lv_aload_n hx hb dX11_notes_107 rfl (lv_at hl 1 rfl) ?_
    refine va_get (v := .ref mw) (D := D) (ci := 11) (C := RX11) (T := TX11) (N := 19) hx hb hts in_X11 hown hK hP 0 rfl rfl 0 (by decide) (hts _ kl_RX11_9) (fun _ h9 => h9) rfl dX11_notes_108 ?_
    refine lv_iload hx hb dX11_notes_111 (lv_at hl 0 rfl) ?_
    refine lv_iconst (v := 3) hx hb dX11_notes_113 (by decide) ?_
    refine lv_iadd hx hb dX11_notes_114 ?_
    refine lv_iload_n hx hb dX11_notes_115 rfl (lv_at hl 4 rfl) ?_
    refine va_iast hx hb hK hP hD hS 1 0 rfl rfl (rf_in1 (by have := (rf_nb (a := 718) (b := 4) (A := 718) (B := 4) (N := 59) (k := 3) (K := 3) (by decide) (by decide) (by decide) hL_2 (by decide) (by decide) (by decide) (by decide) (by decide)); omega)) dX11_notes_116 (fun H locs hP hD hS => ?_)
    have hP : va_P D vwCl ([(rf_MO mo mw ma mf m0 m1 mu mv u0 u1 iz th mb mn mpt mbg mwr mwk mlf men), (rf_RW ct 0 mw 958 (upd f_19 ((718 + (4 * (f 17))) + 3).toNatClampNeg p3))] ++ ws) H := hP
    have hD : va_D A ([(rf_MO mo mw ma mf m0 m1 mu mv u0 u1 iz th mb mn mpt mbg mwr mwk mlf men), (rf_RW ct 0 mw 958 (upd f_19 ((718 + (4 * (f 17))) + 3).toNatClampNeg p3))] ++ ws) := hD
    have hU_28 : rf_R G cx (upd f_19 ((718 + (4 * (f 17))) + 3).toNatClampNeg p3) ∧ rf_sm f_19 (upd f_19 ((718 + (4 * (f 17))) + 3).toNatClampNeg p3) := (rf_free _ hR_21 (Or.inr (rf_ge (rf_nb (a := 718) (b := 4) (A := 718) (B := 4) (N := 59) (k := 3) (K := 3) (by decide) (by decide) (by decide) hL_2 (by decide) (by decide) (by decide) (by decide) (by decide)).1)))
    generalize hf_31 : (upd f_19 ((718 + (4 * (f 17))) + 3).toNatClampNeg p3) = f_27 at hP hD hU_28
    have hD_32 := rf_du hD_24 hf_31 (by have := rf_ge (rf_nb (a := 718) (b := 4) (A := 718) (B := 4) (N := 59) (k := 3) (K := 3) (by decide) (by decide) (by decide) hL_2 (by decide) (by decide) (by decide) (by decide) (by decide)).1; omega)
    have hR_29 := hU_28.1
    have hM_30 := rf_smt hM_22 hU_28.2
    have hk_33 := q_kpu (B := 718) (pl := 17) hk_25 hf_31 (Or.inl (show 718 ≤ (Int32.toInt _).toNat from (by have e := rf_nbA (a := 718) (b := 4) (l := f 17) (k := 3) (A := 718) (B := 4) (K := 3) (N := 59) (by decide) (by decide) (by decide) hL_2 (by decide) (by decide) (by decide) (by decide) (by decide); have := hL_2; omega)))
    have hq_34 : f_27 17 = f 17 := (rf_u17 hf_31 (rf_ge (rf_nb (a := 718) (b := 4) (A := 718) (B := 4) (N := 59) (k := 3) (K := 3) (by decide) (by decide) (by decide) hL_2 (by decide) (by decide) (by decide) (by decide) (by decide)).1) (by omega)).trans hq_26
    refine lv_aload_n hx hb dX11_notes_117 rfl (lv_at hl 1 rfl) ?_
    refine va_get (v := .ref mw) (D := D) (ci := 11) (C := RX11) (T := TX11) (N := 19) hx hb hts in_X11 hown hK hP 0 rfl rfl 0 (by decide) (hts _ kl_RX11_9) (fun _ h9 => h9) rfl dX11_notes_118 ?_
    refine lv_bipush (v := 17) hx hb dX11_notes_121 (by decide) ?_
    refine lv_dup2_11 hx hb dX11_notes_123 rfl rfl ?_
    refine va_iald hx hb hK hP 1 0 rfl rfl (cm_vin (by decide)) dX11_notes_124 ?_
    refine cm_cst (y := (f_27 17)) (by first | rfl | decide +kernel) ?_
    refine lv_iconst (v := 1) hx hb dX11_notes_125 (by decide) ?_
    refine lv_iadd hx hb dX11_notes_126 ?_
    refine va_iast hx hb hK hP hD hS 1 0 rfl rfl (cm_vin (by decide)) dX11_notes_127 (fun H locs hP hD hS => ?_)
    have hP : va_P D vwCl ([(rf_MO mo mw ma mf m0 m1 mu mv u0 u1 iz th mb mn mpt mbg mwr mwk mlf men), (rf_RW ct 0 mw 958 (upd f_27 (17 : Int32).toNatClampNeg ((f_27 17) + 1)))] ++ ws) H := hP
    have hD : va_D A ([(rf_MO mo mw ma mf m0 m1 mu mv u0 u1 iz th mb mn mpt mbg mwr mwk mlf men), (rf_RW ct 0 mw 958 (upd f_27 (17 : Int32).toNatClampNeg ((f_27 17) + 1)))] ++ ws) := hD
    have hU_36 : rf_R G cx (upd f_27 (17 : Int32).toNatClampNeg ((f_27 17) + 1)) ∧ rf_sm f_27 (upd f_27 (17 : Int32).toNatClampNeg ((f_27 17) + 1)) := (rf_num17 hR_29 (by rw [hq_34]; have := rf_inc9 hL_2 (by omega) (by omega); omega))
    generalize hf_39 : (upd f_27 (17 : Int32).toNatClampNeg ((f_27 17) + 1)) = f_35 at hP hD hU_36
    have hD_40 := rf_du hD_32 hf_39 (by decide)
    have hR_37 := hU_36.1
    have hM_38 := rf_smt hM_30 hU_36.2
    have hk_41 := q_kpu (B := 718) (pl := 17) hk_33 hf_39 (Or.inr (by decide))
    exact W.vret hx hb hr (fun t ht hW => ⟨⟨(ws, f_35), rfl, ⟨hT, ⟨hD_40, hR_37, hM_38, hk_41⟩⟩, by rw [ht]; exact hP, by rw [hAe]; exact hD⟩, hS.F ht⟩) hS.2.2 dX11_notes_128
  · refine lv_sipush (v := 718) hx hb dX11_notes_12 (by decide) ?_
    refine lv_istore (lv' := [(4, .int 718), (0, .ref mo), (1, .int p1), (2, .int p2), (3, .int p3)]) hx hb dX11_notes_15 hl (by decide) rfl (fun ls hl => ?_)
    refine ty_loop (I := fun μ H locs ls => ∃ (ws : va_W) (y_42 : Int32) (f_43 : Nat → Int32), μ = (2147483648 - y_42.toInt).toNat ∧ ty_V ct S ph ws ∧ va_P D vwCl ([(rf_MO mo mw ma mf m0 m1 mu mv u0 u1 iz th mb mn mpt mbg mwr mwk mlf men), (rf_RW ct 0 mw 958 f_43)] ++ ws) H ∧ va_D A ([(rf_MO mo mw ma mf m0 m1 mu mv u0 u1 iz th mb mn mpt mbg mwr mwk mlf men), (rf_RW ct 0 mw 958 f_43)] ++ ws) ∧ va_S A s.heap H locs ∧ lv_has ls 5 [(0, .ref mo), (1, .int p1), (2, .int p2), (3, .int p3), (4, .int y_42)] ∧ rf_R G cx f_43 ∧ rf_sm f f_43 ∧ rf_d (f 8) f f_43 ∧ (718 ≤ y_42.toInt ∧ y_42.toInt ≤ 954) ∧ f_43 17 = 60 ∧ q_kp 718 17 f f_43) ⟨_, ws, (718 : Int32), f, rfl, hT, hP, hD, hS, (lv_sub hl [1, 2, 3, 4, 0] rfl), hR, (rf_smr f), (rf_dr f), ⟨by decide, by decide⟩, hc_1, q_kp0⟩ (fun μ H locs ls hI ih_17 => ?_)
    obtain ⟨ws, y_42, f_43, rfl, hT, hP, hD, hS, hl, hR_17, hM_17, hD_17, hex_17⟩ := hI
    refine lv_iload hx hb dX11_notes_17 (lv_at hl 4 rfl) ?_
    refine lv_sipush (v := 954) hx hb dX11_notes_19 (by decide) ?_
    refine lv_icmp_ge (tgt := 47) hx hb dX11_notes_22 (by decide) (fun hc_44 => ?_) (fun hc_44 => ?_)
    · refine lv_aload_n hx hb dX11_notes_47 rfl (lv_at hl 0 rfl) ?_
      refine va_get (v := .ref mw) (D := D) (ci := 11) (C := RX11) (T := TX11) (N := 19) hx hb hts in_X11 hown hK hP 0 rfl rfl 0 (by decide) (hts _ kl_RX11_9) (fun _ h9 => h9) rfl dX11_notes_48 ?_
      refine lv_bipush (v := 17) hx hb dX11_notes_51 (by decide) ?_
      refine lv_dup2_11 hx hb dX11_notes_53 rfl rfl ?_
      refine va_iald hx hb hK hP 1 0 rfl rfl (cm_vin (by decide)) dX11_notes_54 ?_
      refine cm_cst (y := (f_43 17)) (by first | rfl | decide +kernel) ?_
      refine lv_iconst (v := 1) hx hb dX11_notes_55 (by decide) ?_
      refine lv_isub hx hb dX11_notes_56 ?_
      refine va_iast hx hb hK hP hD hS 1 0 rfl rfl (cm_vin (by decide)) dX11_notes_57 (fun H locs hP hD hS => ?_)
      have hP : va_P D vwCl ([(rf_MO mo mw ma mf m0 m1 mu mv u0 u1 iz th mb mn mpt mbg mwr mwk mlf men), (rf_RW ct 0 mw 958 (upd f_43 (17 : Int32).toNatClampNeg ((f_43 17) - 1)))] ++ ws) H := hP
      have hD : va_D A ([(rf_MO mo mw ma mf m0 m1 mu mv u0 u1 iz th mb mn mpt mbg mwr mwk mlf men), (rf_RW ct 0 mw 958 (upd f_43 (17 : Int32).toNatClampNeg ((f_43 17) - 1)))] ++ ws) := hD
      have hU_46 : rf_R G cx (upd f_43 (17 : Int32).toNatClampNeg ((f_43 17) - 1)) ∧ rf_sm f_43 (upd f_43 (17 : Int32).toNatClampNeg ((f_43 17) - 1)) := (rf_num17 hR_17 (by rw [hex_17.2.1]; decide))
      generalize hf_49 : (upd f_43 (17 : Int32).toNatClampNeg ((f_43 17) - 1)) = f_45 at hP hD hU_46
      have hD_50 := rf_du hD_17 hf_49 (by decide)
      have hR_47 := hU_46.1
      have hM_48 := rf_smt hM_17 hU_46.2
      have hk_51 := q_kpu (B := 718) (pl := 17) hex_17.2.2 hf_49 (Or.inr (by decide))
      have hL_52 : 0 ≤ (f_45 17).toInt ∧ (f_45 17).toInt ≤ 59 := (by rw [rf_at17 hf_49, hex_17.2.1]; decide)
      refine lv_sipush (v := 718) hx hb dX11_notes_58 (by decide) ?_
      refine lv_iconst (v := 4) hx hb dX11_notes_61 (by decide) ?_
      refine lv_aload_n hx hb dX11_notes_62 rfl (lv_at hl 0 rfl) ?_
      refine va_get (v := .ref mw) (D := D) (ci := 11) (C := RX11) (T := TX11) (N := 19) hx hb hts in_X11 hown hK hP 0 rfl rfl 0 (by decide) (hts _ kl_RX11_9) (fun _ h9 => h9) rfl dX11_notes_63 ?_
      refine lv_bipush (v := 17) hx hb dX11_notes_66 (by decide) ?_
      refine va_iald hx hb hK hP 1 0 rfl rfl (cm_vin (by decide)) dX11_notes_68 ?_
      refine cm_cst (y := (f_45 17)) (by first | rfl | decide +kernel) ?_
      refine lv_imul hx hb dX11_notes_69 ?_
      refine lv_iadd hx hb dX11_notes_70 ?_
      refine lv_istore (lv' := [(4, .int (718 + (4 * (f_45 17)))), (0, .ref mo), (1, .int p1), (2, .int p2), (3, .int p3)]) hx hb dX11_notes_71 hl (by decide) rfl (fun ls hl => ?_)
      refine lv_aload_n hx hb dX11_notes_73 rfl (lv_at hl 1 rfl) ?_
      refine va_get (v := .ref mw) (D := D) (ci := 11) (C := RX11) (T := TX11) (N := 19) hx hb hts in_X11 hown hK hP 0 rfl rfl 0 (by decide) (hts _ kl_RX11_9) (fun _ h9 => h9) rfl dX11_notes_74 ?_
      refine lv_iload hx hb dX11_notes_77 (lv_at hl 0 rfl) ?_
      refine lv_aload_n hx hb dX11_notes_79 rfl (lv_at hl 1 rfl) ?_
      refine va_get (v := .ref mw) (D := D) (ci := 11) (C := RX11) (T := TX11) (N := 19) hx hb hts in_X11 hown hK hP 0 rfl rfl 0 (by decide) (hts _ kl_RX11_9) (fun _ h9 => h9) rfl dX11_notes_80 ?_
      refine lv_bipush (v := 8) hx hb dX11_notes_83 (by decide) ?_
      refine va_iald hx hb hK hP 1 0 rfl rfl (cm_vin (by decide)) dX11_notes_85 ?_
      refine cm_cst (y := (f_45 8)) (by first | rfl | decide +kernel) ?_
      refine va_iast hx hb hK hP hD hS 1 0 rfl rfl (rf_in1 (by have := (rf_nb0 (a := 718) (b := 4) (A := 718) (B := 4) (N := 59) (by decide) (by decide) hL_52 (by decide) (by decide) (by decide) (by decide)); omega)) dX11_notes_86 (fun H locs hP hD hS => ?_)
      have hP : va_P D vwCl ([(rf_MO mo mw ma mf m0 m1 mu mv u0 u1 iz th mb mn mpt mbg mwr mwk mlf men), (rf_RW ct 0 mw 958 (upd f_45 (718 + (4 * (f_45 17))).toNatClampNeg (f_45 8)))] ++ ws) H := hP
      have hD : va_D A ([(rf_MO mo mw ma mf m0 m1 mu mv u0 u1 iz th mb mn mpt mbg mwr mwk mlf men), (rf_RW ct 0 mw 958 (upd f_45 (718 + (4 * (f_45 17))).toNatClampNeg (f_45 8)))] ++ ws) := hD
      have hU_54 : rf_R G cx (upd f_45 (718 + (4 * (f_45 17))).toNatClampNeg (f_45 8)) ∧ rf_sm f_45 (upd f_45 (718 + (4 * (f_45 17))).toNatClampNeg (f_45 8)) := (rf_free _ hR_47 (Or.inr (rf_ge (rf_nb0 (a := 718) (b := 4) (A := 718) (B := 4) (N := 59) (by decide) (by decide) hL_52 (by decide) (by decide) (by decide) (by decide)).1)))
      generalize hf_57 : (upd f_45 (718 + (4 * (f_45 17))).toNatClampNeg (f_45 8)) = f_53 at hP hD hU_54
      have hD_58 := rf_du hD_50 hf_57 (by have := rf_ge (rf_nb0 (a := 718) (b := 4) (A := 718) (B := 4) (N := 59) (by decide) (by decide) hL_52 (by decide) (by decide) (by decide) (by decide)).1; omega)
      have hR_55 := hU_54.1
      have hM_56 := rf_smt hM_48 hU_54.2
      have hk_59 := q_kpu (B := 718) (pl := 17) hk_51 hf_57 (Or.inl (show 718 ≤ (Int32.toInt _).toNat from (by have e := rf_nbA (a := 718) (b := 4) (l := f_45 17) (k := 0) (A := 718) (B := 4) (K := 0) (N := 59) (by decide) (by decide) (by decide) hL_52 (by decide) (by decide) (by decide) (by decide) (by decide); rw [Int32.add_zero] at e; have := hL_52; omega)))
      have hq_60 : f_53 17 = f_45 17 := (rf_u17 hf_57 (rf_ge (rf_nb0 (a := 718) (b := 4) (A := 718) (B := 4) (N := 59) (by decide) (by decide) hL_52 (by decide) (by decide) (by decide) (by decide)).1) (by omega)).trans rfl
      refine lv_aload_n hx hb dX11_notes_87 rfl (lv_at hl 1 rfl) ?_
      refine va_get (v := .ref mw) (D := D) (ci := 11) (C := RX11) (T := TX11) (N := 19) hx hb hts in_X11 hown hK hP 0 rfl rfl 0 (by decide) (hts _ kl_RX11_9) (fun _ h9 => h9) rfl dX11_notes_88 ?_
      refine lv_iload hx hb dX11_notes_91 (lv_at hl 0 rfl) ?_
      refine lv_iconst (v := 1) hx hb dX11_notes_93 (by decide) ?_
      refine lv_iadd hx hb dX11_notes_94 ?_
      refine lv_iload_n hx hb dX11_notes_95 rfl (lv_at hl 2 rfl) ?_
      refine va_iast hx hb hK hP hD hS 1 0 rfl rfl (rf_in1 (by have := (rf_nb (a := 718) (b := 4) (A := 718) (B := 4) (N := 59) (k := 1) (K := 1) (by decide) (by decide) (by decide) hL_52 (by decide) (by decide) (by decide) (by decide) (by decide)); omega)) dX11_notes_96 (fun H locs hP hD hS => ?_)
      have hP : va_P D vwCl ([(rf_MO mo mw ma mf m0 m1 mu mv u0 u1 iz th mb mn mpt mbg mwr mwk mlf men), (rf_RW ct 0 mw 958 (upd f_53 ((718 + (4 * (f_45 17))) + 1).toNatClampNeg p1))] ++ ws) H := hP
      have hD : va_D A ([(rf_MO mo mw ma mf m0 m1 mu mv u0 u1 iz th mb mn mpt mbg mwr mwk mlf men), (rf_RW ct 0 mw 958 (upd f_53 ((718 + (4 * (f_45 17))) + 1).toNatClampNeg p1))] ++ ws) := hD
      have hU_62 : rf_R G cx (upd f_53 ((718 + (4 * (f_45 17))) + 1).toNatClampNeg p1) ∧ rf_sm f_53 (upd f_53 ((718 + (4 * (f_45 17))) + 1).toNatClampNeg p1) := (rf_free _ hR_55 (Or.inr (rf_ge (rf_nb (a := 718) (b := 4) (A := 718) (B := 4) (N := 59) (k := 1) (K := 1) (by decide) (by decide) (by decide) hL_52 (by decide) (by decide) (by decide) (by decide) (by decide)).1)))
      generalize hf_65 : (upd f_53 ((718 + (4 * (f_45 17))) + 1).toNatClampNeg p1) = f_61 at hP hD hU_62
      have hD_66 := rf_du hD_58 hf_65 (by have := rf_ge (rf_nb (a := 718) (b := 4) (A := 718) (B := 4) (N := 59) (k := 1) (K := 1) (by decide) (by decide) (by decide) hL_52 (by decide) (by decide) (by decide) (by decide) (by decide)).1; omega)
      have hR_63 := hU_62.1
      have hM_64 := rf_smt hM_56 hU_62.2
      have hk_67 := q_kpu (B := 718) (pl := 17) hk_59 hf_65 (Or.inl (show 718 ≤ (Int32.toInt _).toNat from (by have e := rf_nbA (a := 718) (b := 4) (l := f_45 17) (k := 1) (A := 718) (B := 4) (K := 1) (N := 59) (by decide) (by decide) (by decide) hL_52 (by decide) (by decide) (by decide) (by decide) (by decide); have := hL_52; omega)))
      have hq_68 : f_61 17 = f_45 17 := (rf_u17 hf_65 (rf_ge (rf_nb (a := 718) (b := 4) (A := 718) (B := 4) (N := 59) (k := 1) (K := 1) (by decide) (by decide) (by decide) hL_52 (by decide) (by decide) (by decide) (by decide) (by decide)).1) (by omega)).trans hq_60
      refine lv_aload_n hx hb dX11_notes_97 rfl (lv_at hl 1 rfl) ?_
      refine va_get (v := .ref mw) (D := D) (ci := 11) (C := RX11) (T := TX11) (N := 19) hx hb hts in_X11 hown hK hP 0 rfl rfl 0 (by decide) (hts _ kl_RX11_9) (fun _ h9 => h9) rfl dX11_notes_98 ?_
      refine lv_iload hx hb dX11_notes_101 (lv_at hl 0 rfl) ?_
      refine lv_iconst (v := 2) hx hb dX11_notes_103 (by decide) ?_
      refine lv_iadd hx hb dX11_notes_104 ?_
      refine lv_iload_n hx hb dX11_notes_105 rfl (lv_at hl 3 rfl) ?_
      refine va_iast hx hb hK hP hD hS 1 0 rfl rfl (rf_in1 (by have := (rf_nb (a := 718) (b := 4) (A := 718) (B := 4) (N := 59) (k := 2) (K := 2) (by decide) (by decide) (by decide) hL_52 (by decide) (by decide) (by decide) (by decide) (by decide)); omega)) dX11_notes_106 (fun H locs hP hD hS => ?_)
      have hP : va_P D vwCl ([(rf_MO mo mw ma mf m0 m1 mu mv u0 u1 iz th mb mn mpt mbg mwr mwk mlf men), (rf_RW ct 0 mw 958 (upd f_61 ((718 + (4 * (f_45 17))) + 2).toNatClampNeg p2))] ++ ws) H := hP
      have hD : va_D A ([(rf_MO mo mw ma mf m0 m1 mu mv u0 u1 iz th mb mn mpt mbg mwr mwk mlf men), (rf_RW ct 0 mw 958 (upd f_61 ((718 + (4 * (f_45 17))) + 2).toNatClampNeg p2))] ++ ws) := hD
      have hU_70 : rf_R G cx (upd f_61 ((718 + (4 * (f_45 17))) + 2).toNatClampNeg p2) ∧ rf_sm f_61 (upd f_61 ((718 + (4 * (f_45 17))) + 2).toNatClampNeg p2) := (rf_free _ hR_63 (Or.inr (rf_ge (rf_nb (a := 718) (b := 4) (A := 718) (B := 4) (N := 59) (k := 2) (K := 2) (by decide) (by decide) (by decide) hL_52 (by decide) (by decide) (by decide) (by decide) (by decide)).1)))
      generalize hf_73 : (upd f_61 ((718 + (4 * (f_45 17))) + 2).toNatClampNeg p2) = f_69 at hP hD hU_70
      have hD_74 := rf_du hD_66 hf_73 (by have := rf_ge (rf_nb (a := 718) (b := 4) (A := 718) (B := 4) (N := 59) (k := 2) (K := 2) (by decide) (by decide) (by decide) hL_52 (by decide) (by decide) (by decide) (by decide) (by decide)).1; omega)
      have hR_71 := hU_70.1
      have hM_72 := rf_smt hM_64 hU_70.2
      have hk_75 := q_kpu (B := 718) (pl := 17) hk_67 hf_73 (Or.inl (show 718 ≤ (Int32.toInt _).toNat from (by have e := rf_nbA (a := 718) (b := 4) (l := f_45 17) (k := 2) (A := 718) (B := 4) (K := 2) (N := 59) (by decide) (by decide) (by decide) hL_52 (by decide) (by decide) (by decide) (by decide) (by decide); have := hL_52; omega)))
      have hq_76 : f_69 17 = f_45 17 := (rf_u17 hf_73 (rf_ge (rf_nb (a := 718) (b := 4) (A := 718) (B := 4) (N := 59) (k := 2) (K := 2) (by decide) (by decide) (by decide) hL_52 (by decide) (by decide) (by decide) (by decide) (by decide)).1) (by omega)).trans hq_68
      refine lv_aload_n hx hb dX11_notes_107 rfl (lv_at hl 1 rfl) ?_
      refine va_get (v := .ref mw) (D := D) (ci := 11) (C := RX11) (T := TX11) (N := 19) hx hb hts in_X11 hown hK hP 0 rfl rfl 0 (by decide) (hts _ kl_RX11_9) (fun _ h9 => h9) rfl dX11_notes_108 ?_
      refine lv_iload hx hb dX11_notes_111 (lv_at hl 0 rfl) ?_
      refine lv_iconst (v := 3) hx hb dX11_notes_113 (by decide) ?_
      refine lv_iadd hx hb dX11_notes_114 ?_
      refine lv_iload_n hx hb dX11_notes_115 rfl (lv_at hl 4 rfl) ?_
      refine va_iast hx hb hK hP hD hS 1 0 rfl rfl (rf_in1 (by have := (rf_nb (a := 718) (b := 4) (A := 718) (B := 4) (N := 59) (k := 3) (K := 3) (by decide) (by decide) (by decide) hL_52 (by decide) (by decide) (by decide) (by decide) (by decide)); omega)) dX11_notes_116 (fun H locs hP hD hS => ?_)
      have hP : va_P D vwCl ([(rf_MO mo mw ma mf m0 m1 mu mv u0 u1 iz th mb mn mpt mbg mwr mwk mlf men), (rf_RW ct 0 mw 958 (upd f_69 ((718 + (4 * (f_45 17))) + 3).toNatClampNeg p3))] ++ ws) H := hP
      have hD : va_D A ([(rf_MO mo mw ma mf m0 m1 mu mv u0 u1 iz th mb mn mpt mbg mwr mwk mlf men), (rf_RW ct 0 mw 958 (upd f_69 ((718 + (4 * (f_45 17))) + 3).toNatClampNeg p3))] ++ ws) := hD
      have hU_78 : rf_R G cx (upd f_69 ((718 + (4 * (f_45 17))) + 3).toNatClampNeg p3) ∧ rf_sm f_69 (upd f_69 ((718 + (4 * (f_45 17))) + 3).toNatClampNeg p3) := (rf_free _ hR_71 (Or.inr (rf_ge (rf_nb (a := 718) (b := 4) (A := 718) (B := 4) (N := 59) (k := 3) (K := 3) (by decide) (by decide) (by decide) hL_52 (by decide) (by decide) (by decide) (by decide) (by decide)).1)))
      generalize hf_81 : (upd f_69 ((718 + (4 * (f_45 17))) + 3).toNatClampNeg p3) = f_77 at hP hD hU_78
      have hD_82 := rf_du hD_74 hf_81 (by have := rf_ge (rf_nb (a := 718) (b := 4) (A := 718) (B := 4) (N := 59) (k := 3) (K := 3) (by decide) (by decide) (by decide) hL_52 (by decide) (by decide) (by decide) (by decide) (by decide)).1; omega)
      have hR_79 := hU_78.1
      have hM_80 := rf_smt hM_72 hU_78.2
      have hk_83 := q_kpu (B := 718) (pl := 17) hk_75 hf_81 (Or.inl (show 718 ≤ (Int32.toInt _).toNat from (by have e := rf_nbA (a := 718) (b := 4) (l := f_45 17) (k := 3) (A := 718) (B := 4) (K := 3) (N := 59) (by decide) (by decide) (by decide) hL_52 (by decide) (by decide) (by decide) (by decide) (by decide); have := hL_52; omega)))
      have hq_84 : f_77 17 = f_45 17 := (rf_u17 hf_81 (rf_ge (rf_nb (a := 718) (b := 4) (A := 718) (B := 4) (N := 59) (k := 3) (K := 3) (by decide) (by decide) (by decide) hL_52 (by decide) (by decide) (by decide) (by decide) (by decide)).1) (by omega)).trans hq_76
      refine lv_aload_n hx hb dX11_notes_117 rfl (lv_at hl 1 rfl) ?_
      refine va_get (v := .ref mw) (D := D) (ci := 11) (C := RX11) (T := TX11) (N := 19) hx hb hts in_X11 hown hK hP 0 rfl rfl 0 (by decide) (hts _ kl_RX11_9) (fun _ h9 => h9) rfl dX11_notes_118 ?_
      refine lv_bipush (v := 17) hx hb dX11_notes_121 (by decide) ?_
      refine lv_dup2_11 hx hb dX11_notes_123 rfl rfl ?_
      refine va_iald hx hb hK hP 1 0 rfl rfl (cm_vin (by decide)) dX11_notes_124 ?_
      refine cm_cst (y := (f_77 17)) (by first | rfl | decide +kernel) ?_
      refine lv_iconst (v := 1) hx hb dX11_notes_125 (by decide) ?_
      refine lv_iadd hx hb dX11_notes_126 ?_
      refine va_iast hx hb hK hP hD hS 1 0 rfl rfl (cm_vin (by decide)) dX11_notes_127 (fun H locs hP hD hS => ?_)
      have hP : va_P D vwCl ([(rf_MO mo mw ma mf m0 m1 mu mv u0 u1 iz th mb mn mpt mbg mwr mwk mlf men), (rf_RW ct 0 mw 958 (upd f_77 (17 : Int32).toNatClampNeg ((f_77 17) + 1)))] ++ ws) H := hP
      have hD : va_D A ([(rf_MO mo mw ma mf m0 m1 mu mv u0 u1 iz th mb mn mpt mbg mwr mwk mlf men), (rf_RW ct 0 mw 958 (upd f_77 (17 : Int32).toNatClampNeg ((f_77 17) + 1)))] ++ ws) := hD
      have hU_86 : rf_R G cx (upd f_77 (17 : Int32).toNatClampNeg ((f_77 17) + 1)) ∧ rf_sm f_77 (upd f_77 (17 : Int32).toNatClampNeg ((f_77 17) + 1)) := (rf_num17 hR_79 (by rw [hq_84]; have := rf_inc9 hL_52 (by omega) (by omega); omega))
      generalize hf_89 : (upd f_77 (17 : Int32).toNatClampNeg ((f_77 17) + 1)) = f_85 at hP hD hU_86
      have hD_90 := rf_du hD_82 hf_89 (by decide)
      have hR_87 := hU_86.1
      have hM_88 := rf_smt hM_80 hU_86.2
      have hk_91 := q_kpu (B := 718) (pl := 17) hk_83 hf_89 (Or.inr (by decide))
      exact W.vret hx hb hr (fun t ht hW => ⟨⟨(ws, f_85), rfl, ⟨hT, ⟨hD_90, hR_87, hM_88, hk_91⟩⟩, by rw [ht]; exact hP, by rw [hAe]; exact hD⟩, hS.F ht⟩) hS.2.2 dX11_notes_128
    · refine lv_aload_n hx hb dX11_notes_25 rfl (lv_at hl 0 rfl) ?_
      refine va_get (v := .ref mw) (D := D) (ci := 11) (C := RX11) (T := TX11) (N := 19) hx hb hts in_X11 hown hK hP 0 rfl rfl 0 (by decide) (hts _ kl_RX11_9) (fun _ h9 => h9) rfl dX11_notes_26 ?_
      refine lv_iload hx hb dX11_notes_29 (lv_at hl 4 rfl) ?_
      refine lv_aload_n hx hb dX11_notes_31 rfl (lv_at hl 0 rfl) ?_
      refine va_get (v := .ref mw) (D := D) (ci := 11) (C := RX11) (T := TX11) (N := 19) hx hb hts in_X11 hown hK hP 0 rfl rfl 0 (by decide) (hts _ kl_RX11_9) (fun _ h9 => h9) rfl dX11_notes_32 ?_
      refine lv_iload hx hb dX11_notes_35 (lv_at hl 4 rfl) ?_
      refine lv_iconst (v := 4) hx hb dX11_notes_37 (by decide) ?_
      refine lv_iadd hx hb dX11_notes_38 ?_
      refine va_iald hx hb hK hP 1 0 rfl rfl (rf_in2 (K := 4) (by decide) (by have := hex_17.1; have := rf_ng (b := 954) (by decide) hc_44; omega)) dX11_notes_39 ?_
      refine va_iast hx hb hK hP hD hS 1 0 rfl rfl (rf_in1 (by have := hex_17.1; omega)) dX11_notes_40 (fun H locs hP hD hS => ?_)
      have hP : va_P D vwCl ([(rf_MO mo mw ma mf m0 m1 mu mv u0 u1 iz th mb mn mpt mbg mwr mwk mlf men), (rf_RW ct 0 mw 958 (upd f_43 y_42.toNatClampNeg (f_43 (y_42 + 4).toNatClampNeg)))] ++ ws) H := hP
      have hD : va_D A ([(rf_MO mo mw ma mf m0 m1 mu mv u0 u1 iz th mb mn mpt mbg mwr mwk mlf men), (rf_RW ct 0 mw 958 (upd f_43 y_42.toNatClampNeg (f_43 (y_42 + 4).toNatClampNeg)))] ++ ws) := hD
      have hU_93 : rf_R G cx (upd f_43 y_42.toNatClampNeg (f_43 (y_42 + 4).toNatClampNeg)) ∧ rf_sm f_43 (upd f_43 y_42.toNatClampNeg (f_43 (y_42 + 4).toNatClampNeg)) := (rf_free _ hR_17 (Or.inr (rf_ge (by have := hex_17.1; omega))))
      generalize hf_96 : (upd f_43 y_42.toNatClampNeg (f_43 (y_42 + 4).toNatClampNeg)) = f_92 at hP hD hU_93
      have hD_97 := rf_du hD_17 hf_96 (by have q9 := rf_ge (y := y_42) (by have := hex_17.1; omega); omega)
      have hR_94 := hU_93.1
      have hM_95 := rf_smt hM_17 hU_93.2
      refine lv_iinc (v := (y_42 + Int32.ofInt 1)) (lv' := [(4, .int (y_42 + Int32.ofInt 1)), (0, .ref mo), (1, .int p1), (2, .int p2), (3, .int p3)]) hx hb dX11_notes_41 hl (k := 4) rfl rfl (by decide) rfl (fun ls hl => ?_)
      refine lv_goto (tgt := 17) hx hb dX11_notes_44 (by decide) ?_
      exact ih_17 _ _ _ _ (ty_inc (cm_lt hc_44)) ⟨ws, (y_42 + Int32.ofInt 1), f_92, rfl, hT, hP, hD, hS, (lv_sub hl [1, 2, 3, 4, 0] rfl), hR_94, hM_95, hD_97, rf_lp (by decide) hex_17.1 hc_44 (by omega) (by omega), (rf_u17 hf_96 (rf_ge (by have := hex_17; omega)) (by omega)).trans hex_17.2.1, q_kpu hex_17.2.2 hf_96 (Or.inl (show 718 ≤ (Int32.toInt _).toNat from by have := hex_17.1; omega))⟩
def q_X11_records (f : Nat → Int32) (su : Nat → Int64) (p1 : Int32) (p2 : Int32) (f1 : Nat → Int32) : Prop := ((¬ (f 12) = (30 : Int32) ∧ ((0 ≤ (f 12).toInt ∧ (f 12).toInt ≤ 29) ∧ (∃ (f_3 : Nat → Int32), (upd f (568 + (5 * (f 12))).toNatClampNeg p1) = f_3 ∧ (∃ (r_10 : Int64), (q_X11_sum su p1 (4 : Int32) r_10) ∧ (∃ (f_16 : Nat → Int32), (upd f_3 ((568 + (5 * (f 12))) + 1).toNatClampNeg r_10.toInt32) = f_16 ∧ (∃ (r_23 : Int64), (q_X11_sum su p1 (5 : Int32) r_23) ∧ (∃ (f_29 : Nat → Int32), (upd f_16 ((568 + (5 * (f 12))) + 2).toNatClampNeg r_23.toInt32) = f_29 ∧ (∃ (f_36 : Nat → Int32), (upd f_29 ((568 + (5 * (f 12))) + 3).toNatClampNeg (f_29 8)) = f_36 ∧ ((p2 = (0 : Int32) ∧ (∃ (f_44 : Nat → Int32), (upd f_36 ((568 + (5 * (f 12))) + 4).toNatClampNeg 0) = f_44 ∧ (∃ (f_51 : Nat → Int32), (upd f_44 (12 : Int32).toNatClampNeg ((f_44 12) + 1)) = f_51 ∧ (f1 = f_51)))) ∨ (¬ p2 = (0 : Int32) ∧ (∃ (f_57 : Nat → Int32), (upd f_36 ((568 + (5 * (f 12))) + 4).toNatClampNeg 1) = f_57 ∧ (∃ (f_64 : Nat → Int32), (upd f_57 (12 : Int32).toNatClampNeg ((f_57 12) + 1)) = f_64 ∧ (f1 = f_64))))))))))))) ∨ ((f 12) = (30 : Int32) ∧ (∃ (y_70 : Int32) (f_71 : Nat → Int32), ((568 ≤ y_70.toInt ∧ y_70.toInt ≤ 713) ∧ f_71 12 = 30 ∧ q_sh f y_70 f_71) ∧ ((713 : Int32) ≤ y_70 ∧ (∃ (f_73 : Nat → Int32), (upd f_71 (12 : Int32).toNatClampNeg ((f_71 12) - 1)) = f_73 ∧ ((0 ≤ (f_73 12).toInt ∧ (f_73 12).toInt ≤ 29) ∧ (∃ (f_80 : Nat → Int32), (upd f_73 (568 + (5 * (f_73 12))).toNatClampNeg p1) = f_80 ∧ (∃ (r_87 : Int64), (q_X11_sum su p1 (4 : Int32) r_87) ∧ (∃ (f_93 : Nat → Int32), (upd f_80 ((568 + (5 * (f_73 12))) + 1).toNatClampNeg r_87.toInt32) = f_93 ∧ (∃ (r_100 : Int64), (q_X11_sum su p1 (5 : Int32) r_100) ∧ (∃ (f_106 : Nat → Int32), (upd f_93 ((568 + (5 * (f_73 12))) + 2).toNatClampNeg r_100.toInt32) = f_106 ∧ (∃ (f_113 : Nat → Int32), (upd f_106 ((568 + (5 * (f_73 12))) + 3).toNatClampNeg (f_106 8)) = f_113 ∧ ((p2 = (0 : Int32) ∧ (∃ (f_121 : Nat → Int32), (upd f_113 ((568 + (5 * (f_73 12))) + 4).toNatClampNeg 0) = f_121 ∧ (∃ (f_128 : Nat → Int32), (upd f_121 (12 : Int32).toNatClampNeg ((f_121 12) + 1)) = f_128 ∧ (f1 = f_128)))) ∨ (¬ p2 = (0 : Int32) ∧ (∃ (f_134 : Nat → Int32), (upd f_113 ((568 + (5 * (f_73 12))) + 4).toNatClampNeg 1) = f_134 ∧ (∃ (f_141 : Nat → Int32), (upd f_134 (12 : Int32).toNatClampNeg ((f_134 12) + 1)) = f_141 ∧ (f1 = f_141)))))))))))))))))
set_option maxRecDepth 100000 in
set_option maxHeartbeats 4000000 in
theorem m_X11_records (l : Launch) (D : va_G) (ct : Nat → ClassId) (S : ty_S) (ws : va_W) (ph : va_W → Prop) (xx : Nat → Nat → Nat → Prop) (mo : Nat) (mw : Nat) (ma : Nat) (mf : Nat) (m0 : Nat) (m1 : Nat) (mu : Nat) (mv : Nat) (u0 : Nat) (u1 : Nat) (iz : Nat) (mb : Nat) (th : Int32) (mn : Int32) (mpt : Int32) (mbg : Int32) (mwr : Int32) (mwk : Int32) (mlf : Int32) (men : Int32) (f : Nat → Int32) (G : Nat → Int32) (cx : Int) (su : Nat → Int64) (p1 : Int32) (p2 : Int32) (sz : Nat) (hT : ty_V ct S ph ws) (hph : ty_C ph xx) (hy1 : ty_y1 xx) (hR : rf_R G cx f) (hc : 0 ≤ p1.toInt ∧ p1.toInt < (G 9).toInt) : Met l yX11_records (ws_ yX11_records cX11_records 4 none) ({ frames := 1, cells := 0, slots := 0, locals := 22 } : Room) (va_Pc [.ref mo, .int p1, .int p2] (cmP D ct sz ([(rf_MO mo mw ma mf m0 m1 mu mv u0 u1 iz th mb mn mpt mbg mwr mwk mlf men), (rf_RW ct 0 mw 958 f), (mu, .inl (ct 1, 42, .inr (.inl su)))] ++ ws))) (va_Qv (fun (u : va_W × (Nat → Int32)) => match u with | (u9, f1) => ty_V ct S ph u9 ∧ (q_X11_records f su p1 p2 f1) ∧ rf_d (f 8) f f1 ∧ rf_R G cx f1 ∧ rf_sm f f1) (cmB D ([(rf_MO mo mw ma mf m0 m1 mu mv u0 u1 iz th mb mn mpt mbg mwr mwk mlf men), (rf_RW ct 0 mw 958 f), (mu, .inl (ct 1, 42, .inr (.inl su)))] ++ ws) sz (fun (u : va_W × (Nat → Int32)) => match u with | (u9, f1) => ([(rf_MO mo mw ma mf m0 m1 mu mv u0 u1 iz th mb mn mpt mbg mwr mwk mlf men), (rf_RW ct 0 mw 958 f1), (mu, .inl (ct 1, 42, .inr (.inl su)))] ++ u9))) (va_A ([(rf_MO mo mw ma mf m0 m1 mu mv u0 u1 iz th mb mn mpt mbg mwr mwk mlf men), (rf_RW ct 0 mw 958 f), (mu, .inl (ct 1, 42, .inr (.inl su)))] ++ ws) sz)) 0 0 (va_A ([(rf_MO mo mw ma mf m0 m1 mu mv u0 u1 iz th mb mn mpt mbg mwr mwk mlf men), (rf_RW ct 0 mw 958 f), (mu, .inl (ct 1, 42, .inr (.inl su)))] ++ ws) sz) := by
  refine Met.ofW (cc := cX11_records) (maxL := 4) (ret := none) (by decide) rfl ?_
  intro p e s m args below meth c s₁ B hml hv
  obtain ⟨rfl, hsz, hP, hK, hD0, hX⟩ := hv
  have hx := B.exec
  have hb := B.bytes
  have hr := B.returns
  have hts := ws_all (atoms_spec (ws := ws_ yX11_records cX11_records 4 none) B.pre)
  have hown : s.vm.findClass RX11 = some m.cls := findClass_of_methodNamed B.named
  have hlocks := B.notSynchronized
  subst hsz
  have hD := hD0.self (sz := s.heap.size)
  generalize hAe : va_A ([(rf_MO mo mw ma mf m0 m1 mu mv u0 u1 iz th mb mn mpt mbg mwr mwk mlf men), (rf_RW ct 0 mw 958 f), (mu, .inl (ct 1, 42, .inr (.inl su)))] ++ ws) s.heap.size = A at hD hX ⊢
  have hA : ∀ q : Nat, s.heap.size ≤ q → A q := fun q h => by rw [← hAe]; exact Or.inr h
  have hS : va_S A s.heap s.heap [] := va_S.rf
  have hl := lv_entry ([.ref mo, .int p1, .int p2]) (n := 4) (Nat.le_of_ble_eq_true rfl)
  rw [lg_entry_eq]
  generalize (lg_sl ([.ref mo, .int p1, .int p2]) ++ List.replicate (4 - (lg_sl ([.ref mo, .int p1, .int p2])).length) Slot.unset).toArray = ls at hl ⊢
  have hl : lv_has ls 4 [(0, .ref mo), (1, .int p1), (2, .int p2)] := hl
  refine lv_aload_n hx hb dX11_records_0 rfl (lv_at hl 0 rfl) ?_
  refine va_get (v := .ref mw) (D := D) (ci := 11) (C := RX11) (T := TX11) (N := 19) hx hb hts in_X11 hown hK hP 0 rfl rfl 0 (by decide) (hts _ kl_RX11_9) (fun _ h9 => h9) rfl dX11_records_1 ?_
  refine lv_bipush (v := 12) hx hb dX11_records_4 (by decide) ?_
  refine va_iald hx hb hK hP 1 0 rfl rfl (cm_vin (by decide)) dX11_records_6 ?_
  refine cm_cst (y := (f 12)) (by first | rfl | decide +kernel) ?_
  refine lv_bipush (v := 30) hx hb dX11_records_7 (by decide) ?_
  refine lv_icmp_ne (tgt := 54) hx hb dX11_records_9 (by decide) (fun hc_1 => ?_) (fun hc_1 => ?_)
  · have hL_2 : 0 ≤ (f 12).toInt ∧ (f 12).toInt ≤ 29 := (rf_ne60 (N := 30) (by decide) hc_1 hR.2.2.1.1)
    refine lv_sipush (v := 568) hx hb dX11_records_54 (by decide) ?_
    refine lv_iconst (v := 5) hx hb dX11_records_57 (by decide) ?_
    refine lv_aload_n hx hb dX11_records_58 rfl (lv_at hl 0 rfl) ?_
    refine va_get (v := .ref mw) (D := D) (ci := 11) (C := RX11) (T := TX11) (N := 19) hx hb hts in_X11 hown hK hP 0 rfl rfl 0 (by decide) (hts _ kl_RX11_9) (fun _ h9 => h9) rfl dX11_records_59 ?_
    refine lv_bipush (v := 12) hx hb dX11_records_62 (by decide) ?_
    refine va_iald hx hb hK hP 1 0 rfl rfl (cm_vin (by decide)) dX11_records_64 ?_
    refine cm_cst (y := (f 12)) (by first | rfl | decide +kernel) ?_
    refine lv_imul hx hb dX11_records_65 ?_
    refine lv_iadd hx hb dX11_records_66 ?_
    refine lv_istore_n (lv' := [(3, .int (568 + (5 * (f 12)))), (0, .ref mo), (1, .int p1), (2, .int p2)]) hx hb dX11_records_67 rfl hl (by decide) rfl (fun ls hl => ?_)
    refine lv_aload_n hx hb dX11_records_68 rfl (lv_at hl 1 rfl) ?_
    refine va_get (v := .ref mw) (D := D) (ci := 11) (C := RX11) (T := TX11) (N := 19) hx hb hts in_X11 hown hK hP 0 rfl rfl 0 (by decide) (hts _ kl_RX11_9) (fun _ h9 => h9) rfl dX11_records_69 ?_
    refine lv_iload_n hx hb dX11_records_72 rfl (lv_at hl 0 rfl) ?_
    refine lv_iload_n hx hb dX11_records_73 rfl (lv_at hl 2 rfl) ?_
    refine va_iast hx hb hK hP hD hS 1 0 rfl rfl (rf_in1 (by have := (rf_nb0 (a := 568) (b := 5) (A := 568) (B := 5) (N := 29) (by decide) (by decide) hL_2 (by decide) (by decide) (by decide) (by decide)); omega)) dX11_records_74 (fun H locs hP hD hS => ?_)
    have hP : va_P D vwCl ([(rf_MO mo mw ma mf m0 m1 mu mv u0 u1 iz th mb mn mpt mbg mwr mwk mlf men), (rf_RW ct 0 mw 958 (upd f (568 + (5 * (f 12))).toNatClampNeg p1)), (mu, .inl (ct 1, 42, .inr (.inl su)))] ++ ws) H := hP
    have hD : va_D A ([(rf_MO mo mw ma mf m0 m1 mu mv u0 u1 iz th mb mn mpt mbg mwr mwk mlf men), (rf_RW ct 0 mw 958 (upd f (568 + (5 * (f 12))).toNatClampNeg p1)), (mu, .inl (ct 1, 42, .inr (.inl su)))] ++ ws) := hD
    have hU_4 : rf_R G cx (upd f (568 + (5 * (f 12))).toNatClampNeg p1) ∧ rf_sm f (upd f (568 + (5 * (f 12))).toNatClampNeg p1) := (rf_free _ hR (Or.inr (rf_ge (rf_nb0 (a := 568) (b := 5) (A := 568) (B := 5) (N := 29) (by decide) (by decide) hL_2 (by decide) (by decide) (by decide) (by decide)).1)))
    generalize hf_7 : (upd f (568 + (5 * (f 12))).toNatClampNeg p1) = f_3 at hP hD hU_4
    have hD_8 := rf_du (rf_dr f) hf_7 (by have := rf_ge (rf_nb0 (a := 568) (b := 5) (A := 568) (B := 5) (N := 29) (by decide) (by decide) hL_2 (by decide) (by decide) (by decide) (by decide)).1; omega)
    have hR_5 := hU_4.1
    have hM_6 := rf_smt (rf_smr f) hU_4.2
    have hq_9 : f_3 12 = f 12 := (rf_u17 hf_7 (rf_ge (rf_nb0 (a := 568) (b := 5) (A := 568) (B := 5) (N := 29) (by decide) (by decide) hL_2 (by decide) (by decide) (by decide) (by decide)).1) (by omega)).trans rfl
    refine lv_aload_n hx hb dX11_records_75 rfl (lv_at hl 1 rfl) ?_
    refine va_get (v := .ref mw) (D := D) (ci := 11) (C := RX11) (T := TX11) (N := 19) hx hb hts in_X11 hown hK hP 0 rfl rfl 0 (by decide) (hts _ kl_RX11_9) (fun _ h9 => h9) rfl dX11_records_76 ?_
    refine lv_iload_n hx hb dX11_records_79 rfl (lv_at hl 0 rfl) ?_
    refine lv_iconst (v := 1) hx hb dX11_records_80 (by decide) ?_
    refine lv_iadd hx hb dX11_records_81 ?_
    refine lv_aload_n hx hb dX11_records_82 rfl (lv_at hl 1 rfl) ?_
    refine lv_iload_n hx hb dX11_records_83 rfl (lv_at hl 2 rfl) ?_
    refine lv_iconst (v := 4) hx hb dX11_records_84 (by decide) ?_
    obtain ⟨hP, hD⟩ := ty_opPD (E1 := [(rf_RW ct 0 mw 958 f_3)]) (E2 := [(rf_MO mo mw ma mf m0 m1 mu mv u0 u1 iz th mb mn mpt mbg mwr mwk mlf men), (mu, .inl (ct 1, 42, .inr (.inl su)))]) (n := 3) [1, 0, 2] hP hD rfl rfl (by decide +kernel) ty_mva
    refine ty_Kl hP hD hS hA (va_runV (As := [.int p1, .int 4]) (rest := [.int ((568 + (5 * (f 12))) + 1), .ref mw]) ⟨hx, hb, hml, hown, hts⟩ (m_X11_sum l D ct S ws ph xx mo mw ma mf m0 m1 mu mv u0 u1 iz mb th mn mpt mbg mwr mwk mlf men su p1 (4 : Int32) _ hT hph hy1 (rf_c6 hR_5 hc) (by decide)) (cm_V 2 hts kc_X11_sum ki_RX11 kl_RX11_261 kv_X11_sum kx_X11_sum kd_X11_sum ⟨Nat.le_of_ble_eq_true rfl, Nat.le_of_ble_eq_true rfl⟩) (ty_preE (ci := 11) (q0 := 1) hP hK hD hS hA hX rfl rfl) rfl rfl hl.1 rfl (lv_room (Nat.le_of_ble_eq_true rfl)) dX11_records_85 ⟨Nat.le_of_ble_eq_true rfl, Nat.le_of_ble_eq_true rfl⟩) (fun r_10 u H locs hw_11 hP hD hS => ?_)
    obtain ⟨ws_12, rfl⟩ : ∃ z, z = u := ⟨_, rfl⟩
    obtain ⟨hT, hp_13⟩ := hw_11
    have hp_13 : (q_X11_sum su p1 (4 : Int32) r_10) := hp_13
    obtain ⟨hP, hD⟩ := ty_shPD (w2 := ([(rf_RW ct 0 mw 958 f_3), (rf_MO mo mw ma mf m0 m1 mu mv u0 u1 iz th mb mn mpt mbg mwr mwk mlf men), (mu, .inl (ct 1, 42, .inr (.inl su)))] ++ ws_12)) hP hD rfl
    refine lv_l2i hx hb dX11_records_88 rfl ?_
    refine va_iast hx hb hK hP hD hS 0 0 rfl rfl (rf_in1 (by have := (rf_nb (a := 568) (b := 5) (A := 568) (B := 5) (N := 29) (k := 1) (K := 1) (by decide) (by decide) (by decide) hL_2 (by decide) (by decide) (by decide) (by decide) (by decide)); omega)) dX11_records_89 (fun H locs hP hD hS => ?_)
    have hP : va_P D vwCl ([(rf_RW ct 0 mw 958 (upd f_3 ((568 + (5 * (f 12))) + 1).toNatClampNeg r_10.toInt32)), (rf_MO mo mw ma mf m0 m1 mu mv u0 u1 iz th mb mn mpt mbg mwr mwk mlf men), (mu, .inl (ct 1, 42, .inr (.inl su)))] ++ ws_12) H := hP
    have hD : va_D A ([(rf_RW ct 0 mw 958 (upd f_3 ((568 + (5 * (f 12))) + 1).toNatClampNeg r_10.toInt32)), (rf_MO mo mw ma mf m0 m1 mu mv u0 u1 iz th mb mn mpt mbg mwr mwk mlf men), (mu, .inl (ct 1, 42, .inr (.inl su)))] ++ ws_12) := hD
    have hU_17 : rf_R G cx (upd f_3 ((568 + (5 * (f 12))) + 1).toNatClampNeg r_10.toInt32) ∧ rf_sm f_3 (upd f_3 ((568 + (5 * (f 12))) + 1).toNatClampNeg r_10.toInt32) := (rf_free _ hR_5 (Or.inr (rf_ge (rf_nb (a := 568) (b := 5) (A := 568) (B := 5) (N := 29) (k := 1) (K := 1) (by decide) (by decide) (by decide) hL_2 (by decide) (by decide) (by decide) (by decide) (by decide)).1)))
    generalize hf_20 : (upd f_3 ((568 + (5 * (f 12))) + 1).toNatClampNeg r_10.toInt32) = f_16 at hP hD hU_17
    have hD_21 := rf_du hD_8 hf_20 (by have := rf_ge (rf_nb (a := 568) (b := 5) (A := 568) (B := 5) (N := 29) (k := 1) (K := 1) (by decide) (by decide) (by decide) hL_2 (by decide) (by decide) (by decide) (by decide) (by decide)).1; omega)
    have hR_18 := hU_17.1
    have hM_19 := rf_smt hM_6 hU_17.2
    have hq_22 : f_16 12 = f 12 := (rf_u17 hf_20 (rf_ge (rf_nb (a := 568) (b := 5) (A := 568) (B := 5) (N := 29) (k := 1) (K := 1) (by decide) (by decide) (by decide) hL_2 (by decide) (by decide) (by decide) (by decide) (by decide)).1) (by omega)).trans hq_9
    refine lv_aload_n hx hb dX11_records_90 rfl (lv_at hl 1 rfl) ?_
    refine va_get (v := .ref mw) (D := D) (ci := 11) (C := RX11) (T := TX11) (N := 19) hx hb hts in_X11 hown hK hP 1 rfl rfl 0 (by decide) (hts _ kl_RX11_9) (fun _ h9 => h9) rfl dX11_records_91 ?_
    refine lv_iload_n hx hb dX11_records_94 rfl (lv_at hl 0 rfl) ?_
    refine lv_iconst (v := 2) hx hb dX11_records_95 (by decide) ?_
    refine lv_iadd hx hb dX11_records_96 ?_
    refine lv_aload_n hx hb dX11_records_97 rfl (lv_at hl 1 rfl) ?_
    refine lv_iload_n hx hb dX11_records_98 rfl (lv_at hl 2 rfl) ?_
    refine lv_iconst (v := 5) hx hb dX11_records_99 (by decide) ?_
    obtain ⟨hP, hD⟩ := ty_ipPD (E1 := [(rf_RW ct 0 mw 958 f_16)]) (E2 := [(rf_MO mo mw ma mf m0 m1 mu mv u0 u1 iz th mb mn mpt mbg mwr mwk mlf men), (mu, .inl (ct 1, 42, .inr (.inl su)))]) hP hD rfl ty_mva
    refine ty_Kl hP hD hS hA (va_runV (As := [.int p1, .int 5]) (rest := [.int ((568 + (5 * (f 12))) + 2), .ref mw]) ⟨hx, hb, hml, hown, hts⟩ (m_X11_sum l D ct S ws_12 ph xx mo mw ma mf m0 m1 mu mv u0 u1 iz mb th mn mpt mbg mwr mwk mlf men su p1 (5 : Int32) _ hT hph hy1 (rf_c6 hR_18 hc) (by decide)) (cm_V 2 hts kc_X11_sum ki_RX11 kl_RX11_261 kv_X11_sum kx_X11_sum kd_X11_sum ⟨Nat.le_of_ble_eq_true rfl, Nat.le_of_ble_eq_true rfl⟩) (ty_preE (ci := 11) (q0 := 1) hP hK hD hS hA hX rfl rfl) rfl rfl hl.1 rfl (lv_room (Nat.le_of_ble_eq_true rfl)) dX11_records_100 ⟨Nat.le_of_ble_eq_true rfl, Nat.le_of_ble_eq_true rfl⟩) (fun r_23 u H locs hw_24 hP hD hS => ?_)
    obtain ⟨ws_25, rfl⟩ : ∃ z, z = u := ⟨_, rfl⟩
    obtain ⟨hT, hp_26⟩ := hw_24
    have hp_26 : (q_X11_sum su p1 (5 : Int32) r_23) := hp_26
    obtain ⟨hP, hD⟩ := ty_shPD (w2 := ([(rf_RW ct 0 mw 958 f_16), (rf_MO mo mw ma mf m0 m1 mu mv u0 u1 iz th mb mn mpt mbg mwr mwk mlf men), (mu, .inl (ct 1, 42, .inr (.inl su)))] ++ ws_25)) hP hD rfl
    refine lv_l2i hx hb dX11_records_103 rfl ?_
    refine va_iast hx hb hK hP hD hS 0 0 rfl rfl (rf_in1 (by have := (rf_nb (a := 568) (b := 5) (A := 568) (B := 5) (N := 29) (k := 2) (K := 2) (by decide) (by decide) (by decide) hL_2 (by decide) (by decide) (by decide) (by decide) (by decide)); omega)) dX11_records_104 (fun H locs hP hD hS => ?_)
    have hP : va_P D vwCl ([(rf_RW ct 0 mw 958 (upd f_16 ((568 + (5 * (f 12))) + 2).toNatClampNeg r_23.toInt32)), (rf_MO mo mw ma mf m0 m1 mu mv u0 u1 iz th mb mn mpt mbg mwr mwk mlf men), (mu, .inl (ct 1, 42, .inr (.inl su)))] ++ ws_25) H := hP
    have hD : va_D A ([(rf_RW ct 0 mw 958 (upd f_16 ((568 + (5 * (f 12))) + 2).toNatClampNeg r_23.toInt32)), (rf_MO mo mw ma mf m0 m1 mu mv u0 u1 iz th mb mn mpt mbg mwr mwk mlf men), (mu, .inl (ct 1, 42, .inr (.inl su)))] ++ ws_25) := hD
    have hU_30 : rf_R G cx (upd f_16 ((568 + (5 * (f 12))) + 2).toNatClampNeg r_23.toInt32) ∧ rf_sm f_16 (upd f_16 ((568 + (5 * (f 12))) + 2).toNatClampNeg r_23.toInt32) := (rf_free _ hR_18 (Or.inr (rf_ge (rf_nb (a := 568) (b := 5) (A := 568) (B := 5) (N := 29) (k := 2) (K := 2) (by decide) (by decide) (by decide) hL_2 (by decide) (by decide) (by decide) (by decide) (by decide)).1)))
    generalize hf_33 : (upd f_16 ((568 + (5 * (f 12))) + 2).toNatClampNeg r_23.toInt32) = f_29 at hP hD hU_30
    have hD_34 := rf_du hD_21 hf_33 (by have := rf_ge (rf_nb (a := 568) (b := 5) (A := 568) (B := 5) (N := 29) (k := 2) (K := 2) (by decide) (by decide) (by decide) hL_2 (by decide) (by decide) (by decide) (by decide) (by decide)).1; omega)
    have hR_31 := hU_30.1
    have hM_32 := rf_smt hM_19 hU_30.2
    have hq_35 : f_29 12 = f 12 := (rf_u17 hf_33 (rf_ge (rf_nb (a := 568) (b := 5) (A := 568) (B := 5) (N := 29) (k := 2) (K := 2) (by decide) (by decide) (by decide) hL_2 (by decide) (by decide) (by decide) (by decide) (by decide)).1) (by omega)).trans hq_22
    refine lv_aload_n hx hb dX11_records_105 rfl (lv_at hl 1 rfl) ?_
    refine va_get (v := .ref mw) (D := D) (ci := 11) (C := RX11) (T := TX11) (N := 19) hx hb hts in_X11 hown hK hP 1 rfl rfl 0 (by decide) (hts _ kl_RX11_9) (fun _ h9 => h9) rfl dX11_records_106 ?_
    refine lv_iload_n hx hb dX11_records_109 rfl (lv_at hl 0 rfl) ?_
    refine lv_iconst (v := 3) hx hb dX11_records_110 (by decide) ?_
    refine lv_iadd hx hb dX11_records_111 ?_
    refine lv_aload_n hx hb dX11_records_112 rfl (lv_at hl 1 rfl) ?_
    refine va_get (v := .ref mw) (D := D) (ci := 11) (C := RX11) (T := TX11) (N := 19) hx hb hts in_X11 hown hK hP 1 rfl rfl 0 (by decide) (hts _ kl_RX11_9) (fun _ h9 => h9) rfl dX11_records_113 ?_
    refine lv_bipush (v := 8) hx hb dX11_records_116 (by decide) ?_
    refine va_iald hx hb hK hP 0 0 rfl rfl (cm_vin (by decide)) dX11_records_118 ?_
    refine cm_cst (y := (f_29 8)) (by first | rfl | decide +kernel) ?_
    refine va_iast hx hb hK hP hD hS 0 0 rfl rfl (rf_in1 (by have := (rf_nb (a := 568) (b := 5) (A := 568) (B := 5) (N := 29) (k := 3) (K := 3) (by decide) (by decide) (by decide) hL_2 (by decide) (by decide) (by decide) (by decide) (by decide)); omega)) dX11_records_119 (fun H locs hP hD hS => ?_)
    have hP : va_P D vwCl ([(rf_RW ct 0 mw 958 (upd f_29 ((568 + (5 * (f 12))) + 3).toNatClampNeg (f_29 8))), (rf_MO mo mw ma mf m0 m1 mu mv u0 u1 iz th mb mn mpt mbg mwr mwk mlf men), (mu, .inl (ct 1, 42, .inr (.inl su)))] ++ ws_25) H := hP
    have hD : va_D A ([(rf_RW ct 0 mw 958 (upd f_29 ((568 + (5 * (f 12))) + 3).toNatClampNeg (f_29 8))), (rf_MO mo mw ma mf m0 m1 mu mv u0 u1 iz th mb mn mpt mbg mwr mwk mlf men), (mu, .inl (ct 1, 42, .inr (.inl su)))] ++ ws_25) := hD
    have hU_37 : rf_R G cx (upd f_29 ((568 + (5 * (f 12))) + 3).toNatClampNeg (f_29 8)) ∧ rf_sm f_29 (upd f_29 ((568 + (5 * (f 12))) + 3).toNatClampNeg (f_29 8)) := (rf_free _ hR_31 (Or.inr (rf_ge (rf_nb (a := 568) (b := 5) (A := 568) (B := 5) (N := 29) (k := 3) (K := 3) (by decide) (by decide) (by decide) hL_2 (by decide) (by decide) (by decide) (by decide) (by decide)).1)))
    generalize hf_40 : (upd f_29 ((568 + (5 * (f 12))) + 3).toNatClampNeg (f_29 8)) = f_36 at hP hD hU_37
    have hD_41 := rf_du hD_34 hf_40 (by have := rf_ge (rf_nb (a := 568) (b := 5) (A := 568) (B := 5) (N := 29) (k := 3) (K := 3) (by decide) (by decide) (by decide) hL_2 (by decide) (by decide) (by decide) (by decide) (by decide)).1; omega)
    have hR_38 := hU_37.1
    have hM_39 := rf_smt hM_32 hU_37.2
    have hq_42 : f_36 12 = f 12 := (rf_u17 hf_40 (rf_ge (rf_nb (a := 568) (b := 5) (A := 568) (B := 5) (N := 29) (k := 3) (K := 3) (by decide) (by decide) (by decide) hL_2 (by decide) (by decide) (by decide) (by decide) (by decide)).1) (by omega)).trans hq_35
    refine lv_aload_n hx hb dX11_records_120 rfl (lv_at hl 1 rfl) ?_
    refine va_get (v := .ref mw) (D := D) (ci := 11) (C := RX11) (T := TX11) (N := 19) hx hb hts in_X11 hown hK hP 1 rfl rfl 0 (by decide) (hts _ kl_RX11_9) (fun _ h9 => h9) rfl dX11_records_121 ?_
    refine lv_iload_n hx hb dX11_records_124 rfl (lv_at hl 0 rfl) ?_
    refine lv_iconst (v := 4) hx hb dX11_records_125 (by decide) ?_
    refine lv_iadd hx hb dX11_records_126 ?_
    refine lv_iload_n hx hb dX11_records_127 rfl (lv_at hl 3 rfl) ?_
    refine lv_if_eq (tgt := 135) hx hb dX11_records_128 (by decide) (fun hc_43 => ?_) (fun hc_43 => ?_)
    · refine lv_iconst (v := 0) hx hb dX11_records_135 (by decide) ?_
      refine va_iast hx hb hK hP hD hS 0 0 rfl rfl (rf_in1 (by have := (rf_nb (a := 568) (b := 5) (A := 568) (B := 5) (N := 29) (k := 4) (K := 4) (by decide) (by decide) (by decide) hL_2 (by decide) (by decide) (by decide) (by decide) (by decide)); omega)) dX11_records_136 (fun H locs hP hD hS => ?_)
      have hP : va_P D vwCl ([(rf_RW ct 0 mw 958 (upd f_36 ((568 + (5 * (f 12))) + 4).toNatClampNeg 0)), (rf_MO mo mw ma mf m0 m1 mu mv u0 u1 iz th mb mn mpt mbg mwr mwk mlf men), (mu, .inl (ct 1, 42, .inr (.inl su)))] ++ ws_25) H := hP
      have hD : va_D A ([(rf_RW ct 0 mw 958 (upd f_36 ((568 + (5 * (f 12))) + 4).toNatClampNeg 0)), (rf_MO mo mw ma mf m0 m1 mu mv u0 u1 iz th mb mn mpt mbg mwr mwk mlf men), (mu, .inl (ct 1, 42, .inr (.inl su)))] ++ ws_25) := hD
      have hU_45 : rf_R G cx (upd f_36 ((568 + (5 * (f 12))) + 4).toNatClampNeg 0) ∧ rf_sm f_36 (upd f_36 ((568 + (5 * (f 12))) + 4).toNatClampNeg 0) := (rf_free _ hR_38 (Or.inr (rf_ge (rf_nb (a := 568) (b := 5) (A := 568) (B := 5) (N := 29) (k := 4) (K := 4) (by decide) (by decide) (by decide) hL_2 (by decide) (by decide) (by decide) (by decide) (by decide)).1)))
      generalize hf_48 : (upd f_36 ((568 + (5 * (f 12))) + 4).toNatClampNeg 0) = f_44 at hP hD hU_45
      have hD_49 := rf_du hD_41 hf_48 (by have := rf_ge (rf_nb (a := 568) (b := 5) (A := 568) (B := 5) (N := 29) (k := 4) (K := 4) (by decide) (by decide) (by decide) hL_2 (by decide) (by decide) (by decide) (by decide) (by decide)).1; omega)
      have hR_46 := hU_45.1
      have hM_47 := rf_smt hM_39 hU_45.2
      have hq_50 : f_44 12 = f 12 := (rf_u17 hf_48 (rf_ge (rf_nb (a := 568) (b := 5) (A := 568) (B := 5) (N := 29) (k := 4) (K := 4) (by decide) (by decide) (by decide) hL_2 (by decide) (by decide) (by decide) (by decide) (by decide)).1) (by omega)).trans hq_42
      refine lv_aload_n hx hb dX11_records_137 rfl (lv_at hl 1 rfl) ?_
      refine va_get (v := .ref mw) (D := D) (ci := 11) (C := RX11) (T := TX11) (N := 19) hx hb hts in_X11 hown hK hP 1 rfl rfl 0 (by decide) (hts _ kl_RX11_9) (fun _ h9 => h9) rfl dX11_records_138 ?_
      refine lv_bipush (v := 12) hx hb dX11_records_141 (by decide) ?_
      refine lv_dup2_11 hx hb dX11_records_143 rfl rfl ?_
      refine va_iald hx hb hK hP 0 0 rfl rfl (cm_vin (by decide)) dX11_records_144 ?_
      refine cm_cst (y := (f_44 12)) (by first | rfl | decide +kernel) ?_
      refine lv_iconst (v := 1) hx hb dX11_records_145 (by decide) ?_
      refine lv_iadd hx hb dX11_records_146 ?_
      refine va_iast hx hb hK hP hD hS 0 0 rfl rfl (cm_vin (by decide)) dX11_records_147 (fun H locs hP hD hS => ?_)
      have hP : va_P D vwCl ([(rf_RW ct 0 mw 958 (upd f_44 (12 : Int32).toNatClampNeg ((f_44 12) + 1))), (rf_MO mo mw ma mf m0 m1 mu mv u0 u1 iz th mb mn mpt mbg mwr mwk mlf men), (mu, .inl (ct 1, 42, .inr (.inl su)))] ++ ws_25) H := hP
      have hD : va_D A ([(rf_RW ct 0 mw 958 (upd f_44 (12 : Int32).toNatClampNeg ((f_44 12) + 1))), (rf_MO mo mw ma mf m0 m1 mu mv u0 u1 iz th mb mn mpt mbg mwr mwk mlf men), (mu, .inl (ct 1, 42, .inr (.inl su)))] ++ ws_25) := hD
      have hU_52 : rf_R G cx (upd f_44 (12 : Int32).toNatClampNeg ((f_44 12) + 1)) ∧ rf_sm f_44 (upd f_44 (12 : Int32).toNatClampNeg ((f_44 12) + 1)) := (rf_num12 hR_46 (by rw [hq_50]; have := rf_inc9 hL_2 (by omega) (by omega); omega))
      generalize hf_55 : (upd f_44 (12 : Int32).toNatClampNeg ((f_44 12) + 1)) = f_51 at hP hD hU_52
      have hD_56 := rf_du hD_49 hf_55 (by decide)
      have hR_53 := hU_52.1
      have hM_54 := rf_smt hM_47 hU_52.2
      obtain ⟨hP, hD⟩ := ty_ordPD (E2 := [(rf_MO mo mw ma mf m0 m1 mu mv u0 u1 iz th mb mn mpt mbg mwr mwk mlf men), (rf_RW ct 0 mw 958 f_51), (mu, .inl (ct 1, 42, .inr (.inl su)))]) (n := 3) [1, 0, 2] hP hD rfl rfl (by decide +kernel)
      exact W.vret hx hb hr (fun t ht hW => ⟨⟨(ws_25, f_51), rfl, ⟨hT, ⟨(Or.inl ⟨hc_1, ⟨hL_2, ⟨f_3, hf_7, ⟨r_10, hp_13, ⟨f_16, hf_20, ⟨r_23, hp_26, ⟨f_29, hf_33, ⟨f_36, hf_40, (Or.inl ⟨hc_43, ⟨f_44, hf_48, ⟨f_51, hf_55, rfl⟩⟩⟩)⟩⟩⟩⟩⟩⟩⟩⟩), ⟨hD_56, hR_53, hM_54⟩⟩⟩, by rw [ht]; exact hP, by rw [hAe]; exact hD⟩, hS.F ht⟩) hS.2.2 dX11_records_148
    · refine lv_iconst (v := 1) hx hb dX11_records_131 (by decide) ?_
      refine lv_goto (tgt := 136) hx hb dX11_records_132 (by decide) ?_
      refine va_iast hx hb hK hP hD hS 0 0 rfl rfl (rf_in1 (by have := (rf_nb (a := 568) (b := 5) (A := 568) (B := 5) (N := 29) (k := 4) (K := 4) (by decide) (by decide) (by decide) hL_2 (by decide) (by decide) (by decide) (by decide) (by decide)); omega)) dX11_records_136 (fun H locs hP hD hS => ?_)
      have hP : va_P D vwCl ([(rf_RW ct 0 mw 958 (upd f_36 ((568 + (5 * (f 12))) + 4).toNatClampNeg 1)), (rf_MO mo mw ma mf m0 m1 mu mv u0 u1 iz th mb mn mpt mbg mwr mwk mlf men), (mu, .inl (ct 1, 42, .inr (.inl su)))] ++ ws_25) H := hP
      have hD : va_D A ([(rf_RW ct 0 mw 958 (upd f_36 ((568 + (5 * (f 12))) + 4).toNatClampNeg 1)), (rf_MO mo mw ma mf m0 m1 mu mv u0 u1 iz th mb mn mpt mbg mwr mwk mlf men), (mu, .inl (ct 1, 42, .inr (.inl su)))] ++ ws_25) := hD
      have hU_58 : rf_R G cx (upd f_36 ((568 + (5 * (f 12))) + 4).toNatClampNeg 1) ∧ rf_sm f_36 (upd f_36 ((568 + (5 * (f 12))) + 4).toNatClampNeg 1) := (rf_free _ hR_38 (Or.inr (rf_ge (rf_nb (a := 568) (b := 5) (A := 568) (B := 5) (N := 29) (k := 4) (K := 4) (by decide) (by decide) (by decide) hL_2 (by decide) (by decide) (by decide) (by decide) (by decide)).1)))
      generalize hf_61 : (upd f_36 ((568 + (5 * (f 12))) + 4).toNatClampNeg 1) = f_57 at hP hD hU_58
      have hD_62 := rf_du hD_41 hf_61 (by have := rf_ge (rf_nb (a := 568) (b := 5) (A := 568) (B := 5) (N := 29) (k := 4) (K := 4) (by decide) (by decide) (by decide) hL_2 (by decide) (by decide) (by decide) (by decide) (by decide)).1; omega)
      have hR_59 := hU_58.1
      have hM_60 := rf_smt hM_39 hU_58.2
      have hq_63 : f_57 12 = f 12 := (rf_u17 hf_61 (rf_ge (rf_nb (a := 568) (b := 5) (A := 568) (B := 5) (N := 29) (k := 4) (K := 4) (by decide) (by decide) (by decide) hL_2 (by decide) (by decide) (by decide) (by decide) (by decide)).1) (by omega)).trans hq_42
      refine lv_aload_n hx hb dX11_records_137 rfl (lv_at hl 1 rfl) ?_
      refine va_get (v := .ref mw) (D := D) (ci := 11) (C := RX11) (T := TX11) (N := 19) hx hb hts in_X11 hown hK hP 1 rfl rfl 0 (by decide) (hts _ kl_RX11_9) (fun _ h9 => h9) rfl dX11_records_138 ?_
      refine lv_bipush (v := 12) hx hb dX11_records_141 (by decide) ?_
      refine lv_dup2_11 hx hb dX11_records_143 rfl rfl ?_
      refine va_iald hx hb hK hP 0 0 rfl rfl (cm_vin (by decide)) dX11_records_144 ?_
      refine cm_cst (y := (f_57 12)) (by first | rfl | decide +kernel) ?_
      refine lv_iconst (v := 1) hx hb dX11_records_145 (by decide) ?_
      refine lv_iadd hx hb dX11_records_146 ?_
      refine va_iast hx hb hK hP hD hS 0 0 rfl rfl (cm_vin (by decide)) dX11_records_147 (fun H locs hP hD hS => ?_)
      have hP : va_P D vwCl ([(rf_RW ct 0 mw 958 (upd f_57 (12 : Int32).toNatClampNeg ((f_57 12) + 1))), (rf_MO mo mw ma mf m0 m1 mu mv u0 u1 iz th mb mn mpt mbg mwr mwk mlf men), (mu, .inl (ct 1, 42, .inr (.inl su)))] ++ ws_25) H := hP
      have hD : va_D A ([(rf_RW ct 0 mw 958 (upd f_57 (12 : Int32).toNatClampNeg ((f_57 12) + 1))), (rf_MO mo mw ma mf m0 m1 mu mv u0 u1 iz th mb mn mpt mbg mwr mwk mlf men), (mu, .inl (ct 1, 42, .inr (.inl su)))] ++ ws_25) := hD
      have hU_65 : rf_R G cx (upd f_57 (12 : Int32).toNatClampNeg ((f_57 12) + 1)) ∧ rf_sm f_57 (upd f_57 (12 : Int32).toNatClampNeg ((f_57 12) + 1)) := (rf_num12 hR_59 (by rw [hq_63]; have := rf_inc9 hL_2 (by omega) (by omega); omega))
      generalize hf_68 : (upd f_57 (12 : Int32).toNatClampNeg ((f_57 12) + 1)) = f_64 at hP hD hU_65
      have hD_69 := rf_du hD_62 hf_68 (by decide)
      have hR_66 := hU_65.1
      have hM_67 := rf_smt hM_60 hU_65.2
      obtain ⟨hP, hD⟩ := ty_ordPD (E2 := [(rf_MO mo mw ma mf m0 m1 mu mv u0 u1 iz th mb mn mpt mbg mwr mwk mlf men), (rf_RW ct 0 mw 958 f_64), (mu, .inl (ct 1, 42, .inr (.inl su)))]) (n := 3) [1, 0, 2] hP hD rfl rfl (by decide +kernel)
      exact W.vret hx hb hr (fun t ht hW => ⟨⟨(ws_25, f_64), rfl, ⟨hT, ⟨(Or.inl ⟨hc_1, ⟨hL_2, ⟨f_3, hf_7, ⟨r_10, hp_13, ⟨f_16, hf_20, ⟨r_23, hp_26, ⟨f_29, hf_33, ⟨f_36, hf_40, (Or.inr ⟨hc_43, ⟨f_57, hf_61, ⟨f_64, hf_68, rfl⟩⟩⟩)⟩⟩⟩⟩⟩⟩⟩⟩), ⟨hD_69, hR_66, hM_67⟩⟩⟩, by rw [ht]; exact hP, by rw [hAe]; exact hD⟩, hS.F ht⟩) hS.2.2 dX11_records_148
  · refine lv_sipush (v := 568) hx hb dX11_records_12 (by decide) ?_
    refine lv_istore_n (lv' := [(3, .int 568), (0, .ref mo), (1, .int p1), (2, .int p2)]) hx hb dX11_records_15 rfl hl (by decide) rfl (fun ls hl => ?_)
    refine ty_loop (I := fun μ H locs ls => ∃ (ws : va_W) (y_70 : Int32) (f_71 : Nat → Int32), μ = (2147483648 - y_70.toInt).toNat ∧ ty_V ct S ph ws ∧ va_P D vwCl ([(rf_MO mo mw ma mf m0 m1 mu mv u0 u1 iz th mb mn mpt mbg mwr mwk mlf men), (rf_RW ct 0 mw 958 f_71), (mu, .inl (ct 1, 42, .inr (.inl su)))] ++ ws) H ∧ va_D A ([(rf_MO mo mw ma mf m0 m1 mu mv u0 u1 iz th mb mn mpt mbg mwr mwk mlf men), (rf_RW ct 0 mw 958 f_71), (mu, .inl (ct 1, 42, .inr (.inl su)))] ++ ws) ∧ va_S A s.heap H locs ∧ lv_has ls 4 [(0, .ref mo), (1, .int p1), (2, .int p2), (3, .int y_70)] ∧ rf_R G cx f_71 ∧ rf_sm f f_71 ∧ rf_d (f 8) f f_71 ∧ (568 ≤ y_70.toInt ∧ y_70.toInt ≤ 713) ∧ f_71 12 = 30 ∧ q_sh f y_70 f_71) ⟨_, ws, (568 : Int32), f, rfl, hT, hP, hD, hS, (lv_sub hl [1, 2, 3, 0] rfl), hR, (rf_smr f), (rf_dr f), ⟨by decide, by decide⟩, hc_1, q_sh0⟩ (fun μ H locs ls hI ih_16 => ?_)
    obtain ⟨ws, y_70, f_71, rfl, hT, hP, hD, hS, hl, hR_16, hM_16, hD_16, hex_16⟩ := hI
    refine lv_iload_n hx hb dX11_records_16 rfl (lv_at hl 3 rfl) ?_
    refine lv_sipush (v := 713) hx hb dX11_records_17 (by decide) ?_
    refine lv_icmp_ge (tgt := 43) hx hb dX11_records_20 (by decide) (fun hc_72 => ?_) (fun hc_72 => ?_)
    · refine lv_aload_n hx hb dX11_records_43 rfl (lv_at hl 0 rfl) ?_
      refine va_get (v := .ref mw) (D := D) (ci := 11) (C := RX11) (T := TX11) (N := 19) hx hb hts in_X11 hown hK hP 0 rfl rfl 0 (by decide) (hts _ kl_RX11_9) (fun _ h9 => h9) rfl dX11_records_44 ?_
      refine lv_bipush (v := 12) hx hb dX11_records_47 (by decide) ?_
      refine lv_dup2_11 hx hb dX11_records_49 rfl rfl ?_
      refine va_iald hx hb hK hP 1 0 rfl rfl (cm_vin (by decide)) dX11_records_50 ?_
      refine cm_cst (y := (f_71 12)) (by first | rfl | decide +kernel) ?_
      refine lv_iconst (v := 1) hx hb dX11_records_51 (by decide) ?_
      refine lv_isub hx hb dX11_records_52 ?_
      refine va_iast hx hb hK hP hD hS 1 0 rfl rfl (cm_vin (by decide)) dX11_records_53 (fun H locs hP hD hS => ?_)
      have hP : va_P D vwCl ([(rf_MO mo mw ma mf m0 m1 mu mv u0 u1 iz th mb mn mpt mbg mwr mwk mlf men), (rf_RW ct 0 mw 958 (upd f_71 (12 : Int32).toNatClampNeg ((f_71 12) - 1))), (mu, .inl (ct 1, 42, .inr (.inl su)))] ++ ws) H := hP
      have hD : va_D A ([(rf_MO mo mw ma mf m0 m1 mu mv u0 u1 iz th mb mn mpt mbg mwr mwk mlf men), (rf_RW ct 0 mw 958 (upd f_71 (12 : Int32).toNatClampNeg ((f_71 12) - 1))), (mu, .inl (ct 1, 42, .inr (.inl su)))] ++ ws) := hD
      have hU_74 : rf_R G cx (upd f_71 (12 : Int32).toNatClampNeg ((f_71 12) - 1)) ∧ rf_sm f_71 (upd f_71 (12 : Int32).toNatClampNeg ((f_71 12) - 1)) := (rf_num12 hR_16 (by rw [hex_16.2.1]; decide))
      generalize hf_77 : (upd f_71 (12 : Int32).toNatClampNeg ((f_71 12) - 1)) = f_73 at hP hD hU_74
      have hD_78 := rf_du hD_16 hf_77 (by decide)
      have hR_75 := hU_74.1
      have hM_76 := rf_smt hM_16 hU_74.2
      have hL_79 : 0 ≤ (f_73 12).toInt ∧ (f_73 12).toInt ≤ 29 := (by rw [rf_at12 hf_77, hex_16.2.1]; decide)
      refine lv_sipush (v := 568) hx hb dX11_records_54 (by decide) ?_
      refine lv_iconst (v := 5) hx hb dX11_records_57 (by decide) ?_
      refine lv_aload_n hx hb dX11_records_58 rfl (lv_at hl 0 rfl) ?_
      refine va_get (v := .ref mw) (D := D) (ci := 11) (C := RX11) (T := TX11) (N := 19) hx hb hts in_X11 hown hK hP 0 rfl rfl 0 (by decide) (hts _ kl_RX11_9) (fun _ h9 => h9) rfl dX11_records_59 ?_
      refine lv_bipush (v := 12) hx hb dX11_records_62 (by decide) ?_
      refine va_iald hx hb hK hP 1 0 rfl rfl (cm_vin (by decide)) dX11_records_64 ?_
      refine cm_cst (y := (f_73 12)) (by first | rfl | decide +kernel) ?_
      refine lv_imul hx hb dX11_records_65 ?_
      refine lv_iadd hx hb dX11_records_66 ?_
      refine lv_istore_n (lv' := [(3, .int (568 + (5 * (f_73 12)))), (0, .ref mo), (1, .int p1), (2, .int p2)]) hx hb dX11_records_67 rfl hl (by decide) rfl (fun ls hl => ?_)
      refine lv_aload_n hx hb dX11_records_68 rfl (lv_at hl 1 rfl) ?_
      refine va_get (v := .ref mw) (D := D) (ci := 11) (C := RX11) (T := TX11) (N := 19) hx hb hts in_X11 hown hK hP 0 rfl rfl 0 (by decide) (hts _ kl_RX11_9) (fun _ h9 => h9) rfl dX11_records_69 ?_
      refine lv_iload_n hx hb dX11_records_72 rfl (lv_at hl 0 rfl) ?_
      refine lv_iload_n hx hb dX11_records_73 rfl (lv_at hl 2 rfl) ?_
      refine va_iast hx hb hK hP hD hS 1 0 rfl rfl (rf_in1 (by have := (rf_nb0 (a := 568) (b := 5) (A := 568) (B := 5) (N := 29) (by decide) (by decide) hL_79 (by decide) (by decide) (by decide) (by decide)); omega)) dX11_records_74 (fun H locs hP hD hS => ?_)
      have hP : va_P D vwCl ([(rf_MO mo mw ma mf m0 m1 mu mv u0 u1 iz th mb mn mpt mbg mwr mwk mlf men), (rf_RW ct 0 mw 958 (upd f_73 (568 + (5 * (f_73 12))).toNatClampNeg p1)), (mu, .inl (ct 1, 42, .inr (.inl su)))] ++ ws) H := hP
      have hD : va_D A ([(rf_MO mo mw ma mf m0 m1 mu mv u0 u1 iz th mb mn mpt mbg mwr mwk mlf men), (rf_RW ct 0 mw 958 (upd f_73 (568 + (5 * (f_73 12))).toNatClampNeg p1)), (mu, .inl (ct 1, 42, .inr (.inl su)))] ++ ws) := hD
      have hU_81 : rf_R G cx (upd f_73 (568 + (5 * (f_73 12))).toNatClampNeg p1) ∧ rf_sm f_73 (upd f_73 (568 + (5 * (f_73 12))).toNatClampNeg p1) := (rf_free _ hR_75 (Or.inr (rf_ge (rf_nb0 (a := 568) (b := 5) (A := 568) (B := 5) (N := 29) (by decide) (by decide) hL_79 (by decide) (by decide) (by decide) (by decide)).1)))
      generalize hf_84 : (upd f_73 (568 + (5 * (f_73 12))).toNatClampNeg p1) = f_80 at hP hD hU_81
      have hD_85 := rf_du hD_78 hf_84 (by have := rf_ge (rf_nb0 (a := 568) (b := 5) (A := 568) (B := 5) (N := 29) (by decide) (by decide) hL_79 (by decide) (by decide) (by decide) (by decide)).1; omega)
      have hR_82 := hU_81.1
      have hM_83 := rf_smt hM_76 hU_81.2
      have hq_86 : f_80 12 = f_73 12 := (rf_u17 hf_84 (rf_ge (rf_nb0 (a := 568) (b := 5) (A := 568) (B := 5) (N := 29) (by decide) (by decide) hL_79 (by decide) (by decide) (by decide) (by decide)).1) (by omega)).trans rfl
      refine lv_aload_n hx hb dX11_records_75 rfl (lv_at hl 1 rfl) ?_
      refine va_get (v := .ref mw) (D := D) (ci := 11) (C := RX11) (T := TX11) (N := 19) hx hb hts in_X11 hown hK hP 0 rfl rfl 0 (by decide) (hts _ kl_RX11_9) (fun _ h9 => h9) rfl dX11_records_76 ?_
      refine lv_iload_n hx hb dX11_records_79 rfl (lv_at hl 0 rfl) ?_
      refine lv_iconst (v := 1) hx hb dX11_records_80 (by decide) ?_
      refine lv_iadd hx hb dX11_records_81 ?_
      refine lv_aload_n hx hb dX11_records_82 rfl (lv_at hl 1 rfl) ?_
      refine lv_iload_n hx hb dX11_records_83 rfl (lv_at hl 2 rfl) ?_
      refine lv_iconst (v := 4) hx hb dX11_records_84 (by decide) ?_
      obtain ⟨hP, hD⟩ := ty_opPD (E1 := [(rf_RW ct 0 mw 958 f_80)]) (E2 := [(rf_MO mo mw ma mf m0 m1 mu mv u0 u1 iz th mb mn mpt mbg mwr mwk mlf men), (mu, .inl (ct 1, 42, .inr (.inl su)))]) (n := 3) [1, 0, 2] hP hD rfl rfl (by decide +kernel) ty_mva
      refine ty_Kl hP hD hS hA (va_runV (As := [.int p1, .int 4]) (rest := [.int ((568 + (5 * (f_73 12))) + 1), .ref mw]) ⟨hx, hb, hml, hown, hts⟩ (m_X11_sum l D ct S ws ph xx mo mw ma mf m0 m1 mu mv u0 u1 iz mb th mn mpt mbg mwr mwk mlf men su p1 (4 : Int32) _ hT hph hy1 (rf_c6 hR_82 hc) (by decide)) (cm_V 2 hts kc_X11_sum ki_RX11 kl_RX11_261 kv_X11_sum kx_X11_sum kd_X11_sum ⟨Nat.le_of_ble_eq_true rfl, Nat.le_of_ble_eq_true rfl⟩) (ty_preE (ci := 11) (q0 := 1) hP hK hD hS hA hX rfl rfl) rfl rfl hl.1 rfl (lv_room (Nat.le_of_ble_eq_true rfl)) dX11_records_85 ⟨Nat.le_of_ble_eq_true rfl, Nat.le_of_ble_eq_true rfl⟩) (fun r_87 u H locs hw_88 hP hD hS => ?_)
      obtain ⟨ws_89, rfl⟩ : ∃ z, z = u := ⟨_, rfl⟩
      obtain ⟨hT, hp_90⟩ := hw_88
      have hp_90 : (q_X11_sum su p1 (4 : Int32) r_87) := hp_90
      obtain ⟨hP, hD⟩ := ty_shPD (w2 := ([(rf_RW ct 0 mw 958 f_80), (rf_MO mo mw ma mf m0 m1 mu mv u0 u1 iz th mb mn mpt mbg mwr mwk mlf men), (mu, .inl (ct 1, 42, .inr (.inl su)))] ++ ws_89)) hP hD rfl
      refine lv_l2i hx hb dX11_records_88 rfl ?_
      refine va_iast hx hb hK hP hD hS 0 0 rfl rfl (rf_in1 (by have := (rf_nb (a := 568) (b := 5) (A := 568) (B := 5) (N := 29) (k := 1) (K := 1) (by decide) (by decide) (by decide) hL_79 (by decide) (by decide) (by decide) (by decide) (by decide)); omega)) dX11_records_89 (fun H locs hP hD hS => ?_)
      have hP : va_P D vwCl ([(rf_RW ct 0 mw 958 (upd f_80 ((568 + (5 * (f_73 12))) + 1).toNatClampNeg r_87.toInt32)), (rf_MO mo mw ma mf m0 m1 mu mv u0 u1 iz th mb mn mpt mbg mwr mwk mlf men), (mu, .inl (ct 1, 42, .inr (.inl su)))] ++ ws_89) H := hP
      have hD : va_D A ([(rf_RW ct 0 mw 958 (upd f_80 ((568 + (5 * (f_73 12))) + 1).toNatClampNeg r_87.toInt32)), (rf_MO mo mw ma mf m0 m1 mu mv u0 u1 iz th mb mn mpt mbg mwr mwk mlf men), (mu, .inl (ct 1, 42, .inr (.inl su)))] ++ ws_89) := hD
      have hU_94 : rf_R G cx (upd f_80 ((568 + (5 * (f_73 12))) + 1).toNatClampNeg r_87.toInt32) ∧ rf_sm f_80 (upd f_80 ((568 + (5 * (f_73 12))) + 1).toNatClampNeg r_87.toInt32) := (rf_free _ hR_82 (Or.inr (rf_ge (rf_nb (a := 568) (b := 5) (A := 568) (B := 5) (N := 29) (k := 1) (K := 1) (by decide) (by decide) (by decide) hL_79 (by decide) (by decide) (by decide) (by decide) (by decide)).1)))
      generalize hf_97 : (upd f_80 ((568 + (5 * (f_73 12))) + 1).toNatClampNeg r_87.toInt32) = f_93 at hP hD hU_94
      have hD_98 := rf_du hD_85 hf_97 (by have := rf_ge (rf_nb (a := 568) (b := 5) (A := 568) (B := 5) (N := 29) (k := 1) (K := 1) (by decide) (by decide) (by decide) hL_79 (by decide) (by decide) (by decide) (by decide) (by decide)).1; omega)
      have hR_95 := hU_94.1
      have hM_96 := rf_smt hM_83 hU_94.2
      have hq_99 : f_93 12 = f_73 12 := (rf_u17 hf_97 (rf_ge (rf_nb (a := 568) (b := 5) (A := 568) (B := 5) (N := 29) (k := 1) (K := 1) (by decide) (by decide) (by decide) hL_79 (by decide) (by decide) (by decide) (by decide) (by decide)).1) (by omega)).trans hq_86
      refine lv_aload_n hx hb dX11_records_90 rfl (lv_at hl 1 rfl) ?_
      refine va_get (v := .ref mw) (D := D) (ci := 11) (C := RX11) (T := TX11) (N := 19) hx hb hts in_X11 hown hK hP 1 rfl rfl 0 (by decide) (hts _ kl_RX11_9) (fun _ h9 => h9) rfl dX11_records_91 ?_
      refine lv_iload_n hx hb dX11_records_94 rfl (lv_at hl 0 rfl) ?_
      refine lv_iconst (v := 2) hx hb dX11_records_95 (by decide) ?_
      refine lv_iadd hx hb dX11_records_96 ?_
      refine lv_aload_n hx hb dX11_records_97 rfl (lv_at hl 1 rfl) ?_
      refine lv_iload_n hx hb dX11_records_98 rfl (lv_at hl 2 rfl) ?_
      refine lv_iconst (v := 5) hx hb dX11_records_99 (by decide) ?_
      obtain ⟨hP, hD⟩ := ty_ipPD (E1 := [(rf_RW ct 0 mw 958 f_93)]) (E2 := [(rf_MO mo mw ma mf m0 m1 mu mv u0 u1 iz th mb mn mpt mbg mwr mwk mlf men), (mu, .inl (ct 1, 42, .inr (.inl su)))]) hP hD rfl ty_mva
      refine ty_Kl hP hD hS hA (va_runV (As := [.int p1, .int 5]) (rest := [.int ((568 + (5 * (f_73 12))) + 2), .ref mw]) ⟨hx, hb, hml, hown, hts⟩ (m_X11_sum l D ct S ws_89 ph xx mo mw ma mf m0 m1 mu mv u0 u1 iz mb th mn mpt mbg mwr mwk mlf men su p1 (5 : Int32) _ hT hph hy1 (rf_c6 hR_95 hc) (by decide)) (cm_V 2 hts kc_X11_sum ki_RX11 kl_RX11_261 kv_X11_sum kx_X11_sum kd_X11_sum ⟨Nat.le_of_ble_eq_true rfl, Nat.le_of_ble_eq_true rfl⟩) (ty_preE (ci := 11) (q0 := 1) hP hK hD hS hA hX rfl rfl) rfl rfl hl.1 rfl (lv_room (Nat.le_of_ble_eq_true rfl)) dX11_records_100 ⟨Nat.le_of_ble_eq_true rfl, Nat.le_of_ble_eq_true rfl⟩) (fun r_100 u H locs hw_101 hP hD hS => ?_)
      obtain ⟨ws_102, rfl⟩ : ∃ z, z = u := ⟨_, rfl⟩
      obtain ⟨hT, hp_103⟩ := hw_101
      have hp_103 : (q_X11_sum su p1 (5 : Int32) r_100) := hp_103
      obtain ⟨hP, hD⟩ := ty_shPD (w2 := ([(rf_RW ct 0 mw 958 f_93), (rf_MO mo mw ma mf m0 m1 mu mv u0 u1 iz th mb mn mpt mbg mwr mwk mlf men), (mu, .inl (ct 1, 42, .inr (.inl su)))] ++ ws_102)) hP hD rfl
      refine lv_l2i hx hb dX11_records_103 rfl ?_
      refine va_iast hx hb hK hP hD hS 0 0 rfl rfl (rf_in1 (by have := (rf_nb (a := 568) (b := 5) (A := 568) (B := 5) (N := 29) (k := 2) (K := 2) (by decide) (by decide) (by decide) hL_79 (by decide) (by decide) (by decide) (by decide) (by decide)); omega)) dX11_records_104 (fun H locs hP hD hS => ?_)
      have hP : va_P D vwCl ([(rf_RW ct 0 mw 958 (upd f_93 ((568 + (5 * (f_73 12))) + 2).toNatClampNeg r_100.toInt32)), (rf_MO mo mw ma mf m0 m1 mu mv u0 u1 iz th mb mn mpt mbg mwr mwk mlf men), (mu, .inl (ct 1, 42, .inr (.inl su)))] ++ ws_102) H := hP
      have hD : va_D A ([(rf_RW ct 0 mw 958 (upd f_93 ((568 + (5 * (f_73 12))) + 2).toNatClampNeg r_100.toInt32)), (rf_MO mo mw ma mf m0 m1 mu mv u0 u1 iz th mb mn mpt mbg mwr mwk mlf men), (mu, .inl (ct 1, 42, .inr (.inl su)))] ++ ws_102) := hD
      have hU_107 : rf_R G cx (upd f_93 ((568 + (5 * (f_73 12))) + 2).toNatClampNeg r_100.toInt32) ∧ rf_sm f_93 (upd f_93 ((568 + (5 * (f_73 12))) + 2).toNatClampNeg r_100.toInt32) := (rf_free _ hR_95 (Or.inr (rf_ge (rf_nb (a := 568) (b := 5) (A := 568) (B := 5) (N := 29) (k := 2) (K := 2) (by decide) (by decide) (by decide) hL_79 (by decide) (by decide) (by decide) (by decide) (by decide)).1)))
      generalize hf_110 : (upd f_93 ((568 + (5 * (f_73 12))) + 2).toNatClampNeg r_100.toInt32) = f_106 at hP hD hU_107
      have hD_111 := rf_du hD_98 hf_110 (by have := rf_ge (rf_nb (a := 568) (b := 5) (A := 568) (B := 5) (N := 29) (k := 2) (K := 2) (by decide) (by decide) (by decide) hL_79 (by decide) (by decide) (by decide) (by decide) (by decide)).1; omega)
      have hR_108 := hU_107.1
      have hM_109 := rf_smt hM_96 hU_107.2
      have hq_112 : f_106 12 = f_73 12 := (rf_u17 hf_110 (rf_ge (rf_nb (a := 568) (b := 5) (A := 568) (B := 5) (N := 29) (k := 2) (K := 2) (by decide) (by decide) (by decide) hL_79 (by decide) (by decide) (by decide) (by decide) (by decide)).1) (by omega)).trans hq_99
      refine lv_aload_n hx hb dX11_records_105 rfl (lv_at hl 1 rfl) ?_
      refine va_get (v := .ref mw) (D := D) (ci := 11) (C := RX11) (T := TX11) (N := 19) hx hb hts in_X11 hown hK hP 1 rfl rfl 0 (by decide) (hts _ kl_RX11_9) (fun _ h9 => h9) rfl dX11_records_106 ?_
      refine lv_iload_n hx hb dX11_records_109 rfl (lv_at hl 0 rfl) ?_
      refine lv_iconst (v := 3) hx hb dX11_records_110 (by decide) ?_
      refine lv_iadd hx hb dX11_records_111 ?_
      refine lv_aload_n hx hb dX11_records_112 rfl (lv_at hl 1 rfl) ?_
      refine va_get (v := .ref mw) (D := D) (ci := 11) (C := RX11) (T := TX11) (N := 19) hx hb hts in_X11 hown hK hP 1 rfl rfl 0 (by decide) (hts _ kl_RX11_9) (fun _ h9 => h9) rfl dX11_records_113 ?_
      refine lv_bipush (v := 8) hx hb dX11_records_116 (by decide) ?_
      refine va_iald hx hb hK hP 0 0 rfl rfl (cm_vin (by decide)) dX11_records_118 ?_
      refine cm_cst (y := (f_106 8)) (by first | rfl | decide +kernel) ?_
      refine va_iast hx hb hK hP hD hS 0 0 rfl rfl (rf_in1 (by have := (rf_nb (a := 568) (b := 5) (A := 568) (B := 5) (N := 29) (k := 3) (K := 3) (by decide) (by decide) (by decide) hL_79 (by decide) (by decide) (by decide) (by decide) (by decide)); omega)) dX11_records_119 (fun H locs hP hD hS => ?_)
      have hP : va_P D vwCl ([(rf_RW ct 0 mw 958 (upd f_106 ((568 + (5 * (f_73 12))) + 3).toNatClampNeg (f_106 8))), (rf_MO mo mw ma mf m0 m1 mu mv u0 u1 iz th mb mn mpt mbg mwr mwk mlf men), (mu, .inl (ct 1, 42, .inr (.inl su)))] ++ ws_102) H := hP
      have hD : va_D A ([(rf_RW ct 0 mw 958 (upd f_106 ((568 + (5 * (f_73 12))) + 3).toNatClampNeg (f_106 8))), (rf_MO mo mw ma mf m0 m1 mu mv u0 u1 iz th mb mn mpt mbg mwr mwk mlf men), (mu, .inl (ct 1, 42, .inr (.inl su)))] ++ ws_102) := hD
      have hU_114 : rf_R G cx (upd f_106 ((568 + (5 * (f_73 12))) + 3).toNatClampNeg (f_106 8)) ∧ rf_sm f_106 (upd f_106 ((568 + (5 * (f_73 12))) + 3).toNatClampNeg (f_106 8)) := (rf_free _ hR_108 (Or.inr (rf_ge (rf_nb (a := 568) (b := 5) (A := 568) (B := 5) (N := 29) (k := 3) (K := 3) (by decide) (by decide) (by decide) hL_79 (by decide) (by decide) (by decide) (by decide) (by decide)).1)))
      generalize hf_117 : (upd f_106 ((568 + (5 * (f_73 12))) + 3).toNatClampNeg (f_106 8)) = f_113 at hP hD hU_114
      have hD_118 := rf_du hD_111 hf_117 (by have := rf_ge (rf_nb (a := 568) (b := 5) (A := 568) (B := 5) (N := 29) (k := 3) (K := 3) (by decide) (by decide) (by decide) hL_79 (by decide) (by decide) (by decide) (by decide) (by decide)).1; omega)
      have hR_115 := hU_114.1
      have hM_116 := rf_smt hM_109 hU_114.2
      have hq_119 : f_113 12 = f_73 12 := (rf_u17 hf_117 (rf_ge (rf_nb (a := 568) (b := 5) (A := 568) (B := 5) (N := 29) (k := 3) (K := 3) (by decide) (by decide) (by decide) hL_79 (by decide) (by decide) (by decide) (by decide) (by decide)).1) (by omega)).trans hq_112
      refine lv_aload_n hx hb dX11_records_120 rfl (lv_at hl 1 rfl) ?_
      refine va_get (v := .ref mw) (D := D) (ci := 11) (C := RX11) (T := TX11) (N := 19) hx hb hts in_X11 hown hK hP 1 rfl rfl 0 (by decide) (hts _ kl_RX11_9) (fun _ h9 => h9) rfl dX11_records_121 ?_
      refine lv_iload_n hx hb dX11_records_124 rfl (lv_at hl 0 rfl) ?_
      refine lv_iconst (v := 4) hx hb dX11_records_125 (by decide) ?_
      refine lv_iadd hx hb dX11_records_126 ?_
      refine lv_iload_n hx hb dX11_records_127 rfl (lv_at hl 3 rfl) ?_
      refine lv_if_eq (tgt := 135) hx hb dX11_records_128 (by decide) (fun hc_120 => ?_) (fun hc_120 => ?_)
      · refine lv_iconst (v := 0) hx hb dX11_records_135 (by decide) ?_
        refine va_iast hx hb hK hP hD hS 0 0 rfl rfl (rf_in1 (by have := (rf_nb (a := 568) (b := 5) (A := 568) (B := 5) (N := 29) (k := 4) (K := 4) (by decide) (by decide) (by decide) hL_79 (by decide) (by decide) (by decide) (by decide) (by decide)); omega)) dX11_records_136 (fun H locs hP hD hS => ?_)
        have hP : va_P D vwCl ([(rf_RW ct 0 mw 958 (upd f_113 ((568 + (5 * (f_73 12))) + 4).toNatClampNeg 0)), (rf_MO mo mw ma mf m0 m1 mu mv u0 u1 iz th mb mn mpt mbg mwr mwk mlf men), (mu, .inl (ct 1, 42, .inr (.inl su)))] ++ ws_102) H := hP
        have hD : va_D A ([(rf_RW ct 0 mw 958 (upd f_113 ((568 + (5 * (f_73 12))) + 4).toNatClampNeg 0)), (rf_MO mo mw ma mf m0 m1 mu mv u0 u1 iz th mb mn mpt mbg mwr mwk mlf men), (mu, .inl (ct 1, 42, .inr (.inl su)))] ++ ws_102) := hD
        have hU_122 : rf_R G cx (upd f_113 ((568 + (5 * (f_73 12))) + 4).toNatClampNeg 0) ∧ rf_sm f_113 (upd f_113 ((568 + (5 * (f_73 12))) + 4).toNatClampNeg 0) := (rf_free _ hR_115 (Or.inr (rf_ge (rf_nb (a := 568) (b := 5) (A := 568) (B := 5) (N := 29) (k := 4) (K := 4) (by decide) (by decide) (by decide) hL_79 (by decide) (by decide) (by decide) (by decide) (by decide)).1)))
        generalize hf_125 : (upd f_113 ((568 + (5 * (f_73 12))) + 4).toNatClampNeg 0) = f_121 at hP hD hU_122
        have hD_126 := rf_du hD_118 hf_125 (by have := rf_ge (rf_nb (a := 568) (b := 5) (A := 568) (B := 5) (N := 29) (k := 4) (K := 4) (by decide) (by decide) (by decide) hL_79 (by decide) (by decide) (by decide) (by decide) (by decide)).1; omega)
        have hR_123 := hU_122.1
        have hM_124 := rf_smt hM_116 hU_122.2
        have hq_127 : f_121 12 = f_73 12 := (rf_u17 hf_125 (rf_ge (rf_nb (a := 568) (b := 5) (A := 568) (B := 5) (N := 29) (k := 4) (K := 4) (by decide) (by decide) (by decide) hL_79 (by decide) (by decide) (by decide) (by decide) (by decide)).1) (by omega)).trans hq_119
        refine lv_aload_n hx hb dX11_records_137 rfl (lv_at hl 1 rfl) ?_
        refine va_get (v := .ref mw) (D := D) (ci := 11) (C := RX11) (T := TX11) (N := 19) hx hb hts in_X11 hown hK hP 1 rfl rfl 0 (by decide) (hts _ kl_RX11_9) (fun _ h9 => h9) rfl dX11_records_138 ?_
        refine lv_bipush (v := 12) hx hb dX11_records_141 (by decide) ?_
        refine lv_dup2_11 hx hb dX11_records_143 rfl rfl ?_
        refine va_iald hx hb hK hP 0 0 rfl rfl (cm_vin (by decide)) dX11_records_144 ?_
        refine cm_cst (y := (f_121 12)) (by first | rfl | decide +kernel) ?_
        refine lv_iconst (v := 1) hx hb dX11_records_145 (by decide) ?_
        refine lv_iadd hx hb dX11_records_146 ?_
        refine va_iast hx hb hK hP hD hS 0 0 rfl rfl (cm_vin (by decide)) dX11_records_147 (fun H locs hP hD hS => ?_)
        have hP : va_P D vwCl ([(rf_RW ct 0 mw 958 (upd f_121 (12 : Int32).toNatClampNeg ((f_121 12) + 1))), (rf_MO mo mw ma mf m0 m1 mu mv u0 u1 iz th mb mn mpt mbg mwr mwk mlf men), (mu, .inl (ct 1, 42, .inr (.inl su)))] ++ ws_102) H := hP
        have hD : va_D A ([(rf_RW ct 0 mw 958 (upd f_121 (12 : Int32).toNatClampNeg ((f_121 12) + 1))), (rf_MO mo mw ma mf m0 m1 mu mv u0 u1 iz th mb mn mpt mbg mwr mwk mlf men), (mu, .inl (ct 1, 42, .inr (.inl su)))] ++ ws_102) := hD
        have hU_129 : rf_R G cx (upd f_121 (12 : Int32).toNatClampNeg ((f_121 12) + 1)) ∧ rf_sm f_121 (upd f_121 (12 : Int32).toNatClampNeg ((f_121 12) + 1)) := (rf_num12 hR_123 (by rw [hq_127]; have := rf_inc9 hL_79 (by omega) (by omega); omega))
        generalize hf_132 : (upd f_121 (12 : Int32).toNatClampNeg ((f_121 12) + 1)) = f_128 at hP hD hU_129
        have hD_133 := rf_du hD_126 hf_132 (by decide)
        have hR_130 := hU_129.1
        have hM_131 := rf_smt hM_124 hU_129.2
        obtain ⟨hP, hD⟩ := ty_ordPD (E2 := [(rf_MO mo mw ma mf m0 m1 mu mv u0 u1 iz th mb mn mpt mbg mwr mwk mlf men), (rf_RW ct 0 mw 958 f_128), (mu, .inl (ct 1, 42, .inr (.inl su)))]) (n := 3) [1, 0, 2] hP hD rfl rfl (by decide +kernel)
        exact W.vret hx hb hr (fun t ht hW => ⟨⟨(ws_102, f_128), rfl, ⟨hT, ⟨(Or.inr ⟨hc_1, ⟨y_70, f_71, hex_16, ⟨hc_72, ⟨f_73, hf_77, ⟨hL_79, ⟨f_80, hf_84, ⟨r_87, hp_90, ⟨f_93, hf_97, ⟨r_100, hp_103, ⟨f_106, hf_110, ⟨f_113, hf_117, (Or.inl ⟨hc_120, ⟨f_121, hf_125, ⟨f_128, hf_132, rfl⟩⟩⟩)⟩⟩⟩⟩⟩⟩⟩⟩⟩⟩⟩), ⟨hD_133, hR_130, hM_131⟩⟩⟩, by rw [ht]; exact hP, by rw [hAe]; exact hD⟩, hS.F ht⟩) hS.2.2 dX11_records_148
      · refine lv_iconst (v := 1) hx hb dX11_records_131 (by decide) ?_
        refine lv_goto (tgt := 136) hx hb dX11_records_132 (by decide) ?_
        refine va_iast hx hb hK hP hD hS 0 0 rfl rfl (rf_in1 (by have := (rf_nb (a := 568) (b := 5) (A := 568) (B := 5) (N := 29) (k := 4) (K := 4) (by decide) (by decide) (by decide) hL_79 (by decide) (by decide) (by decide) (by decide) (by decide)); omega)) dX11_records_136 (fun H locs hP hD hS => ?_)
        have hP : va_P D vwCl ([(rf_RW ct 0 mw 958 (upd f_113 ((568 + (5 * (f_73 12))) + 4).toNatClampNeg 1)), (rf_MO mo mw ma mf m0 m1 mu mv u0 u1 iz th mb mn mpt mbg mwr mwk mlf men), (mu, .inl (ct 1, 42, .inr (.inl su)))] ++ ws_102) H := hP
        have hD : va_D A ([(rf_RW ct 0 mw 958 (upd f_113 ((568 + (5 * (f_73 12))) + 4).toNatClampNeg 1)), (rf_MO mo mw ma mf m0 m1 mu mv u0 u1 iz th mb mn mpt mbg mwr mwk mlf men), (mu, .inl (ct 1, 42, .inr (.inl su)))] ++ ws_102) := hD
        have hU_135 : rf_R G cx (upd f_113 ((568 + (5 * (f_73 12))) + 4).toNatClampNeg 1) ∧ rf_sm f_113 (upd f_113 ((568 + (5 * (f_73 12))) + 4).toNatClampNeg 1) := (rf_free _ hR_115 (Or.inr (rf_ge (rf_nb (a := 568) (b := 5) (A := 568) (B := 5) (N := 29) (k := 4) (K := 4) (by decide) (by decide) (by decide) hL_79 (by decide) (by decide) (by decide) (by decide) (by decide)).1)))
        generalize hf_138 : (upd f_113 ((568 + (5 * (f_73 12))) + 4).toNatClampNeg 1) = f_134 at hP hD hU_135
        have hD_139 := rf_du hD_118 hf_138 (by have := rf_ge (rf_nb (a := 568) (b := 5) (A := 568) (B := 5) (N := 29) (k := 4) (K := 4) (by decide) (by decide) (by decide) hL_79 (by decide) (by decide) (by decide) (by decide) (by decide)).1; omega)
        have hR_136 := hU_135.1
        have hM_137 := rf_smt hM_116 hU_135.2
        have hq_140 : f_134 12 = f_73 12 := (rf_u17 hf_138 (rf_ge (rf_nb (a := 568) (b := 5) (A := 568) (B := 5) (N := 29) (k := 4) (K := 4) (by decide) (by decide) (by decide) hL_79 (by decide) (by decide) (by decide) (by decide) (by decide)).1) (by omega)).trans hq_119
        refine lv_aload_n hx hb dX11_records_137 rfl (lv_at hl 1 rfl) ?_
        refine va_get (v := .ref mw) (D := D) (ci := 11) (C := RX11) (T := TX11) (N := 19) hx hb hts in_X11 hown hK hP 1 rfl rfl 0 (by decide) (hts _ kl_RX11_9) (fun _ h9 => h9) rfl dX11_records_138 ?_
        refine lv_bipush (v := 12) hx hb dX11_records_141 (by decide) ?_
        refine lv_dup2_11 hx hb dX11_records_143 rfl rfl ?_
        refine va_iald hx hb hK hP 0 0 rfl rfl (cm_vin (by decide)) dX11_records_144 ?_
        refine cm_cst (y := (f_134 12)) (by first | rfl | decide +kernel) ?_
        refine lv_iconst (v := 1) hx hb dX11_records_145 (by decide) ?_
        refine lv_iadd hx hb dX11_records_146 ?_
        refine va_iast hx hb hK hP hD hS 0 0 rfl rfl (cm_vin (by decide)) dX11_records_147 (fun H locs hP hD hS => ?_)
        have hP : va_P D vwCl ([(rf_RW ct 0 mw 958 (upd f_134 (12 : Int32).toNatClampNeg ((f_134 12) + 1))), (rf_MO mo mw ma mf m0 m1 mu mv u0 u1 iz th mb mn mpt mbg mwr mwk mlf men), (mu, .inl (ct 1, 42, .inr (.inl su)))] ++ ws_102) H := hP
        have hD : va_D A ([(rf_RW ct 0 mw 958 (upd f_134 (12 : Int32).toNatClampNeg ((f_134 12) + 1))), (rf_MO mo mw ma mf m0 m1 mu mv u0 u1 iz th mb mn mpt mbg mwr mwk mlf men), (mu, .inl (ct 1, 42, .inr (.inl su)))] ++ ws_102) := hD
        have hU_142 : rf_R G cx (upd f_134 (12 : Int32).toNatClampNeg ((f_134 12) + 1)) ∧ rf_sm f_134 (upd f_134 (12 : Int32).toNatClampNeg ((f_134 12) + 1)) := (rf_num12 hR_136 (by rw [hq_140]; have := rf_inc9 hL_79 (by omega) (by omega); omega))
        generalize hf_145 : (upd f_134 (12 : Int32).toNatClampNeg ((f_134 12) + 1)) = f_141 at hP hD hU_142
        have hD_146 := rf_du hD_139 hf_145 (by decide)
        have hR_143 := hU_142.1
        have hM_144 := rf_smt hM_137 hU_142.2
        obtain ⟨hP, hD⟩ := ty_ordPD (E2 := [(rf_MO mo mw ma mf m0 m1 mu mv u0 u1 iz th mb mn mpt mbg mwr mwk mlf men), (rf_RW ct 0 mw 958 f_141), (mu, .inl (ct 1, 42, .inr (.inl su)))]) (n := 3) [1, 0, 2] hP hD rfl rfl (by decide +kernel)
        exact W.vret hx hb hr (fun t ht hW => ⟨⟨(ws_102, f_141), rfl, ⟨hT, ⟨(Or.inr ⟨hc_1, ⟨y_70, f_71, hex_16, ⟨hc_72, ⟨f_73, hf_77, ⟨hL_79, ⟨f_80, hf_84, ⟨r_87, hp_90, ⟨f_93, hf_97, ⟨r_100, hp_103, ⟨f_106, hf_110, ⟨f_113, hf_117, (Or.inr ⟨hc_120, ⟨f_134, hf_138, ⟨f_141, hf_145, rfl⟩⟩⟩)⟩⟩⟩⟩⟩⟩⟩⟩⟩⟩⟩), ⟨hD_146, hR_143, hM_144⟩⟩⟩, by rw [ht]; exact hP, by rw [hAe]; exact hD⟩, hS.F ht⟩) hS.2.2 dX11_records_148
    · refine lv_aload_n hx hb dX11_records_23 rfl (lv_at hl 0 rfl) ?_
      refine va_get (v := .ref mw) (D := D) (ci := 11) (C := RX11) (T := TX11) (N := 19) hx hb hts in_X11 hown hK hP 0 rfl rfl 0 (by decide) (hts _ kl_RX11_9) (fun _ h9 => h9) rfl dX11_records_24 ?_
      refine lv_iload_n hx hb dX11_records_27 rfl (lv_at hl 3 rfl) ?_
      refine lv_aload_n hx hb dX11_records_28 rfl (lv_at hl 0 rfl) ?_
      refine va_get (v := .ref mw) (D := D) (ci := 11) (C := RX11) (T := TX11) (N := 19) hx hb hts in_X11 hown hK hP 0 rfl rfl 0 (by decide) (hts _ kl_RX11_9) (fun _ h9 => h9) rfl dX11_records_29 ?_
      refine lv_iload_n hx hb dX11_records_32 rfl (lv_at hl 3 rfl) ?_
      refine lv_iconst (v := 5) hx hb dX11_records_33 (by decide) ?_
      refine lv_iadd hx hb dX11_records_34 ?_
      refine va_iald hx hb hK hP 1 0 rfl rfl (rf_in2 (K := 5) (by decide) (by have := hex_16.1; have := rf_ng (b := 713) (by decide) hc_72; omega)) dX11_records_35 ?_
      refine va_iast hx hb hK hP hD hS 1 0 rfl rfl (rf_in1 (by have := hex_16.1; omega)) dX11_records_36 (fun H locs hP hD hS => ?_)
      have hP : va_P D vwCl ([(rf_MO mo mw ma mf m0 m1 mu mv u0 u1 iz th mb mn mpt mbg mwr mwk mlf men), (rf_RW ct 0 mw 958 (upd f_71 y_70.toNatClampNeg (f_71 (y_70 + 5).toNatClampNeg))), (mu, .inl (ct 1, 42, .inr (.inl su)))] ++ ws) H := hP
      have hD : va_D A ([(rf_MO mo mw ma mf m0 m1 mu mv u0 u1 iz th mb mn mpt mbg mwr mwk mlf men), (rf_RW ct 0 mw 958 (upd f_71 y_70.toNatClampNeg (f_71 (y_70 + 5).toNatClampNeg))), (mu, .inl (ct 1, 42, .inr (.inl su)))] ++ ws) := hD
      have hU_148 : rf_R G cx (upd f_71 y_70.toNatClampNeg (f_71 (y_70 + 5).toNatClampNeg)) ∧ rf_sm f_71 (upd f_71 y_70.toNatClampNeg (f_71 (y_70 + 5).toNatClampNeg)) := (rf_free _ hR_16 (Or.inr (rf_ge (by have := hex_16.1; omega))))
      generalize hf_151 : (upd f_71 y_70.toNatClampNeg (f_71 (y_70 + 5).toNatClampNeg)) = f_147 at hP hD hU_148
      have hD_152 := rf_du hD_16 hf_151 (by have q9 := rf_ge (y := y_70) (by have := hex_16.1; omega); omega)
      have hR_149 := hU_148.1
      have hM_150 := rf_smt hM_16 hU_148.2
      refine lv_iinc (v := (y_70 + Int32.ofInt 1)) (lv' := [(3, .int (y_70 + Int32.ofInt 1)), (0, .ref mo), (1, .int p1), (2, .int p2)]) hx hb dX11_records_37 hl (k := 3) rfl rfl (by decide) rfl (fun ls hl => ?_)
      refine lv_goto (tgt := 16) hx hb dX11_records_40 (by decide) ?_
      exact ih_16 _ _ _ _ (ty_inc (cm_lt hc_72)) ⟨ws, (y_70 + Int32.ofInt 1), f_147, rfl, hT, hP, hD, hS, (lv_sub hl [1, 2, 3, 0] rfl), hR_149, hM_150, hD_152, rf_lp (by decide) hex_16.1 hc_72 (by omega) (by omega), (rf_u17 hf_151 (rf_ge (by have := hex_16; omega)) (by omega)).trans hex_16.2.1, q_shs hex_16.2.2 (by have := hex_16.1; have := rf_ng (b := 713) (by decide) hc_72; omega) hf_151⟩
def q_X11_ends (f : Nat → Int32) (su : Nat → Int64) (p1 : Int32) (f1 : Nat → Int32) (su1 : Nat → Int64) : Prop := ((¬ (rf_st3 f p1 0) = (1 : Int32) ∧ ((¬ (rf_st3 f p1 0) = (3 : Int32) ∧ (((rf_st3 f p1 0) = (2 : Int32) ∧ ((¬ (rf_of f p1 21) = (1 : Int32) ∧ (∃ (f1_14 : Nat → Int32), (q_X11_records f su p1 (0 : Int32) f1_14) ∧ (∃ (f1_27 : Nat → Int32) (su1_28 : Nat → Int64), (q_X11_clears f1_14 su p1 f1_27 su1_28) ∧ (f1 = f1_27 ∧ su1 = su1_28)))) ∨ ((rf_of f p1 21) = (1 : Int32) ∧ (((rf_st3 f p1 2) < (rf_of f p1 5) ∧ (∃ (f1_48 : Nat → Int32), (q_X11_records f su p1 (0 : Int32) f1_48) ∧ (∃ (f1_61 : Nat → Int32) (su1_62 : Nat → Int64), (q_X11_clears f1_48 su p1 f1_61 su1_62) ∧ (f1 = f1_61 ∧ su1 = su1_62)))) ∨ (¬ (rf_st3 f p1 2) < (rf_of f p1 5) ∧ (∃ (f1_75 : Nat → Int32), (q_X11_records f su p1 (1 : Int32) f1_75) ∧ (∃ (r_85 : Int64), (q_X11_sum su p1 (1 : Int32) r_85) ∧ (∃ (r_91 : Int64), (q_X11_sum su p1 (6 : Int32) r_91) ∧ (∃ (f1_100 : Nat → Int32), f1_100 = upd f1_75 (244 + 54 * p1.toInt.toNat + 20) ((r_85 - r_91).toInt32) ∧ (∃ (f1_111 : Nat → Int32) (su1_112 : Nat → Int64), (q_X11_clears f1_100 su p1 f1_111 su1_112) ∧ (f1 = f1_111 ∧ su1 = su1_112))))))))))) ∨ (¬ (rf_st3 f p1 0) = (2 : Int32) ∧ (f1 = f ∧ su1 = su)))) ∨ ((rf_st3 f p1 0) = (3 : Int32) ∧ (∃ (f1_128 : Nat → Int32), f1_128 = upd f (244 + 54 * p1.toInt.toNat + 19) (rf_of f p1 5) ∧ (((rf_st3 f p1 0) = (2 : Int32) ∧ ((¬ (rf_of f1_128 p1 21) = (1 : Int32) ∧ (∃ (f1_144 : Nat → Int32), (q_X11_records f1_128 su p1 (0 : Int32) f1_144) ∧ (∃ (f1_157 : Nat → Int32) (su1_158 : Nat → Int64), (q_X11_clears f1_144 su p1 f1_157 su1_158) ∧ (f1 = f1_157 ∧ su1 = su1_158)))) ∨ ((rf_of f1_128 p1 21) = (1 : Int32) ∧ (((rf_st3 f1_128 p1 2) < (rf_of f1_128 p1 5) ∧ (∃ (f1_178 : Nat → Int32), (q_X11_records f1_128 su p1 (0 : Int32) f1_178) ∧ (∃ (f1_191 : Nat → Int32) (su1_192 : Nat → Int64), (q_X11_clears f1_178 su p1 f1_191 su1_192) ∧ (f1 = f1_191 ∧ su1 = su1_192)))) ∨ (¬ (rf_st3 f1_128 p1 2) < (rf_of f1_128 p1 5) ∧ (∃ (f1_205 : Nat → Int32), (q_X11_records f1_128 su p1 (1 : Int32) f1_205) ∧ (∃ (r_215 : Int64), (q_X11_sum su p1 (1 : Int32) r_215) ∧ (∃ (r_221 : Int64), (q_X11_sum su p1 (6 : Int32) r_221) ∧ (∃ (f1_230 : Nat → Int32), f1_230 = upd f1_205 (244 + 54 * p1.toInt.toNat + 20) ((r_215 - r_221).toInt32) ∧ (∃ (f1_241 : Nat → Int32) (su1_242 : Nat → Int64), (q_X11_clears f1_230 su p1 f1_241 su1_242) ∧ (f1 = f1_241 ∧ su1 = su1_242))))))))))) ∨ (¬ (rf_st3 f p1 0) = (2 : Int32) ∧ (f1 = f1_128 ∧ su1 = su))))))) ∨ ((rf_st3 f p1 0) = (1 : Int32) ∧ (∃ (f1_255 : Nat → Int32), f1_255 = upd f (244 + 54 * p1.toInt.toNat + 21) (1 : Int32) ∧ ((¬ (rf_st3 f p1 0) = (3 : Int32) ∧ (((rf_st3 f p1 0) = (2 : Int32) ∧ ((¬ (rf_of f1_255 p1 21) = (1 : Int32) ∧ (∃ (f1_272 : Nat → Int32), (q_X11_records f1_255 su p1 (0 : Int32) f1_272) ∧ (∃ (f1_285 : Nat → Int32) (su1_286 : Nat → Int64), (q_X11_clears f1_272 su p1 f1_285 su1_286) ∧ (f1 = f1_285 ∧ su1 = su1_286)))) ∨ ((rf_of f1_255 p1 21) = (1 : Int32) ∧ (((rf_st3 f1_255 p1 2) < (rf_of f1_255 p1 5) ∧ (∃ (f1_306 : Nat → Int32), (q_X11_records f1_255 su p1 (0 : Int32) f1_306) ∧ (∃ (f1_319 : Nat → Int32) (su1_320 : Nat → Int64), (q_X11_clears f1_306 su p1 f1_319 su1_320) ∧ (f1 = f1_319 ∧ su1 = su1_320)))) ∨ (¬ (rf_st3 f1_255 p1 2) < (rf_of f1_255 p1 5) ∧ (∃ (f1_333 : Nat → Int32), (q_X11_records f1_255 su p1 (1 : Int32) f1_333) ∧ (∃ (r_343 : Int64), (q_X11_sum su p1 (1 : Int32) r_343) ∧ (∃ (r_349 : Int64), (q_X11_sum su p1 (6 : Int32) r_349) ∧ (∃ (f1_358 : Nat → Int32), f1_358 = upd f1_333 (244 + 54 * p1.toInt.toNat + 20) ((r_343 - r_349).toInt32) ∧ (∃ (f1_369 : Nat → Int32) (su1_370 : Nat → Int64), (q_X11_clears f1_358 su p1 f1_369 su1_370) ∧ (f1 = f1_369 ∧ su1 = su1_370))))))))))) ∨ (¬ (rf_st3 f p1 0) = (2 : Int32) ∧ (f1 = f1_255 ∧ su1 = su)))) ∨ ((rf_st3 f p1 0) = (3 : Int32) ∧ (∃ (f1_386 : Nat → Int32), f1_386 = upd f1_255 (244 + 54 * p1.toInt.toNat + 19) (rf_of f1_255 p1 5) ∧ (((rf_st3 f p1 0) = (2 : Int32) ∧ ((¬ (rf_of f1_386 p1 21) = (1 : Int32) ∧ (∃ (f1_402 : Nat → Int32), (q_X11_records f1_386 su p1 (0 : Int32) f1_402) ∧ (∃ (f1_415 : Nat → Int32) (su1_416 : Nat → Int64), (q_X11_clears f1_402 su p1 f1_415 su1_416) ∧ (f1 = f1_415 ∧ su1 = su1_416)))) ∨ ((rf_of f1_386 p1 21) = (1 : Int32) ∧ (((rf_st3 f1_386 p1 2) < (rf_of f1_386 p1 5) ∧ (∃ (f1_436 : Nat → Int32), (q_X11_records f1_386 su p1 (0 : Int32) f1_436) ∧ (∃ (f1_449 : Nat → Int32) (su1_450 : Nat → Int64), (q_X11_clears f1_436 su p1 f1_449 su1_450) ∧ (f1 = f1_449 ∧ su1 = su1_450)))) ∨ (¬ (rf_st3 f1_386 p1 2) < (rf_of f1_386 p1 5) ∧ (∃ (f1_463 : Nat → Int32), (q_X11_records f1_386 su p1 (1 : Int32) f1_463) ∧ (∃ (r_473 : Int64), (q_X11_sum su p1 (1 : Int32) r_473) ∧ (∃ (r_479 : Int64), (q_X11_sum su p1 (6 : Int32) r_479) ∧ (∃ (f1_488 : Nat → Int32), f1_488 = upd f1_463 (244 + 54 * p1.toInt.toNat + 20) ((r_473 - r_479).toInt32) ∧ (∃ (f1_499 : Nat → Int32) (su1_500 : Nat → Int64), (q_X11_clears f1_488 su p1 f1_499 su1_500) ∧ (f1 = f1_499 ∧ su1 = su1_500))))))))))) ∨ (¬ (rf_st3 f p1 0) = (2 : Int32) ∧ (f1 = f1_386 ∧ su1 = su)))))))))
set_option maxRecDepth 100000 in
set_option maxHeartbeats 4000000 in
theorem m_X11_ends (l : Launch) (D : va_G) (ct : Nat → ClassId) (S : ty_S) (ws : va_W) (ph : va_W → Prop) (xx : Nat → Nat → Nat → Prop) (mo : Nat) (mw : Nat) (ma : Nat) (mf : Nat) (m0 : Nat) (m1 : Nat) (mu : Nat) (mv : Nat) (u0 : Nat) (u1 : Nat) (iz : Nat) (mb : Nat) (th : Int32) (mn : Int32) (mpt : Int32) (mbg : Int32) (mwr : Int32) (mwk : Int32) (mlf : Int32) (men : Int32) (f : Nat → Int32) (G : Nat → Int32) (cx : Int) (su : Nat → Int64) (p1 : Int32) (sz : Nat) (hT : ty_V ct S ph ws) (hph : ty_C ph xx) (hy1 : ty_y1 xx) (hy11 : ty_y0 xx 11) (hR : rf_R G cx f) (hc : 0 ≤ p1.toInt ∧ p1.toInt < (G 9).toInt) (ho : rf_on G f p1) : Met l yX11_ends (ws_ yX11_ends cX11_ends 4 none) ({ frames := 2, cells := 0, slots := 0, locals := 45 } : Room) (va_Pc [.ref mo, .int p1] (cmP D ct sz ([(rf_MO mo mw ma mf m0 m1 mu mv u0 u1 iz th mb mn mpt mbg mwr mwk mlf men), (rf_RW ct 0 mw 958 f), (mu, .inl (ct 1, 42, .inr (.inl su)))] ++ ws))) (va_Qv (fun (u : va_W × (Nat → Int32) × (Nat → Int64)) => match u with | (u9, f1, su1) => ty_V ct S ph u9 ∧ (q_X11_ends f su p1 f1 su1) ∧ rf_d (f 8) f f1 ∧ rf_R G cx f1 ∧ rf_sm f f1) (cmB D ([(rf_MO mo mw ma mf m0 m1 mu mv u0 u1 iz th mb mn mpt mbg mwr mwk mlf men), (rf_RW ct 0 mw 958 f), (mu, .inl (ct 1, 42, .inr (.inl su)))] ++ ws) sz (fun (u : va_W × (Nat → Int32) × (Nat → Int64)) => match u with | (u9, f1, su1) => ([(rf_MO mo mw ma mf m0 m1 mu mv u0 u1 iz th mb mn mpt mbg mwr mwk mlf men), (rf_RW ct 0 mw 958 f1), (mu, .inl (ct 1, 42, .inr (.inl su1)))] ++ u9))) (va_A ([(rf_MO mo mw ma mf m0 m1 mu mv u0 u1 iz th mb mn mpt mbg mwr mwk mlf men), (rf_RW ct 0 mw 958 f), (mu, .inl (ct 1, 42, .inr (.inl su)))] ++ ws) sz)) 0 0 (va_A ([(rf_MO mo mw ma mf m0 m1 mu mv u0 u1 iz th mb mn mpt mbg mwr mwk mlf men), (rf_RW ct 0 mw 958 f), (mu, .inl (ct 1, 42, .inr (.inl su)))] ++ ws) sz) := by
  refine Met.ofW (cc := cX11_ends) (maxL := 4) (ret := none) (by decide) rfl ?_
  intro p e s m args below meth c s₁ B hml hv
  obtain ⟨rfl, hsz, hP, hK, hD0, hX⟩ := hv
  have hx := B.exec
  have hb := B.bytes
  have hr := B.returns
  have hts := ws_all (atoms_spec (ws := ws_ yX11_ends cX11_ends 4 none) B.pre)
  have hown : s.vm.findClass RX11 = some m.cls := findClass_of_methodNamed B.named
  have hlocks := B.notSynchronized
  subst hsz
  have hD := hD0.self (sz := s.heap.size)
  generalize hAe : va_A ([(rf_MO mo mw ma mf m0 m1 mu mv u0 u1 iz th mb mn mpt mbg mwr mwk mlf men), (rf_RW ct 0 mw 958 f), (mu, .inl (ct 1, 42, .inr (.inl su)))] ++ ws) s.heap.size = A at hD hX ⊢
  have hA : ∀ q : Nat, s.heap.size ≤ q → A q := fun q h => by rw [← hAe]; exact Or.inr h
  have hS : va_S A s.heap s.heap [] := va_S.rf
  have hl := lv_entry ([.ref mo, .int p1]) (n := 4) (Nat.le_of_ble_eq_true rfl)
  rw [lg_entry_eq]
  generalize (lg_sl ([.ref mo, .int p1]) ++ List.replicate (4 - (lg_sl ([.ref mo, .int p1])).length) Slot.unset).toArray = ls at hl ⊢
  have hl : lv_has ls 4 [(0, .ref mo), (1, .int p1)] := hl
  refine lv_aload_n hx hb dX11_ends_0 rfl (lv_at hl 0 rfl) ?_
  refine lv_iload_n hx hb dX11_ends_1 rfl (lv_at hl 1 rfl) ?_
  refine lv_iconst (v := 0) hx hb dX11_ends_2 (by decide) ?_
  obtain ⟨hP, hD⟩ := ty_opPD (E1 := [(mu, .inl (ct 1, 42, .inr (.inl su)))]) (E2 := [(rf_MO mo mw ma mf m0 m1 mu mv u0 u1 iz th mb mn mpt mbg mwr mwk mlf men), (rf_RW ct 0 mw 958 f)]) (n := 3) [2, 0, 1] hP hD rfl rfl (by decide +kernel) ty_mva
  refine ty_Ki hP hD hS hA (va_runV (As := [.int p1, .int 0]) (rest := []) ⟨hx, hb, hml, hown, hts⟩ (m_step_0 l D ct S ws ph xx mo mw ma mf m0 m1 mu mv u0 u1 iz mb th mn mpt mbg mwr mwk mlf men f G cx p1 _ hT hph hy1 hR hc ho) (cm_V 2 hts kc_X11_step ki_RX11 kl_RX11_228 kv_X11_step kx_X11_step kd_X11_step ⟨Nat.le_of_ble_eq_true rfl, Nat.le_of_ble_eq_true rfl⟩) (ty_preE (ci := 11) (q0 := 1) hP hK hD hS hA hX rfl rfl) rfl rfl hl.1 rfl (lv_room (Nat.le_of_ble_eq_true rfl)) dX11_ends_3 ⟨Nat.le_of_ble_eq_true rfl, Nat.le_of_ble_eq_true rfl⟩) (fun r_1 u H locs hw_2 hP hD hS => ?_)
  obtain ⟨ws_3, rfl⟩ : ∃ z, z = u := ⟨_, rfl⟩
  obtain ⟨hT, rfl⟩ := hw_2
  obtain ⟨hP, hD⟩ := ty_shPD (w2 := ([(mu, .inl (ct 1, 42, .inr (.inl su))), (rf_MO mo mw ma mf m0 m1 mu mv u0 u1 iz th mb mn mpt mbg mwr mwk mlf men), (rf_RW ct 0 mw 958 f)] ++ ws_3)) hP hD rfl
  refine lv_istore_n (lv' := [(2, .int (rf_st3 f p1 0)), (0, .ref mo), (1, .int p1)]) hx hb dX11_ends_6 rfl hl (by decide) rfl (fun ls hl => ?_)
  refine lv_iload_n hx hb dX11_ends_7 rfl (lv_at hl 0 rfl) ?_
  refine lv_iconst (v := 1) hx hb dX11_ends_8 (by decide) ?_
  refine lv_icmp_ne (tgt := 20) hx hb dX11_ends_9 (by decide) (fun hc_4 => ?_) (fun hc_4 => ?_)
  · refine lv_iload_n hx hb dX11_ends_20 rfl (lv_at hl 0 rfl) ?_
    refine lv_iconst (v := 3) hx hb dX11_ends_21 (by decide) ?_
    refine lv_icmp_ne (tgt := 38) hx hb dX11_ends_22 (by decide) (fun hc_5 => ?_) (fun hc_5 => ?_)
    · refine lv_iload_n hx hb dX11_ends_38 rfl (lv_at hl 0 rfl) ?_
      refine lv_iconst (v := 2) hx hb dX11_ends_39 (by decide) ?_
      refine lv_icmp_eq (tgt := 44) hx hb dX11_ends_40 (by decide) (fun hc_6 => ?_) (fun hc_6 => ?_)
      · refine lv_aload_n hx hb dX11_ends_44 rfl (lv_at hl 1 rfl) ?_
        refine lv_iload_n hx hb dX11_ends_45 rfl (lv_at hl 2 rfl) ?_
        refine lv_bipush (v := 21) hx hb dX11_ends_46 (by decide) ?_
        obtain ⟨hP, hD⟩ := ty_ipPD (E1 := [(mu, .inl (ct 1, 42, .inr (.inl su)))]) (E2 := [(rf_MO mo mw ma mf m0 m1 mu mv u0 u1 iz th mb mn mpt mbg mwr mwk mlf men), (rf_RW ct 0 mw 958 f)]) hP hD rfl ty_mva
        refine ty_Ki hP hD hS hA (va_runV (As := [.int p1, .int 21]) (rest := []) ⟨hx, hb, hml, hown, hts⟩ (m_of_21 l D ct S ws_3 ph xx mo mw ma mf m0 m1 mu mv u0 u1 iz mb th mn mpt mbg mwr mwk mlf men f G cx p1 _ hT hph hy1 hR hc) (cm_V 2 hts kc_X11_of ki_RX11 kl_RX11_209 kv_X11_of kx_X11_of kd_X11_of ⟨Nat.le_of_ble_eq_true rfl, Nat.le_of_ble_eq_true rfl⟩) (ty_preE (ci := 11) (q0 := 1) hP hK hD hS hA hX rfl rfl) rfl rfl hl.1 rfl (lv_room (Nat.le_of_ble_eq_true rfl)) dX11_ends_48 ⟨Nat.le_of_ble_eq_true rfl, Nat.le_of_ble_eq_true rfl⟩) (fun r_7 u H locs hw_8 hP hD hS => ?_)
        obtain ⟨ws_9, rfl⟩ : ∃ z, z = u := ⟨_, rfl⟩
        obtain ⟨hT, rfl⟩ := hw_8
        obtain ⟨hP, hD⟩ := ty_shPD (w2 := ([(mu, .inl (ct 1, 42, .inr (.inl su))), (rf_MO mo mw ma mf m0 m1 mu mv u0 u1 iz th mb mn mpt mbg mwr mwk mlf men), (rf_RW ct 0 mw 958 f)] ++ ws_9)) hP hD rfl
        refine lv_iconst (v := 1) hx hb dX11_ends_51 (by decide) ?_
        refine lv_icmp_ne (tgt := 74) hx hb dX11_ends_52 (by decide) (fun hc_10 => ?_) (fun hc_10 => ?_)
        · refine lv_iconst (v := 0) hx hb dX11_ends_74 (by decide) ?_
          refine lv_istore_n (lv' := [(3, .int 0), (2, .int (rf_st3 f p1 0)), (0, .ref mo), (1, .int p1)]) hx hb dX11_ends_75 rfl hl (by decide) rfl (fun ls hl => ?_)
          refine lv_aload_n hx hb dX11_ends_76 rfl (lv_at hl 2 rfl) ?_
          refine lv_iload_n hx hb dX11_ends_77 rfl (lv_at hl 3 rfl) ?_
          refine lv_iload_n hx hb dX11_ends_78 rfl (lv_at hl 0 rfl) ?_
          obtain ⟨hP, hD⟩ := ty_opPD (E1 := []) (E2 := [(rf_MO mo mw ma mf m0 m1 mu mv u0 u1 iz th mb mn mpt mbg mwr mwk mlf men), (rf_RW ct 0 mw 958 f), (mu, .inl (ct 1, 42, .inr (.inl su)))]) (n := 3) [1, 2, 0] hP hD rfl rfl (by decide +kernel) ty_mva
          refine ty_Kv hP hD hS hA (va_runV (As := [.int p1, .int 0]) (rest := []) ⟨hx, hb, hml, hown, hts⟩ (m_X11_records l D ct S ws_9 ph xx mo mw ma mf m0 m1 mu mv u0 u1 iz mb th mn mpt mbg mwr mwk mlf men f G cx su p1 (0 : Int32) _ hT hph hy1 hR hc) (cm_V 2 hts kc_X11_records ki_RX11 kl_RX11_268 kv_X11_records kx_X11_records kd_X11_records ⟨Nat.le_of_ble_eq_true rfl, Nat.le_of_ble_eq_true rfl⟩) (ty_preE (ci := 11) (q0 := 0) hP hK hD hS hA hX rfl rfl) rfl rfl hl.1 rfl (lv_room (Nat.le_of_ble_eq_true rfl)) dX11_ends_79 ⟨Nat.le_of_ble_eq_true rfl, Nat.le_of_ble_eq_true rfl⟩) (fun u H locs hw_12 hP hD hS => ?_)
          obtain ⟨ws_13, f1_14⟩ := u
          obtain ⟨hT, hp_15⟩ := hw_12
          have hp_15 : (q_X11_records f su p1 (0 : Int32) f1_14) ∧ rf_d (f 8) f f1_14 ∧ rf_R G cx f1_14 ∧ rf_sm f f1_14 := hp_15
          obtain ⟨hq_16, hp_17⟩ := hp_15
          obtain ⟨hd_18, hq_19⟩ := hp_17
          have hD_20 := rf_dt (rf_dr f) hd_18
          have hR_21 := hq_19.1
          have hM_22 := rf_smt (rf_smr f) hq_19.2
          have ho_23 := rf_ons hR hc hq_19.2 ho
          obtain ⟨hP, hD⟩ := ty_shPD (w2 := ([(rf_MO mo mw ma mf m0 m1 mu mv u0 u1 iz th mb mn mpt mbg mwr mwk mlf men), (rf_RW ct 0 mw 958 f1_14), (mu, .inl (ct 1, 42, .inr (.inl su)))] ++ ws_13)) hP hD rfl
          refine lv_iload_n hx hb dX11_ends_82 rfl (lv_at hl 0 rfl) ?_
          refine lv_if_eq (tgt := 108) hx hb dX11_ends_83 (by decide) (fun _ => ?_) (fun hc => absurd (by decide) hc)
          refine lv_aload_n hx hb dX11_ends_108 rfl (lv_at hl 2 rfl) ?_
          refine lv_iload_n hx hb dX11_ends_109 rfl (lv_at hl 3 rfl) ?_
          obtain ⟨hP, hD⟩ := ty_ipPD (E1 := []) (E2 := [(rf_MO mo mw ma mf m0 m1 mu mv u0 u1 iz th mb mn mpt mbg mwr mwk mlf men), (rf_RW ct 0 mw 958 f1_14), (mu, .inl (ct 1, 42, .inr (.inl su)))]) hP hD rfl ty_mva
          refine ty_Kv hP hD hS hA (va_runV (As := [.int p1]) (rest := []) ⟨hx, hb, hml, hown, hts⟩ (m_X11_clears l D ct S ws_13 ph xx mo mw ma mf m0 m1 mu mv u0 u1 iz mb th mn mpt mbg mwr mwk mlf men f1_14 G cx su p1 _ hT hph hy1 hy11 hR_21 hc) (cm_V 1 hts kc_X11_clears ki_RX11 kl_RX11_272 kv_X11_clears kx_X11_clears kd_X11_clears ⟨Nat.le_of_ble_eq_true rfl, Nat.le_of_ble_eq_true rfl⟩) (ty_preE (ci := 11) (q0 := 0) hP hK hD hS hA hX rfl rfl) rfl rfl hl.1 rfl (lv_room (Nat.le_of_ble_eq_true rfl)) dX11_ends_110 ⟨Nat.le_of_ble_eq_true rfl, Nat.le_of_ble_eq_true rfl⟩) (fun u H locs hw_25 hP hD hS => ?_)
          obtain ⟨ws_26, f1_27, su1_28⟩ := u
          obtain ⟨hT, hp_29⟩ := hw_25
          have hp_29 : (q_X11_clears f1_14 su p1 f1_27 su1_28) ∧ rf_d (f1_14 8) f1_14 f1_27 ∧ rf_R G cx f1_27 ∧ rf_sm f1_14 f1_27 := hp_29
          obtain ⟨hq_30, hp_31⟩ := hp_29
          obtain ⟨hd_32, hq_33⟩ := hp_31
          have hD_34 := rf_dt hD_20 hd_32
          have hR_35 := hq_33.1
          have hM_36 := rf_smt hM_22 hq_33.2
          have ho_37 := rf_ons hR_21 hc hq_33.2 ho_23
          obtain ⟨hP, hD⟩ := ty_shPD (w2 := ([(rf_MO mo mw ma mf m0 m1 mu mv u0 u1 iz th mb mn mpt mbg mwr mwk mlf men), (rf_RW ct 0 mw 958 f1_27), (mu, .inl (ct 1, 42, .inr (.inl su1_28)))] ++ ws_26)) hP hD rfl
          exact W.vret hx hb hr (fun t ht hW => ⟨⟨(ws_26, f1_27, su1_28), rfl, ⟨hT, ⟨(Or.inl ⟨hc_4, (Or.inl ⟨hc_5, (Or.inl ⟨hc_6, (Or.inl ⟨hc_10, ⟨f1_14, hq_16, ⟨f1_27, su1_28, hq_30, ⟨rfl, rfl⟩⟩⟩⟩)⟩)⟩)⟩), ⟨hD_34, hR_35, hM_36⟩⟩⟩, by rw [ht]; exact hP, by rw [hAe]; exact hD⟩, hS.F ht⟩) hS.2.2 dX11_ends_113
        · refine lv_aload_n hx hb dX11_ends_55 rfl (lv_at hl 1 rfl) ?_
          refine lv_iload_n hx hb dX11_ends_56 rfl (lv_at hl 2 rfl) ?_
          refine lv_iconst (v := 5) hx hb dX11_ends_57 (by decide) ?_
          obtain ⟨hP, hD⟩ := ty_ipPD (E1 := [(mu, .inl (ct 1, 42, .inr (.inl su)))]) (E2 := [(rf_MO mo mw ma mf m0 m1 mu mv u0 u1 iz th mb mn mpt mbg mwr mwk mlf men), (rf_RW ct 0 mw 958 f)]) hP hD rfl ty_mva
          refine ty_Ki hP hD hS hA (va_runV (As := [.int p1, .int 5]) (rest := []) ⟨hx, hb, hml, hown, hts⟩ (m_of_5 l D ct S ws_9 ph xx mo mw ma mf m0 m1 mu mv u0 u1 iz mb th mn mpt mbg mwr mwk mlf men f G cx p1 _ hT hph hy1 hR hc) (cm_V 2 hts kc_X11_of ki_RX11 kl_RX11_209 kv_X11_of kx_X11_of kd_X11_of ⟨Nat.le_of_ble_eq_true rfl, Nat.le_of_ble_eq_true rfl⟩) (ty_preE (ci := 11) (q0 := 1) hP hK hD hS hA hX rfl rfl) rfl rfl hl.1 rfl (lv_room (Nat.le_of_ble_eq_true rfl)) dX11_ends_58 ⟨Nat.le_of_ble_eq_true rfl, Nat.le_of_ble_eq_true rfl⟩) (fun r_38 u H locs hw_39 hP hD hS => ?_)
          obtain ⟨ws_40, rfl⟩ : ∃ z, z = u := ⟨_, rfl⟩
          obtain ⟨hT, rfl⟩ := hw_39
          obtain ⟨hP, hD⟩ := ty_shPD (w2 := ([(mu, .inl (ct 1, 42, .inr (.inl su))), (rf_MO mo mw ma mf m0 m1 mu mv u0 u1 iz th mb mn mpt mbg mwr mwk mlf men), (rf_RW ct 0 mw 958 f)] ++ ws_40)) hP hD rfl
          refine lv_aload_n hx hb dX11_ends_61 rfl (lv_at hl 1 rfl) ?_
          refine lv_iload_n hx hb dX11_ends_62 rfl (lv_at hl 2 rfl) ?_
          refine lv_iconst (v := 2) hx hb dX11_ends_63 (by decide) ?_
          obtain ⟨hP, hD⟩ := ty_ipPD (E1 := [(mu, .inl (ct 1, 42, .inr (.inl su)))]) (E2 := [(rf_MO mo mw ma mf m0 m1 mu mv u0 u1 iz th mb mn mpt mbg mwr mwk mlf men), (rf_RW ct 0 mw 958 f)]) hP hD rfl ty_mva
          refine ty_Ki hP hD hS hA (va_runV (As := [.int p1, .int 2]) (rest := [.int (rf_of f p1 5)]) ⟨hx, hb, hml, hown, hts⟩ (m_step_2 l D ct S ws_40 ph xx mo mw ma mf m0 m1 mu mv u0 u1 iz mb th mn mpt mbg mwr mwk mlf men f G cx p1 _ hT hph hy1 hR hc ho) (cm_V 2 hts kc_X11_step ki_RX11 kl_RX11_228 kv_X11_step kx_X11_step kd_X11_step ⟨Nat.le_of_ble_eq_true rfl, Nat.le_of_ble_eq_true rfl⟩) (ty_preE (ci := 11) (q0 := 1) hP hK hD hS hA hX rfl rfl) rfl rfl hl.1 rfl (lv_room (Nat.le_of_ble_eq_true rfl)) dX11_ends_64 ⟨Nat.le_of_ble_eq_true rfl, Nat.le_of_ble_eq_true rfl⟩) (fun r_41 u H locs hw_42 hP hD hS => ?_)
          obtain ⟨ws_43, rfl⟩ : ∃ z, z = u := ⟨_, rfl⟩
          obtain ⟨hT, rfl⟩ := hw_42
          obtain ⟨hP, hD⟩ := ty_shPD (w2 := ([(mu, .inl (ct 1, 42, .inr (.inl su))), (rf_MO mo mw ma mf m0 m1 mu mv u0 u1 iz th mb mn mpt mbg mwr mwk mlf men), (rf_RW ct 0 mw 958 f)] ++ ws_43)) hP hD rfl
          refine lv_icmp_gt (tgt := 74) hx hb dX11_ends_67 (by decide) (fun hc_44 => ?_) (fun hc_44 => ?_)
          · refine lv_iconst (v := 0) hx hb dX11_ends_74 (by decide) ?_
            refine lv_istore_n (lv' := [(3, .int 0), (2, .int (rf_st3 f p1 0)), (0, .ref mo), (1, .int p1)]) hx hb dX11_ends_75 rfl hl (by decide) rfl (fun ls hl => ?_)
            refine lv_aload_n hx hb dX11_ends_76 rfl (lv_at hl 2 rfl) ?_
            refine lv_iload_n hx hb dX11_ends_77 rfl (lv_at hl 3 rfl) ?_
            refine lv_iload_n hx hb dX11_ends_78 rfl (lv_at hl 0 rfl) ?_
            obtain ⟨hP, hD⟩ := ty_opPD (E1 := []) (E2 := [(rf_MO mo mw ma mf m0 m1 mu mv u0 u1 iz th mb mn mpt mbg mwr mwk mlf men), (rf_RW ct 0 mw 958 f), (mu, .inl (ct 1, 42, .inr (.inl su)))]) (n := 3) [1, 2, 0] hP hD rfl rfl (by decide +kernel) ty_mva
            refine ty_Kv hP hD hS hA (va_runV (As := [.int p1, .int 0]) (rest := []) ⟨hx, hb, hml, hown, hts⟩ (m_X11_records l D ct S ws_43 ph xx mo mw ma mf m0 m1 mu mv u0 u1 iz mb th mn mpt mbg mwr mwk mlf men f G cx su p1 (0 : Int32) _ hT hph hy1 hR hc) (cm_V 2 hts kc_X11_records ki_RX11 kl_RX11_268 kv_X11_records kx_X11_records kd_X11_records ⟨Nat.le_of_ble_eq_true rfl, Nat.le_of_ble_eq_true rfl⟩) (ty_preE (ci := 11) (q0 := 0) hP hK hD hS hA hX rfl rfl) rfl rfl hl.1 rfl (lv_room (Nat.le_of_ble_eq_true rfl)) dX11_ends_79 ⟨Nat.le_of_ble_eq_true rfl, Nat.le_of_ble_eq_true rfl⟩) (fun u H locs hw_46 hP hD hS => ?_)
            obtain ⟨ws_47, f1_48⟩ := u
            obtain ⟨hT, hp_49⟩ := hw_46
            have hp_49 : (q_X11_records f su p1 (0 : Int32) f1_48) ∧ rf_d (f 8) f f1_48 ∧ rf_R G cx f1_48 ∧ rf_sm f f1_48 := hp_49
            obtain ⟨hq_50, hp_51⟩ := hp_49
            obtain ⟨hd_52, hq_53⟩ := hp_51
            have hD_54 := rf_dt (rf_dr f) hd_52
            have hR_55 := hq_53.1
            have hM_56 := rf_smt (rf_smr f) hq_53.2
            have ho_57 := rf_ons hR hc hq_53.2 ho
            obtain ⟨hP, hD⟩ := ty_shPD (w2 := ([(rf_MO mo mw ma mf m0 m1 mu mv u0 u1 iz th mb mn mpt mbg mwr mwk mlf men), (rf_RW ct 0 mw 958 f1_48), (mu, .inl (ct 1, 42, .inr (.inl su)))] ++ ws_47)) hP hD rfl
            refine lv_iload_n hx hb dX11_ends_82 rfl (lv_at hl 0 rfl) ?_
            refine lv_if_eq (tgt := 108) hx hb dX11_ends_83 (by decide) (fun _ => ?_) (fun hc => absurd (by decide) hc)
            refine lv_aload_n hx hb dX11_ends_108 rfl (lv_at hl 2 rfl) ?_
            refine lv_iload_n hx hb dX11_ends_109 rfl (lv_at hl 3 rfl) ?_
            obtain ⟨hP, hD⟩ := ty_ipPD (E1 := []) (E2 := [(rf_MO mo mw ma mf m0 m1 mu mv u0 u1 iz th mb mn mpt mbg mwr mwk mlf men), (rf_RW ct 0 mw 958 f1_48), (mu, .inl (ct 1, 42, .inr (.inl su)))]) hP hD rfl ty_mva
            refine ty_Kv hP hD hS hA (va_runV (As := [.int p1]) (rest := []) ⟨hx, hb, hml, hown, hts⟩ (m_X11_clears l D ct S ws_47 ph xx mo mw ma mf m0 m1 mu mv u0 u1 iz mb th mn mpt mbg mwr mwk mlf men f1_48 G cx su p1 _ hT hph hy1 hy11 hR_55 hc) (cm_V 1 hts kc_X11_clears ki_RX11 kl_RX11_272 kv_X11_clears kx_X11_clears kd_X11_clears ⟨Nat.le_of_ble_eq_true rfl, Nat.le_of_ble_eq_true rfl⟩) (ty_preE (ci := 11) (q0 := 0) hP hK hD hS hA hX rfl rfl) rfl rfl hl.1 rfl (lv_room (Nat.le_of_ble_eq_true rfl)) dX11_ends_110 ⟨Nat.le_of_ble_eq_true rfl, Nat.le_of_ble_eq_true rfl⟩) (fun u H locs hw_59 hP hD hS => ?_)
            obtain ⟨ws_60, f1_61, su1_62⟩ := u
            obtain ⟨hT, hp_63⟩ := hw_59
            have hp_63 : (q_X11_clears f1_48 su p1 f1_61 su1_62) ∧ rf_d (f1_48 8) f1_48 f1_61 ∧ rf_R G cx f1_61 ∧ rf_sm f1_48 f1_61 := hp_63
            obtain ⟨hq_64, hp_65⟩ := hp_63
            obtain ⟨hd_66, hq_67⟩ := hp_65
            have hD_68 := rf_dt hD_54 hd_66
            have hR_69 := hq_67.1
            have hM_70 := rf_smt hM_56 hq_67.2
            have ho_71 := rf_ons hR_55 hc hq_67.2 ho_57
            obtain ⟨hP, hD⟩ := ty_shPD (w2 := ([(rf_MO mo mw ma mf m0 m1 mu mv u0 u1 iz th mb mn mpt mbg mwr mwk mlf men), (rf_RW ct 0 mw 958 f1_61), (mu, .inl (ct 1, 42, .inr (.inl su1_62)))] ++ ws_60)) hP hD rfl
            exact W.vret hx hb hr (fun t ht hW => ⟨⟨(ws_60, f1_61, su1_62), rfl, ⟨hT, ⟨(Or.inl ⟨hc_4, (Or.inl ⟨hc_5, (Or.inl ⟨hc_6, (Or.inr ⟨hc_10, (Or.inl ⟨hc_44, ⟨f1_48, hq_50, ⟨f1_61, su1_62, hq_64, ⟨rfl, rfl⟩⟩⟩⟩)⟩)⟩)⟩)⟩), ⟨hD_68, hR_69, hM_70⟩⟩⟩, by rw [ht]; exact hP, by rw [hAe]; exact hD⟩, hS.F ht⟩) hS.2.2 dX11_ends_113
          · refine lv_iconst (v := 1) hx hb dX11_ends_70 (by decide) ?_
            refine lv_goto (tgt := 75) hx hb dX11_ends_71 (by decide) ?_
            refine lv_istore_n (lv' := [(3, .int 1), (2, .int (rf_st3 f p1 0)), (0, .ref mo), (1, .int p1)]) hx hb dX11_ends_75 rfl hl (by decide) rfl (fun ls hl => ?_)
            refine lv_aload_n hx hb dX11_ends_76 rfl (lv_at hl 2 rfl) ?_
            refine lv_iload_n hx hb dX11_ends_77 rfl (lv_at hl 3 rfl) ?_
            refine lv_iload_n hx hb dX11_ends_78 rfl (lv_at hl 0 rfl) ?_
            obtain ⟨hP, hD⟩ := ty_opPD (E1 := []) (E2 := [(rf_MO mo mw ma mf m0 m1 mu mv u0 u1 iz th mb mn mpt mbg mwr mwk mlf men), (rf_RW ct 0 mw 958 f), (mu, .inl (ct 1, 42, .inr (.inl su)))]) (n := 3) [1, 2, 0] hP hD rfl rfl (by decide +kernel) ty_mva
            refine ty_Kv hP hD hS hA (va_runV (As := [.int p1, .int 1]) (rest := []) ⟨hx, hb, hml, hown, hts⟩ (m_X11_records l D ct S ws_43 ph xx mo mw ma mf m0 m1 mu mv u0 u1 iz mb th mn mpt mbg mwr mwk mlf men f G cx su p1 (1 : Int32) _ hT hph hy1 hR hc) (cm_V 2 hts kc_X11_records ki_RX11 kl_RX11_268 kv_X11_records kx_X11_records kd_X11_records ⟨Nat.le_of_ble_eq_true rfl, Nat.le_of_ble_eq_true rfl⟩) (ty_preE (ci := 11) (q0 := 0) hP hK hD hS hA hX rfl rfl) rfl rfl hl.1 rfl (lv_room (Nat.le_of_ble_eq_true rfl)) dX11_ends_79 ⟨Nat.le_of_ble_eq_true rfl, Nat.le_of_ble_eq_true rfl⟩) (fun u H locs hw_73 hP hD hS => ?_)
            obtain ⟨ws_74, f1_75⟩ := u
            obtain ⟨hT, hp_76⟩ := hw_73
            have hp_76 : (q_X11_records f su p1 (1 : Int32) f1_75) ∧ rf_d (f 8) f f1_75 ∧ rf_R G cx f1_75 ∧ rf_sm f f1_75 := hp_76
            obtain ⟨hq_77, hp_78⟩ := hp_76
            obtain ⟨hd_79, hq_80⟩ := hp_78
            have hD_81 := rf_dt (rf_dr f) hd_79
            have hR_82 := hq_80.1
            have hM_83 := rf_smt (rf_smr f) hq_80.2
            have ho_84 := rf_ons hR hc hq_80.2 ho
            obtain ⟨hP, hD⟩ := ty_shPD (w2 := ([(rf_MO mo mw ma mf m0 m1 mu mv u0 u1 iz th mb mn mpt mbg mwr mwk mlf men), (rf_RW ct 0 mw 958 f1_75), (mu, .inl (ct 1, 42, .inr (.inl su)))] ++ ws_74)) hP hD rfl
            refine lv_iload_n hx hb dX11_ends_82 rfl (lv_at hl 0 rfl) ?_
            refine lv_if_eq (tgt := 108) hx hb dX11_ends_83 (by decide) (fun hc => absurd hc (by decide)) (fun _ => ?_)
            refine lv_aload_n hx hb dX11_ends_86 rfl (lv_at hl 2 rfl) ?_
            refine lv_iload_n hx hb dX11_ends_87 rfl (lv_at hl 3 rfl) ?_
            refine lv_bipush (v := 20) hx hb dX11_ends_88 (by decide) ?_
            refine lv_aload_n hx hb dX11_ends_90 rfl (lv_at hl 2 rfl) ?_
            refine lv_iload_n hx hb dX11_ends_91 rfl (lv_at hl 3 rfl) ?_
            refine lv_iconst (v := 1) hx hb dX11_ends_92 (by decide) ?_
            obtain ⟨hP, hD⟩ := ty_opPD (E1 := [(rf_RW ct 0 mw 958 f1_75)]) (E2 := [(rf_MO mo mw ma mf m0 m1 mu mv u0 u1 iz th mb mn mpt mbg mwr mwk mlf men), (mu, .inl (ct 1, 42, .inr (.inl su)))]) (n := 3) [1, 0, 2] hP hD rfl rfl (by decide +kernel) ty_mva
            refine ty_Kl hP hD hS hA (va_runV (As := [.int p1, .int 1]) (rest := [.int 20, .int p1, .ref mo]) ⟨hx, hb, hml, hown, hts⟩ (m_X11_sum l D ct S ws_74 ph xx mo mw ma mf m0 m1 mu mv u0 u1 iz mb th mn mpt mbg mwr mwk mlf men su p1 (1 : Int32) _ hT hph hy1 (rf_c6 hR_82 hc) (by decide)) (cm_V 2 hts kc_X11_sum ki_RX11 kl_RX11_261 kv_X11_sum kx_X11_sum kd_X11_sum ⟨Nat.le_of_ble_eq_true rfl, Nat.le_of_ble_eq_true rfl⟩) (ty_preE (ci := 11) (q0 := 1) hP hK hD hS hA hX rfl rfl) rfl rfl hl.1 rfl (lv_room (Nat.le_of_ble_eq_true rfl)) dX11_ends_93 ⟨Nat.le_of_ble_eq_true rfl, Nat.le_of_ble_eq_true rfl⟩) (fun r_85 u H locs hw_86 hP hD hS => ?_)
            obtain ⟨ws_87, rfl⟩ : ∃ z, z = u := ⟨_, rfl⟩
            obtain ⟨hT, hp_88⟩ := hw_86
            have hp_88 : (q_X11_sum su p1 (1 : Int32) r_85) := hp_88
            obtain ⟨hP, hD⟩ := ty_shPD (w2 := ([(rf_RW ct 0 mw 958 f1_75), (rf_MO mo mw ma mf m0 m1 mu mv u0 u1 iz th mb mn mpt mbg mwr mwk mlf men), (mu, .inl (ct 1, 42, .inr (.inl su)))] ++ ws_87)) hP hD rfl
            refine lv_aload_n hx hb dX11_ends_96 rfl (lv_at hl 2 rfl) ?_
            refine lv_iload_n hx hb dX11_ends_97 rfl (lv_at hl 3 rfl) ?_
            refine lv_bipush (v := 6) hx hb dX11_ends_98 (by decide) ?_
            obtain ⟨hP, hD⟩ := ty_ipPD (E1 := [(rf_RW ct 0 mw 958 f1_75)]) (E2 := [(rf_MO mo mw ma mf m0 m1 mu mv u0 u1 iz th mb mn mpt mbg mwr mwk mlf men), (mu, .inl (ct 1, 42, .inr (.inl su)))]) hP hD rfl ty_mva
            refine ty_Kl hP hD hS hA (va_runV (As := [.int p1, .int 6]) (rest := [.long r_85, .int 20, .int p1, .ref mo]) ⟨hx, hb, hml, hown, hts⟩ (m_X11_sum l D ct S ws_87 ph xx mo mw ma mf m0 m1 mu mv u0 u1 iz mb th mn mpt mbg mwr mwk mlf men su p1 (6 : Int32) _ hT hph hy1 (rf_c6 hR_82 hc) (by decide)) (cm_V 2 hts kc_X11_sum ki_RX11 kl_RX11_261 kv_X11_sum kx_X11_sum kd_X11_sum ⟨Nat.le_of_ble_eq_true rfl, Nat.le_of_ble_eq_true rfl⟩) (ty_preE (ci := 11) (q0 := 1) hP hK hD hS hA hX rfl rfl) rfl rfl hl.1 rfl (lv_room (Nat.le_of_ble_eq_true rfl)) dX11_ends_100 ⟨Nat.le_of_ble_eq_true rfl, Nat.le_of_ble_eq_true rfl⟩) (fun r_91 u H locs hw_92 hP hD hS => ?_)
            obtain ⟨ws_93, rfl⟩ : ∃ z, z = u := ⟨_, rfl⟩
            obtain ⟨hT, hp_94⟩ := hw_92
            have hp_94 : (q_X11_sum su p1 (6 : Int32) r_91) := hp_94
            obtain ⟨hP, hD⟩ := ty_shPD (w2 := ([(rf_RW ct 0 mw 958 f1_75), (rf_MO mo mw ma mf m0 m1 mu mv u0 u1 iz th mb mn mpt mbg mwr mwk mlf men), (mu, .inl (ct 1, 42, .inr (.inl su)))] ++ ws_93)) hP hD rfl
            refine lv_lsub hx hb dX11_ends_103 ?_
            refine lv_l2i hx hb dX11_ends_104 rfl ?_
            obtain ⟨hP, hD⟩ := ty_opPD (E1 := [(mu, .inl (ct 1, 42, .inr (.inl su)))]) (E2 := [(rf_MO mo mw ma mf m0 m1 mu mv u0 u1 iz th mb mn mpt mbg mwr mwk mlf men), (rf_RW ct 0 mw 958 f1_75)]) (n := 3) [2, 1, 0] hP hD rfl rfl (by decide +kernel) ty_mva
            refine ty_Kv hP hD hS hA (va_runV (As := [.int p1, .int 20, .int ((r_85 - r_91).toInt32)]) (rest := []) ⟨hx, hb, hml, hown, hts⟩ (m_put_20 l D ct S ws_93 ph xx mo mw ma mf m0 m1 mu mv u0 u1 iz mb th mn mpt mbg mwr mwk mlf men f1_75 G cx p1 ((r_85 - r_91).toInt32) _ hT hph hy1 hR_82 hc) (cm_V 3 hts kc_X11_put ki_RX11 kl_RX11_234 kv_X11_put kx_X11_put kd_X11_put ⟨Nat.le_of_ble_eq_true rfl, Nat.le_of_ble_eq_true rfl⟩) (ty_preE (ci := 11) (q0 := 1) hP hK hD hS hA hX rfl rfl) rfl rfl hl.1 rfl (lv_room (Nat.le_of_ble_eq_true rfl)) dX11_ends_105 ⟨Nat.le_of_ble_eq_true rfl, Nat.le_of_ble_eq_true rfl⟩) (fun u H locs hw_98 hP hD hS => ?_)
            obtain ⟨ws_99, f1_100⟩ := u
            obtain ⟨hT, hp_101⟩ := hw_98
            have hp_101 : rf_d (f1_75 8) f1_75 f1_100 ∧ rf_R G cx f1_100 ∧ rf_sm f1_75 f1_100 ∧ f1_100 = upd f1_75 (244 + 54 * p1.toInt.toNat + 20) ((r_85 - r_91).toInt32) := hp_101
            obtain ⟨hd_102, hq_103⟩ := hp_101
            have hD_104 := rf_dt hD_81 hd_102
            have hR_105 := hq_103.1
            have hM_106 := rf_smt hM_83 hq_103.2.1
            have ho_107 := rf_ons hR_82 hc hq_103.2.1 ho_84
            obtain ⟨hP, hD⟩ := ty_shPD (w2 := ([(mu, .inl (ct 1, 42, .inr (.inl su))), (rf_MO mo mw ma mf m0 m1 mu mv u0 u1 iz th mb mn mpt mbg mwr mwk mlf men), (rf_RW ct 0 mw 958 f1_100)] ++ ws_99)) hP hD rfl
            refine lv_aload_n hx hb dX11_ends_108 rfl (lv_at hl 2 rfl) ?_
            refine lv_iload_n hx hb dX11_ends_109 rfl (lv_at hl 3 rfl) ?_
            obtain ⟨hP, hD⟩ := ty_opPD (E1 := []) (E2 := [(rf_MO mo mw ma mf m0 m1 mu mv u0 u1 iz th mb mn mpt mbg mwr mwk mlf men), (rf_RW ct 0 mw 958 f1_100), (mu, .inl (ct 1, 42, .inr (.inl su)))]) (n := 3) [1, 2, 0] hP hD rfl rfl (by decide +kernel) ty_mva
            refine ty_Kv hP hD hS hA (va_runV (As := [.int p1]) (rest := []) ⟨hx, hb, hml, hown, hts⟩ (m_X11_clears l D ct S ws_99 ph xx mo mw ma mf m0 m1 mu mv u0 u1 iz mb th mn mpt mbg mwr mwk mlf men f1_100 G cx su p1 _ hT hph hy1 hy11 hR_105 hc) (cm_V 1 hts kc_X11_clears ki_RX11 kl_RX11_272 kv_X11_clears kx_X11_clears kd_X11_clears ⟨Nat.le_of_ble_eq_true rfl, Nat.le_of_ble_eq_true rfl⟩) (ty_preE (ci := 11) (q0 := 0) hP hK hD hS hA hX rfl rfl) rfl rfl hl.1 rfl (lv_room (Nat.le_of_ble_eq_true rfl)) dX11_ends_110 ⟨Nat.le_of_ble_eq_true rfl, Nat.le_of_ble_eq_true rfl⟩) (fun u H locs hw_109 hP hD hS => ?_)
            obtain ⟨ws_110, f1_111, su1_112⟩ := u
            obtain ⟨hT, hp_113⟩ := hw_109
            have hp_113 : (q_X11_clears f1_100 su p1 f1_111 su1_112) ∧ rf_d (f1_100 8) f1_100 f1_111 ∧ rf_R G cx f1_111 ∧ rf_sm f1_100 f1_111 := hp_113
            obtain ⟨hq_114, hp_115⟩ := hp_113
            obtain ⟨hd_116, hq_117⟩ := hp_115
            have hD_118 := rf_dt hD_104 hd_116
            have hR_119 := hq_117.1
            have hM_120 := rf_smt hM_106 hq_117.2
            have ho_121 := rf_ons hR_105 hc hq_117.2 ho_107
            obtain ⟨hP, hD⟩ := ty_shPD (w2 := ([(rf_MO mo mw ma mf m0 m1 mu mv u0 u1 iz th mb mn mpt mbg mwr mwk mlf men), (rf_RW ct 0 mw 958 f1_111), (mu, .inl (ct 1, 42, .inr (.inl su1_112)))] ++ ws_110)) hP hD rfl
            exact W.vret hx hb hr (fun t ht hW => ⟨⟨(ws_110, f1_111, su1_112), rfl, ⟨hT, ⟨(Or.inl ⟨hc_4, (Or.inl ⟨hc_5, (Or.inl ⟨hc_6, (Or.inr ⟨hc_10, (Or.inr ⟨hc_44, ⟨f1_75, hq_77, ⟨r_85, hp_88, ⟨r_91, hp_94, ⟨f1_100, hq_103.2.2, ⟨f1_111, su1_112, hq_114, ⟨rfl, rfl⟩⟩⟩⟩⟩⟩⟩)⟩)⟩)⟩)⟩), ⟨hD_118, hR_119, hM_120⟩⟩⟩, by rw [ht]; exact hP, by rw [hAe]; exact hD⟩, hS.F ht⟩) hS.2.2 dX11_ends_113
      · obtain ⟨hP, hD⟩ := ty_ordPD (E2 := [(rf_MO mo mw ma mf m0 m1 mu mv u0 u1 iz th mb mn mpt mbg mwr mwk mlf men), (rf_RW ct 0 mw 958 f), (mu, .inl (ct 1, 42, .inr (.inl su)))]) (n := 3) [1, 2, 0] hP hD rfl rfl (by decide +kernel)
        exact W.vret hx hb hr (fun t ht hW => ⟨⟨(ws_3, f, su), rfl, ⟨hT, ⟨(Or.inl ⟨hc_4, (Or.inl ⟨hc_5, (Or.inr ⟨hc_6, ⟨rfl, rfl⟩⟩)⟩)⟩), ⟨(rf_dr f), hR, (rf_smr f)⟩⟩⟩, by rw [ht]; exact hP, by rw [hAe]; exact hD⟩, hS.F ht⟩) hS.2.2 dX11_ends_43
    · refine lv_aload_n hx hb dX11_ends_25 rfl (lv_at hl 1 rfl) ?_
      refine lv_iload_n hx hb dX11_ends_26 rfl (lv_at hl 2 rfl) ?_
      refine lv_bipush (v := 19) hx hb dX11_ends_27 (by decide) ?_
      refine lv_aload_n hx hb dX11_ends_29 rfl (lv_at hl 1 rfl) ?_
      refine lv_iload_n hx hb dX11_ends_30 rfl (lv_at hl 2 rfl) ?_
      refine lv_iconst (v := 5) hx hb dX11_ends_31 (by decide) ?_
      obtain ⟨hP, hD⟩ := ty_ipPD (E1 := [(mu, .inl (ct 1, 42, .inr (.inl su)))]) (E2 := [(rf_MO mo mw ma mf m0 m1 mu mv u0 u1 iz th mb mn mpt mbg mwr mwk mlf men), (rf_RW ct 0 mw 958 f)]) hP hD rfl ty_mva
      refine ty_Ki hP hD hS hA (va_runV (As := [.int p1, .int 5]) (rest := [.int 19, .int p1, .ref mo]) ⟨hx, hb, hml, hown, hts⟩ (m_of_5 l D ct S ws_3 ph xx mo mw ma mf m0 m1 mu mv u0 u1 iz mb th mn mpt mbg mwr mwk mlf men f G cx p1 _ hT hph hy1 hR hc) (cm_V 2 hts kc_X11_of ki_RX11 kl_RX11_209 kv_X11_of kx_X11_of kd_X11_of ⟨Nat.le_of_ble_eq_true rfl, Nat.le_of_ble_eq_true rfl⟩) (ty_preE (ci := 11) (q0 := 1) hP hK hD hS hA hX rfl rfl) rfl rfl hl.1 rfl (lv_room (Nat.le_of_ble_eq_true rfl)) dX11_ends_32 ⟨Nat.le_of_ble_eq_true rfl, Nat.le_of_ble_eq_true rfl⟩) (fun r_122 u H locs hw_123 hP hD hS => ?_)
      obtain ⟨ws_124, rfl⟩ : ∃ z, z = u := ⟨_, rfl⟩
      obtain ⟨hT, rfl⟩ := hw_123
      obtain ⟨hP, hD⟩ := ty_shPD (w2 := ([(mu, .inl (ct 1, 42, .inr (.inl su))), (rf_MO mo mw ma mf m0 m1 mu mv u0 u1 iz th mb mn mpt mbg mwr mwk mlf men), (rf_RW ct 0 mw 958 f)] ++ ws_124)) hP hD rfl
      obtain ⟨hP, hD⟩ := ty_ipPD (E1 := [(mu, .inl (ct 1, 42, .inr (.inl su)))]) (E2 := [(rf_MO mo mw ma mf m0 m1 mu mv u0 u1 iz th mb mn mpt mbg mwr mwk mlf men), (rf_RW ct 0 mw 958 f)]) hP hD rfl ty_mva
      refine ty_Kv hP hD hS hA (va_runV (As := [.int p1, .int 19, .int (rf_of f p1 5)]) (rest := []) ⟨hx, hb, hml, hown, hts⟩ (m_put_19 l D ct S ws_124 ph xx mo mw ma mf m0 m1 mu mv u0 u1 iz mb th mn mpt mbg mwr mwk mlf men f G cx p1 (rf_of f p1 5) _ hT hph hy1 hR hc) (cm_V 3 hts kc_X11_put ki_RX11 kl_RX11_234 kv_X11_put kx_X11_put kd_X11_put ⟨Nat.le_of_ble_eq_true rfl, Nat.le_of_ble_eq_true rfl⟩) (ty_preE (ci := 11) (q0 := 1) hP hK hD hS hA hX rfl rfl) rfl rfl hl.1 rfl (lv_room (Nat.le_of_ble_eq_true rfl)) dX11_ends_35 ⟨Nat.le_of_ble_eq_true rfl, Nat.le_of_ble_eq_true rfl⟩) (fun u H locs hw_126 hP hD hS => ?_)
      obtain ⟨ws_127, f1_128⟩ := u
      obtain ⟨hT, hp_129⟩ := hw_126
      have hp_129 : rf_d (f 8) f f1_128 ∧ rf_R G cx f1_128 ∧ rf_sm f f1_128 ∧ f1_128 = upd f (244 + 54 * p1.toInt.toNat + 19) (rf_of f p1 5) := hp_129
      obtain ⟨hd_130, hq_131⟩ := hp_129
      have hD_132 := rf_dt (rf_dr f) hd_130
      have hR_133 := hq_131.1
      have hM_134 := rf_smt (rf_smr f) hq_131.2.1
      have ho_135 := rf_ons hR hc hq_131.2.1 ho
      obtain ⟨hP, hD⟩ := ty_shPD (w2 := ([(mu, .inl (ct 1, 42, .inr (.inl su))), (rf_MO mo mw ma mf m0 m1 mu mv u0 u1 iz th mb mn mpt mbg mwr mwk mlf men), (rf_RW ct 0 mw 958 f1_128)] ++ ws_127)) hP hD rfl
      refine lv_iload_n hx hb dX11_ends_38 rfl (lv_at hl 0 rfl) ?_
      refine lv_iconst (v := 2) hx hb dX11_ends_39 (by decide) ?_
      refine lv_icmp_eq (tgt := 44) hx hb dX11_ends_40 (by decide) (fun hc_136 => ?_) (fun hc_136 => ?_)
      · refine lv_aload_n hx hb dX11_ends_44 rfl (lv_at hl 1 rfl) ?_
        refine lv_iload_n hx hb dX11_ends_45 rfl (lv_at hl 2 rfl) ?_
        refine lv_bipush (v := 21) hx hb dX11_ends_46 (by decide) ?_
        obtain ⟨hP, hD⟩ := ty_ipPD (E1 := [(mu, .inl (ct 1, 42, .inr (.inl su)))]) (E2 := [(rf_MO mo mw ma mf m0 m1 mu mv u0 u1 iz th mb mn mpt mbg mwr mwk mlf men), (rf_RW ct 0 mw 958 f1_128)]) hP hD rfl ty_mva
        refine ty_Ki hP hD hS hA (va_runV (As := [.int p1, .int 21]) (rest := []) ⟨hx, hb, hml, hown, hts⟩ (m_of_21 l D ct S ws_127 ph xx mo mw ma mf m0 m1 mu mv u0 u1 iz mb th mn mpt mbg mwr mwk mlf men f1_128 G cx p1 _ hT hph hy1 hR_133 hc) (cm_V 2 hts kc_X11_of ki_RX11 kl_RX11_209 kv_X11_of kx_X11_of kd_X11_of ⟨Nat.le_of_ble_eq_true rfl, Nat.le_of_ble_eq_true rfl⟩) (ty_preE (ci := 11) (q0 := 1) hP hK hD hS hA hX rfl rfl) rfl rfl hl.1 rfl (lv_room (Nat.le_of_ble_eq_true rfl)) dX11_ends_48 ⟨Nat.le_of_ble_eq_true rfl, Nat.le_of_ble_eq_true rfl⟩) (fun r_137 u H locs hw_138 hP hD hS => ?_)
        obtain ⟨ws_139, rfl⟩ : ∃ z, z = u := ⟨_, rfl⟩
        obtain ⟨hT, rfl⟩ := hw_138
        obtain ⟨hP, hD⟩ := ty_shPD (w2 := ([(mu, .inl (ct 1, 42, .inr (.inl su))), (rf_MO mo mw ma mf m0 m1 mu mv u0 u1 iz th mb mn mpt mbg mwr mwk mlf men), (rf_RW ct 0 mw 958 f1_128)] ++ ws_139)) hP hD rfl
        refine lv_iconst (v := 1) hx hb dX11_ends_51 (by decide) ?_
        refine lv_icmp_ne (tgt := 74) hx hb dX11_ends_52 (by decide) (fun hc_140 => ?_) (fun hc_140 => ?_)
        · refine lv_iconst (v := 0) hx hb dX11_ends_74 (by decide) ?_
          refine lv_istore_n (lv' := [(3, .int 0), (2, .int (rf_st3 f p1 0)), (0, .ref mo), (1, .int p1)]) hx hb dX11_ends_75 rfl hl (by decide) rfl (fun ls hl => ?_)
          refine lv_aload_n hx hb dX11_ends_76 rfl (lv_at hl 2 rfl) ?_
          refine lv_iload_n hx hb dX11_ends_77 rfl (lv_at hl 3 rfl) ?_
          refine lv_iload_n hx hb dX11_ends_78 rfl (lv_at hl 0 rfl) ?_
          obtain ⟨hP, hD⟩ := ty_opPD (E1 := []) (E2 := [(rf_MO mo mw ma mf m0 m1 mu mv u0 u1 iz th mb mn mpt mbg mwr mwk mlf men), (rf_RW ct 0 mw 958 f1_128), (mu, .inl (ct 1, 42, .inr (.inl su)))]) (n := 3) [1, 2, 0] hP hD rfl rfl (by decide +kernel) ty_mva
          refine ty_Kv hP hD hS hA (va_runV (As := [.int p1, .int 0]) (rest := []) ⟨hx, hb, hml, hown, hts⟩ (m_X11_records l D ct S ws_139 ph xx mo mw ma mf m0 m1 mu mv u0 u1 iz mb th mn mpt mbg mwr mwk mlf men f1_128 G cx su p1 (0 : Int32) _ hT hph hy1 hR_133 hc) (cm_V 2 hts kc_X11_records ki_RX11 kl_RX11_268 kv_X11_records kx_X11_records kd_X11_records ⟨Nat.le_of_ble_eq_true rfl, Nat.le_of_ble_eq_true rfl⟩) (ty_preE (ci := 11) (q0 := 0) hP hK hD hS hA hX rfl rfl) rfl rfl hl.1 rfl (lv_room (Nat.le_of_ble_eq_true rfl)) dX11_ends_79 ⟨Nat.le_of_ble_eq_true rfl, Nat.le_of_ble_eq_true rfl⟩) (fun u H locs hw_142 hP hD hS => ?_)
          obtain ⟨ws_143, f1_144⟩ := u
          obtain ⟨hT, hp_145⟩ := hw_142
          have hp_145 : (q_X11_records f1_128 su p1 (0 : Int32) f1_144) ∧ rf_d (f1_128 8) f1_128 f1_144 ∧ rf_R G cx f1_144 ∧ rf_sm f1_128 f1_144 := hp_145
          obtain ⟨hq_146, hp_147⟩ := hp_145
          obtain ⟨hd_148, hq_149⟩ := hp_147
          have hD_150 := rf_dt hD_132 hd_148
          have hR_151 := hq_149.1
          have hM_152 := rf_smt hM_134 hq_149.2
          have ho_153 := rf_ons hR_133 hc hq_149.2 ho_135
          obtain ⟨hP, hD⟩ := ty_shPD (w2 := ([(rf_MO mo mw ma mf m0 m1 mu mv u0 u1 iz th mb mn mpt mbg mwr mwk mlf men), (rf_RW ct 0 mw 958 f1_144), (mu, .inl (ct 1, 42, .inr (.inl su)))] ++ ws_143)) hP hD rfl
          refine lv_iload_n hx hb dX11_ends_82 rfl (lv_at hl 0 rfl) ?_
          refine lv_if_eq (tgt := 108) hx hb dX11_ends_83 (by decide) (fun _ => ?_) (fun hc => absurd (by decide) hc)
          refine lv_aload_n hx hb dX11_ends_108 rfl (lv_at hl 2 rfl) ?_
          refine lv_iload_n hx hb dX11_ends_109 rfl (lv_at hl 3 rfl) ?_
          obtain ⟨hP, hD⟩ := ty_ipPD (E1 := []) (E2 := [(rf_MO mo mw ma mf m0 m1 mu mv u0 u1 iz th mb mn mpt mbg mwr mwk mlf men), (rf_RW ct 0 mw 958 f1_144), (mu, .inl (ct 1, 42, .inr (.inl su)))]) hP hD rfl ty_mva
          refine ty_Kv hP hD hS hA (va_runV (As := [.int p1]) (rest := []) ⟨hx, hb, hml, hown, hts⟩ (m_X11_clears l D ct S ws_143 ph xx mo mw ma mf m0 m1 mu mv u0 u1 iz mb th mn mpt mbg mwr mwk mlf men f1_144 G cx su p1 _ hT hph hy1 hy11 hR_151 hc) (cm_V 1 hts kc_X11_clears ki_RX11 kl_RX11_272 kv_X11_clears kx_X11_clears kd_X11_clears ⟨Nat.le_of_ble_eq_true rfl, Nat.le_of_ble_eq_true rfl⟩) (ty_preE (ci := 11) (q0 := 0) hP hK hD hS hA hX rfl rfl) rfl rfl hl.1 rfl (lv_room (Nat.le_of_ble_eq_true rfl)) dX11_ends_110 ⟨Nat.le_of_ble_eq_true rfl, Nat.le_of_ble_eq_true rfl⟩) (fun u H locs hw_155 hP hD hS => ?_)
          obtain ⟨ws_156, f1_157, su1_158⟩ := u
          obtain ⟨hT, hp_159⟩ := hw_155
          have hp_159 : (q_X11_clears f1_144 su p1 f1_157 su1_158) ∧ rf_d (f1_144 8) f1_144 f1_157 ∧ rf_R G cx f1_157 ∧ rf_sm f1_144 f1_157 := hp_159
          obtain ⟨hq_160, hp_161⟩ := hp_159
          obtain ⟨hd_162, hq_163⟩ := hp_161
          have hD_164 := rf_dt hD_150 hd_162
          have hR_165 := hq_163.1
          have hM_166 := rf_smt hM_152 hq_163.2
          have ho_167 := rf_ons hR_151 hc hq_163.2 ho_153
          obtain ⟨hP, hD⟩ := ty_shPD (w2 := ([(rf_MO mo mw ma mf m0 m1 mu mv u0 u1 iz th mb mn mpt mbg mwr mwk mlf men), (rf_RW ct 0 mw 958 f1_157), (mu, .inl (ct 1, 42, .inr (.inl su1_158)))] ++ ws_156)) hP hD rfl
          exact W.vret hx hb hr (fun t ht hW => ⟨⟨(ws_156, f1_157, su1_158), rfl, ⟨hT, ⟨(Or.inl ⟨hc_4, (Or.inr ⟨hc_5, ⟨f1_128, hq_131.2.2, (Or.inl ⟨hc_136, (Or.inl ⟨hc_140, ⟨f1_144, hq_146, ⟨f1_157, su1_158, hq_160, ⟨rfl, rfl⟩⟩⟩⟩)⟩)⟩⟩)⟩), ⟨hD_164, hR_165, hM_166⟩⟩⟩, by rw [ht]; exact hP, by rw [hAe]; exact hD⟩, hS.F ht⟩) hS.2.2 dX11_ends_113
        · refine lv_aload_n hx hb dX11_ends_55 rfl (lv_at hl 1 rfl) ?_
          refine lv_iload_n hx hb dX11_ends_56 rfl (lv_at hl 2 rfl) ?_
          refine lv_iconst (v := 5) hx hb dX11_ends_57 (by decide) ?_
          obtain ⟨hP, hD⟩ := ty_ipPD (E1 := [(mu, .inl (ct 1, 42, .inr (.inl su)))]) (E2 := [(rf_MO mo mw ma mf m0 m1 mu mv u0 u1 iz th mb mn mpt mbg mwr mwk mlf men), (rf_RW ct 0 mw 958 f1_128)]) hP hD rfl ty_mva
          refine ty_Ki hP hD hS hA (va_runV (As := [.int p1, .int 5]) (rest := []) ⟨hx, hb, hml, hown, hts⟩ (m_of_5 l D ct S ws_139 ph xx mo mw ma mf m0 m1 mu mv u0 u1 iz mb th mn mpt mbg mwr mwk mlf men f1_128 G cx p1 _ hT hph hy1 hR_133 hc) (cm_V 2 hts kc_X11_of ki_RX11 kl_RX11_209 kv_X11_of kx_X11_of kd_X11_of ⟨Nat.le_of_ble_eq_true rfl, Nat.le_of_ble_eq_true rfl⟩) (ty_preE (ci := 11) (q0 := 1) hP hK hD hS hA hX rfl rfl) rfl rfl hl.1 rfl (lv_room (Nat.le_of_ble_eq_true rfl)) dX11_ends_58 ⟨Nat.le_of_ble_eq_true rfl, Nat.le_of_ble_eq_true rfl⟩) (fun r_168 u H locs hw_169 hP hD hS => ?_)
          obtain ⟨ws_170, rfl⟩ : ∃ z, z = u := ⟨_, rfl⟩
          obtain ⟨hT, rfl⟩ := hw_169
          obtain ⟨hP, hD⟩ := ty_shPD (w2 := ([(mu, .inl (ct 1, 42, .inr (.inl su))), (rf_MO mo mw ma mf m0 m1 mu mv u0 u1 iz th mb mn mpt mbg mwr mwk mlf men), (rf_RW ct 0 mw 958 f1_128)] ++ ws_170)) hP hD rfl
          refine lv_aload_n hx hb dX11_ends_61 rfl (lv_at hl 1 rfl) ?_
          refine lv_iload_n hx hb dX11_ends_62 rfl (lv_at hl 2 rfl) ?_
          refine lv_iconst (v := 2) hx hb dX11_ends_63 (by decide) ?_
          obtain ⟨hP, hD⟩ := ty_ipPD (E1 := [(mu, .inl (ct 1, 42, .inr (.inl su)))]) (E2 := [(rf_MO mo mw ma mf m0 m1 mu mv u0 u1 iz th mb mn mpt mbg mwr mwk mlf men), (rf_RW ct 0 mw 958 f1_128)]) hP hD rfl ty_mva
          refine ty_Ki hP hD hS hA (va_runV (As := [.int p1, .int 2]) (rest := [.int (rf_of f1_128 p1 5)]) ⟨hx, hb, hml, hown, hts⟩ (m_step_2 l D ct S ws_170 ph xx mo mw ma mf m0 m1 mu mv u0 u1 iz mb th mn mpt mbg mwr mwk mlf men f1_128 G cx p1 _ hT hph hy1 hR_133 hc ho_135) (cm_V 2 hts kc_X11_step ki_RX11 kl_RX11_228 kv_X11_step kx_X11_step kd_X11_step ⟨Nat.le_of_ble_eq_true rfl, Nat.le_of_ble_eq_true rfl⟩) (ty_preE (ci := 11) (q0 := 1) hP hK hD hS hA hX rfl rfl) rfl rfl hl.1 rfl (lv_room (Nat.le_of_ble_eq_true rfl)) dX11_ends_64 ⟨Nat.le_of_ble_eq_true rfl, Nat.le_of_ble_eq_true rfl⟩) (fun r_171 u H locs hw_172 hP hD hS => ?_)
          obtain ⟨ws_173, rfl⟩ : ∃ z, z = u := ⟨_, rfl⟩
          obtain ⟨hT, rfl⟩ := hw_172
          obtain ⟨hP, hD⟩ := ty_shPD (w2 := ([(mu, .inl (ct 1, 42, .inr (.inl su))), (rf_MO mo mw ma mf m0 m1 mu mv u0 u1 iz th mb mn mpt mbg mwr mwk mlf men), (rf_RW ct 0 mw 958 f1_128)] ++ ws_173)) hP hD rfl
          refine lv_icmp_gt (tgt := 74) hx hb dX11_ends_67 (by decide) (fun hc_174 => ?_) (fun hc_174 => ?_)
          · refine lv_iconst (v := 0) hx hb dX11_ends_74 (by decide) ?_
            refine lv_istore_n (lv' := [(3, .int 0), (2, .int (rf_st3 f p1 0)), (0, .ref mo), (1, .int p1)]) hx hb dX11_ends_75 rfl hl (by decide) rfl (fun ls hl => ?_)
            refine lv_aload_n hx hb dX11_ends_76 rfl (lv_at hl 2 rfl) ?_
            refine lv_iload_n hx hb dX11_ends_77 rfl (lv_at hl 3 rfl) ?_
            refine lv_iload_n hx hb dX11_ends_78 rfl (lv_at hl 0 rfl) ?_
            obtain ⟨hP, hD⟩ := ty_opPD (E1 := []) (E2 := [(rf_MO mo mw ma mf m0 m1 mu mv u0 u1 iz th mb mn mpt mbg mwr mwk mlf men), (rf_RW ct 0 mw 958 f1_128), (mu, .inl (ct 1, 42, .inr (.inl su)))]) (n := 3) [1, 2, 0] hP hD rfl rfl (by decide +kernel) ty_mva
            refine ty_Kv hP hD hS hA (va_runV (As := [.int p1, .int 0]) (rest := []) ⟨hx, hb, hml, hown, hts⟩ (m_X11_records l D ct S ws_173 ph xx mo mw ma mf m0 m1 mu mv u0 u1 iz mb th mn mpt mbg mwr mwk mlf men f1_128 G cx su p1 (0 : Int32) _ hT hph hy1 hR_133 hc) (cm_V 2 hts kc_X11_records ki_RX11 kl_RX11_268 kv_X11_records kx_X11_records kd_X11_records ⟨Nat.le_of_ble_eq_true rfl, Nat.le_of_ble_eq_true rfl⟩) (ty_preE (ci := 11) (q0 := 0) hP hK hD hS hA hX rfl rfl) rfl rfl hl.1 rfl (lv_room (Nat.le_of_ble_eq_true rfl)) dX11_ends_79 ⟨Nat.le_of_ble_eq_true rfl, Nat.le_of_ble_eq_true rfl⟩) (fun u H locs hw_176 hP hD hS => ?_)
            obtain ⟨ws_177, f1_178⟩ := u
            obtain ⟨hT, hp_179⟩ := hw_176
            have hp_179 : (q_X11_records f1_128 su p1 (0 : Int32) f1_178) ∧ rf_d (f1_128 8) f1_128 f1_178 ∧ rf_R G cx f1_178 ∧ rf_sm f1_128 f1_178 := hp_179
            obtain ⟨hq_180, hp_181⟩ := hp_179
            obtain ⟨hd_182, hq_183⟩ := hp_181
            have hD_184 := rf_dt hD_132 hd_182
            have hR_185 := hq_183.1
            have hM_186 := rf_smt hM_134 hq_183.2
            have ho_187 := rf_ons hR_133 hc hq_183.2 ho_135
            obtain ⟨hP, hD⟩ := ty_shPD (w2 := ([(rf_MO mo mw ma mf m0 m1 mu mv u0 u1 iz th mb mn mpt mbg mwr mwk mlf men), (rf_RW ct 0 mw 958 f1_178), (mu, .inl (ct 1, 42, .inr (.inl su)))] ++ ws_177)) hP hD rfl
            refine lv_iload_n hx hb dX11_ends_82 rfl (lv_at hl 0 rfl) ?_
            refine lv_if_eq (tgt := 108) hx hb dX11_ends_83 (by decide) (fun _ => ?_) (fun hc => absurd (by decide) hc)
            refine lv_aload_n hx hb dX11_ends_108 rfl (lv_at hl 2 rfl) ?_
            refine lv_iload_n hx hb dX11_ends_109 rfl (lv_at hl 3 rfl) ?_
            obtain ⟨hP, hD⟩ := ty_ipPD (E1 := []) (E2 := [(rf_MO mo mw ma mf m0 m1 mu mv u0 u1 iz th mb mn mpt mbg mwr mwk mlf men), (rf_RW ct 0 mw 958 f1_178), (mu, .inl (ct 1, 42, .inr (.inl su)))]) hP hD rfl ty_mva
            refine ty_Kv hP hD hS hA (va_runV (As := [.int p1]) (rest := []) ⟨hx, hb, hml, hown, hts⟩ (m_X11_clears l D ct S ws_177 ph xx mo mw ma mf m0 m1 mu mv u0 u1 iz mb th mn mpt mbg mwr mwk mlf men f1_178 G cx su p1 _ hT hph hy1 hy11 hR_185 hc) (cm_V 1 hts kc_X11_clears ki_RX11 kl_RX11_272 kv_X11_clears kx_X11_clears kd_X11_clears ⟨Nat.le_of_ble_eq_true rfl, Nat.le_of_ble_eq_true rfl⟩) (ty_preE (ci := 11) (q0 := 0) hP hK hD hS hA hX rfl rfl) rfl rfl hl.1 rfl (lv_room (Nat.le_of_ble_eq_true rfl)) dX11_ends_110 ⟨Nat.le_of_ble_eq_true rfl, Nat.le_of_ble_eq_true rfl⟩) (fun u H locs hw_189 hP hD hS => ?_)
            obtain ⟨ws_190, f1_191, su1_192⟩ := u
            obtain ⟨hT, hp_193⟩ := hw_189
            have hp_193 : (q_X11_clears f1_178 su p1 f1_191 su1_192) ∧ rf_d (f1_178 8) f1_178 f1_191 ∧ rf_R G cx f1_191 ∧ rf_sm f1_178 f1_191 := hp_193
            obtain ⟨hq_194, hp_195⟩ := hp_193
            obtain ⟨hd_196, hq_197⟩ := hp_195
            have hD_198 := rf_dt hD_184 hd_196
            have hR_199 := hq_197.1
            have hM_200 := rf_smt hM_186 hq_197.2
            have ho_201 := rf_ons hR_185 hc hq_197.2 ho_187
            obtain ⟨hP, hD⟩ := ty_shPD (w2 := ([(rf_MO mo mw ma mf m0 m1 mu mv u0 u1 iz th mb mn mpt mbg mwr mwk mlf men), (rf_RW ct 0 mw 958 f1_191), (mu, .inl (ct 1, 42, .inr (.inl su1_192)))] ++ ws_190)) hP hD rfl
            exact W.vret hx hb hr (fun t ht hW => ⟨⟨(ws_190, f1_191, su1_192), rfl, ⟨hT, ⟨(Or.inl ⟨hc_4, (Or.inr ⟨hc_5, ⟨f1_128, hq_131.2.2, (Or.inl ⟨hc_136, (Or.inr ⟨hc_140, (Or.inl ⟨hc_174, ⟨f1_178, hq_180, ⟨f1_191, su1_192, hq_194, ⟨rfl, rfl⟩⟩⟩⟩)⟩)⟩)⟩⟩)⟩), ⟨hD_198, hR_199, hM_200⟩⟩⟩, by rw [ht]; exact hP, by rw [hAe]; exact hD⟩, hS.F ht⟩) hS.2.2 dX11_ends_113
          · refine lv_iconst (v := 1) hx hb dX11_ends_70 (by decide) ?_
            refine lv_goto (tgt := 75) hx hb dX11_ends_71 (by decide) ?_
            refine lv_istore_n (lv' := [(3, .int 1), (2, .int (rf_st3 f p1 0)), (0, .ref mo), (1, .int p1)]) hx hb dX11_ends_75 rfl hl (by decide) rfl (fun ls hl => ?_)
            refine lv_aload_n hx hb dX11_ends_76 rfl (lv_at hl 2 rfl) ?_
            refine lv_iload_n hx hb dX11_ends_77 rfl (lv_at hl 3 rfl) ?_
            refine lv_iload_n hx hb dX11_ends_78 rfl (lv_at hl 0 rfl) ?_
            obtain ⟨hP, hD⟩ := ty_opPD (E1 := []) (E2 := [(rf_MO mo mw ma mf m0 m1 mu mv u0 u1 iz th mb mn mpt mbg mwr mwk mlf men), (rf_RW ct 0 mw 958 f1_128), (mu, .inl (ct 1, 42, .inr (.inl su)))]) (n := 3) [1, 2, 0] hP hD rfl rfl (by decide +kernel) ty_mva
            refine ty_Kv hP hD hS hA (va_runV (As := [.int p1, .int 1]) (rest := []) ⟨hx, hb, hml, hown, hts⟩ (m_X11_records l D ct S ws_173 ph xx mo mw ma mf m0 m1 mu mv u0 u1 iz mb th mn mpt mbg mwr mwk mlf men f1_128 G cx su p1 (1 : Int32) _ hT hph hy1 hR_133 hc) (cm_V 2 hts kc_X11_records ki_RX11 kl_RX11_268 kv_X11_records kx_X11_records kd_X11_records ⟨Nat.le_of_ble_eq_true rfl, Nat.le_of_ble_eq_true rfl⟩) (ty_preE (ci := 11) (q0 := 0) hP hK hD hS hA hX rfl rfl) rfl rfl hl.1 rfl (lv_room (Nat.le_of_ble_eq_true rfl)) dX11_ends_79 ⟨Nat.le_of_ble_eq_true rfl, Nat.le_of_ble_eq_true rfl⟩) (fun u H locs hw_203 hP hD hS => ?_)
            obtain ⟨ws_204, f1_205⟩ := u
            obtain ⟨hT, hp_206⟩ := hw_203
            have hp_206 : (q_X11_records f1_128 su p1 (1 : Int32) f1_205) ∧ rf_d (f1_128 8) f1_128 f1_205 ∧ rf_R G cx f1_205 ∧ rf_sm f1_128 f1_205 := hp_206
            obtain ⟨hq_207, hp_208⟩ := hp_206
            obtain ⟨hd_209, hq_210⟩ := hp_208
            have hD_211 := rf_dt hD_132 hd_209
            have hR_212 := hq_210.1
            have hM_213 := rf_smt hM_134 hq_210.2
            have ho_214 := rf_ons hR_133 hc hq_210.2 ho_135
            obtain ⟨hP, hD⟩ := ty_shPD (w2 := ([(rf_MO mo mw ma mf m0 m1 mu mv u0 u1 iz th mb mn mpt mbg mwr mwk mlf men), (rf_RW ct 0 mw 958 f1_205), (mu, .inl (ct 1, 42, .inr (.inl su)))] ++ ws_204)) hP hD rfl
            refine lv_iload_n hx hb dX11_ends_82 rfl (lv_at hl 0 rfl) ?_
            refine lv_if_eq (tgt := 108) hx hb dX11_ends_83 (by decide) (fun hc => absurd hc (by decide)) (fun _ => ?_)
            refine lv_aload_n hx hb dX11_ends_86 rfl (lv_at hl 2 rfl) ?_
            refine lv_iload_n hx hb dX11_ends_87 rfl (lv_at hl 3 rfl) ?_
            refine lv_bipush (v := 20) hx hb dX11_ends_88 (by decide) ?_
            refine lv_aload_n hx hb dX11_ends_90 rfl (lv_at hl 2 rfl) ?_
            refine lv_iload_n hx hb dX11_ends_91 rfl (lv_at hl 3 rfl) ?_
            refine lv_iconst (v := 1) hx hb dX11_ends_92 (by decide) ?_
            obtain ⟨hP, hD⟩ := ty_opPD (E1 := [(rf_RW ct 0 mw 958 f1_205)]) (E2 := [(rf_MO mo mw ma mf m0 m1 mu mv u0 u1 iz th mb mn mpt mbg mwr mwk mlf men), (mu, .inl (ct 1, 42, .inr (.inl su)))]) (n := 3) [1, 0, 2] hP hD rfl rfl (by decide +kernel) ty_mva
            refine ty_Kl hP hD hS hA (va_runV (As := [.int p1, .int 1]) (rest := [.int 20, .int p1, .ref mo]) ⟨hx, hb, hml, hown, hts⟩ (m_X11_sum l D ct S ws_204 ph xx mo mw ma mf m0 m1 mu mv u0 u1 iz mb th mn mpt mbg mwr mwk mlf men su p1 (1 : Int32) _ hT hph hy1 (rf_c6 hR_212 hc) (by decide)) (cm_V 2 hts kc_X11_sum ki_RX11 kl_RX11_261 kv_X11_sum kx_X11_sum kd_X11_sum ⟨Nat.le_of_ble_eq_true rfl, Nat.le_of_ble_eq_true rfl⟩) (ty_preE (ci := 11) (q0 := 1) hP hK hD hS hA hX rfl rfl) rfl rfl hl.1 rfl (lv_room (Nat.le_of_ble_eq_true rfl)) dX11_ends_93 ⟨Nat.le_of_ble_eq_true rfl, Nat.le_of_ble_eq_true rfl⟩) (fun r_215 u H locs hw_216 hP hD hS => ?_)
            obtain ⟨ws_217, rfl⟩ : ∃ z, z = u := ⟨_, rfl⟩
            obtain ⟨hT, hp_218⟩ := hw_216
            have hp_218 : (q_X11_sum su p1 (1 : Int32) r_215) := hp_218
            obtain ⟨hP, hD⟩ := ty_shPD (w2 := ([(rf_RW ct 0 mw 958 f1_205), (rf_MO mo mw ma mf m0 m1 mu mv u0 u1 iz th mb mn mpt mbg mwr mwk mlf men), (mu, .inl (ct 1, 42, .inr (.inl su)))] ++ ws_217)) hP hD rfl
            refine lv_aload_n hx hb dX11_ends_96 rfl (lv_at hl 2 rfl) ?_
            refine lv_iload_n hx hb dX11_ends_97 rfl (lv_at hl 3 rfl) ?_
            refine lv_bipush (v := 6) hx hb dX11_ends_98 (by decide) ?_
            obtain ⟨hP, hD⟩ := ty_ipPD (E1 := [(rf_RW ct 0 mw 958 f1_205)]) (E2 := [(rf_MO mo mw ma mf m0 m1 mu mv u0 u1 iz th mb mn mpt mbg mwr mwk mlf men), (mu, .inl (ct 1, 42, .inr (.inl su)))]) hP hD rfl ty_mva
            refine ty_Kl hP hD hS hA (va_runV (As := [.int p1, .int 6]) (rest := [.long r_215, .int 20, .int p1, .ref mo]) ⟨hx, hb, hml, hown, hts⟩ (m_X11_sum l D ct S ws_217 ph xx mo mw ma mf m0 m1 mu mv u0 u1 iz mb th mn mpt mbg mwr mwk mlf men su p1 (6 : Int32) _ hT hph hy1 (rf_c6 hR_212 hc) (by decide)) (cm_V 2 hts kc_X11_sum ki_RX11 kl_RX11_261 kv_X11_sum kx_X11_sum kd_X11_sum ⟨Nat.le_of_ble_eq_true rfl, Nat.le_of_ble_eq_true rfl⟩) (ty_preE (ci := 11) (q0 := 1) hP hK hD hS hA hX rfl rfl) rfl rfl hl.1 rfl (lv_room (Nat.le_of_ble_eq_true rfl)) dX11_ends_100 ⟨Nat.le_of_ble_eq_true rfl, Nat.le_of_ble_eq_true rfl⟩) (fun r_221 u H locs hw_222 hP hD hS => ?_)
            obtain ⟨ws_223, rfl⟩ : ∃ z, z = u := ⟨_, rfl⟩
            obtain ⟨hT, hp_224⟩ := hw_222
            have hp_224 : (q_X11_sum su p1 (6 : Int32) r_221) := hp_224
            obtain ⟨hP, hD⟩ := ty_shPD (w2 := ([(rf_RW ct 0 mw 958 f1_205), (rf_MO mo mw ma mf m0 m1 mu mv u0 u1 iz th mb mn mpt mbg mwr mwk mlf men), (mu, .inl (ct 1, 42, .inr (.inl su)))] ++ ws_223)) hP hD rfl
            refine lv_lsub hx hb dX11_ends_103 ?_
            refine lv_l2i hx hb dX11_ends_104 rfl ?_
            obtain ⟨hP, hD⟩ := ty_opPD (E1 := [(mu, .inl (ct 1, 42, .inr (.inl su)))]) (E2 := [(rf_MO mo mw ma mf m0 m1 mu mv u0 u1 iz th mb mn mpt mbg mwr mwk mlf men), (rf_RW ct 0 mw 958 f1_205)]) (n := 3) [2, 1, 0] hP hD rfl rfl (by decide +kernel) ty_mva
            refine ty_Kv hP hD hS hA (va_runV (As := [.int p1, .int 20, .int ((r_215 - r_221).toInt32)]) (rest := []) ⟨hx, hb, hml, hown, hts⟩ (m_put_20 l D ct S ws_223 ph xx mo mw ma mf m0 m1 mu mv u0 u1 iz mb th mn mpt mbg mwr mwk mlf men f1_205 G cx p1 ((r_215 - r_221).toInt32) _ hT hph hy1 hR_212 hc) (cm_V 3 hts kc_X11_put ki_RX11 kl_RX11_234 kv_X11_put kx_X11_put kd_X11_put ⟨Nat.le_of_ble_eq_true rfl, Nat.le_of_ble_eq_true rfl⟩) (ty_preE (ci := 11) (q0 := 1) hP hK hD hS hA hX rfl rfl) rfl rfl hl.1 rfl (lv_room (Nat.le_of_ble_eq_true rfl)) dX11_ends_105 ⟨Nat.le_of_ble_eq_true rfl, Nat.le_of_ble_eq_true rfl⟩) (fun u H locs hw_228 hP hD hS => ?_)
            obtain ⟨ws_229, f1_230⟩ := u
            obtain ⟨hT, hp_231⟩ := hw_228
            have hp_231 : rf_d (f1_205 8) f1_205 f1_230 ∧ rf_R G cx f1_230 ∧ rf_sm f1_205 f1_230 ∧ f1_230 = upd f1_205 (244 + 54 * p1.toInt.toNat + 20) ((r_215 - r_221).toInt32) := hp_231
            obtain ⟨hd_232, hq_233⟩ := hp_231
            have hD_234 := rf_dt hD_211 hd_232
            have hR_235 := hq_233.1
            have hM_236 := rf_smt hM_213 hq_233.2.1
            have ho_237 := rf_ons hR_212 hc hq_233.2.1 ho_214
            obtain ⟨hP, hD⟩ := ty_shPD (w2 := ([(mu, .inl (ct 1, 42, .inr (.inl su))), (rf_MO mo mw ma mf m0 m1 mu mv u0 u1 iz th mb mn mpt mbg mwr mwk mlf men), (rf_RW ct 0 mw 958 f1_230)] ++ ws_229)) hP hD rfl
            refine lv_aload_n hx hb dX11_ends_108 rfl (lv_at hl 2 rfl) ?_
            refine lv_iload_n hx hb dX11_ends_109 rfl (lv_at hl 3 rfl) ?_
            obtain ⟨hP, hD⟩ := ty_opPD (E1 := []) (E2 := [(rf_MO mo mw ma mf m0 m1 mu mv u0 u1 iz th mb mn mpt mbg mwr mwk mlf men), (rf_RW ct 0 mw 958 f1_230), (mu, .inl (ct 1, 42, .inr (.inl su)))]) (n := 3) [1, 2, 0] hP hD rfl rfl (by decide +kernel) ty_mva
            refine ty_Kv hP hD hS hA (va_runV (As := [.int p1]) (rest := []) ⟨hx, hb, hml, hown, hts⟩ (m_X11_clears l D ct S ws_229 ph xx mo mw ma mf m0 m1 mu mv u0 u1 iz mb th mn mpt mbg mwr mwk mlf men f1_230 G cx su p1 _ hT hph hy1 hy11 hR_235 hc) (cm_V 1 hts kc_X11_clears ki_RX11 kl_RX11_272 kv_X11_clears kx_X11_clears kd_X11_clears ⟨Nat.le_of_ble_eq_true rfl, Nat.le_of_ble_eq_true rfl⟩) (ty_preE (ci := 11) (q0 := 0) hP hK hD hS hA hX rfl rfl) rfl rfl hl.1 rfl (lv_room (Nat.le_of_ble_eq_true rfl)) dX11_ends_110 ⟨Nat.le_of_ble_eq_true rfl, Nat.le_of_ble_eq_true rfl⟩) (fun u H locs hw_239 hP hD hS => ?_)
            obtain ⟨ws_240, f1_241, su1_242⟩ := u
            obtain ⟨hT, hp_243⟩ := hw_239
            have hp_243 : (q_X11_clears f1_230 su p1 f1_241 su1_242) ∧ rf_d (f1_230 8) f1_230 f1_241 ∧ rf_R G cx f1_241 ∧ rf_sm f1_230 f1_241 := hp_243
            obtain ⟨hq_244, hp_245⟩ := hp_243
            obtain ⟨hd_246, hq_247⟩ := hp_245
            have hD_248 := rf_dt hD_234 hd_246
            have hR_249 := hq_247.1
            have hM_250 := rf_smt hM_236 hq_247.2
            have ho_251 := rf_ons hR_235 hc hq_247.2 ho_237
            obtain ⟨hP, hD⟩ := ty_shPD (w2 := ([(rf_MO mo mw ma mf m0 m1 mu mv u0 u1 iz th mb mn mpt mbg mwr mwk mlf men), (rf_RW ct 0 mw 958 f1_241), (mu, .inl (ct 1, 42, .inr (.inl su1_242)))] ++ ws_240)) hP hD rfl
            exact W.vret hx hb hr (fun t ht hW => ⟨⟨(ws_240, f1_241, su1_242), rfl, ⟨hT, ⟨(Or.inl ⟨hc_4, (Or.inr ⟨hc_5, ⟨f1_128, hq_131.2.2, (Or.inl ⟨hc_136, (Or.inr ⟨hc_140, (Or.inr ⟨hc_174, ⟨f1_205, hq_207, ⟨r_215, hp_218, ⟨r_221, hp_224, ⟨f1_230, hq_233.2.2, ⟨f1_241, su1_242, hq_244, ⟨rfl, rfl⟩⟩⟩⟩⟩⟩⟩)⟩)⟩)⟩⟩)⟩), ⟨hD_248, hR_249, hM_250⟩⟩⟩, by rw [ht]; exact hP, by rw [hAe]; exact hD⟩, hS.F ht⟩) hS.2.2 dX11_ends_113
      · obtain ⟨hP, hD⟩ := ty_ordPD (E2 := [(rf_MO mo mw ma mf m0 m1 mu mv u0 u1 iz th mb mn mpt mbg mwr mwk mlf men), (rf_RW ct 0 mw 958 f1_128), (mu, .inl (ct 1, 42, .inr (.inl su)))]) (n := 3) [1, 2, 0] hP hD rfl rfl (by decide +kernel)
        exact W.vret hx hb hr (fun t ht hW => ⟨⟨(ws_127, f1_128, su), rfl, ⟨hT, ⟨(Or.inl ⟨hc_4, (Or.inr ⟨hc_5, ⟨f1_128, hq_131.2.2, (Or.inr ⟨hc_136, ⟨rfl, rfl⟩⟩)⟩⟩)⟩), ⟨hD_132, hR_133, hM_134⟩⟩⟩, by rw [ht]; exact hP, by rw [hAe]; exact hD⟩, hS.F ht⟩) hS.2.2 dX11_ends_43
  · refine lv_aload_n hx hb dX11_ends_12 rfl (lv_at hl 1 rfl) ?_
    refine lv_iload_n hx hb dX11_ends_13 rfl (lv_at hl 2 rfl) ?_
    refine lv_bipush (v := 21) hx hb dX11_ends_14 (by decide) ?_
    refine lv_iconst (v := 1) hx hb dX11_ends_16 (by decide) ?_
    obtain ⟨hP, hD⟩ := ty_ipPD (E1 := [(mu, .inl (ct 1, 42, .inr (.inl su)))]) (E2 := [(rf_MO mo mw ma mf m0 m1 mu mv u0 u1 iz th mb mn mpt mbg mwr mwk mlf men), (rf_RW ct 0 mw 958 f)]) hP hD rfl ty_mva
    refine ty_Kv hP hD hS hA (va_runV (As := [.int p1, .int 21, .int 1]) (rest := []) ⟨hx, hb, hml, hown, hts⟩ (m_put_21 l D ct S ws_3 ph xx mo mw ma mf m0 m1 mu mv u0 u1 iz mb th mn mpt mbg mwr mwk mlf men f G cx p1 (1 : Int32) _ hT hph hy1 hR hc) (cm_V 3 hts kc_X11_put ki_RX11 kl_RX11_234 kv_X11_put kx_X11_put kd_X11_put ⟨Nat.le_of_ble_eq_true rfl, Nat.le_of_ble_eq_true rfl⟩) (ty_preE (ci := 11) (q0 := 1) hP hK hD hS hA hX rfl rfl) rfl rfl hl.1 rfl (lv_room (Nat.le_of_ble_eq_true rfl)) dX11_ends_17 ⟨Nat.le_of_ble_eq_true rfl, Nat.le_of_ble_eq_true rfl⟩) (fun u H locs hw_253 hP hD hS => ?_)
    obtain ⟨ws_254, f1_255⟩ := u
    obtain ⟨hT, hp_256⟩ := hw_253
    have hp_256 : rf_d (f 8) f f1_255 ∧ rf_R G cx f1_255 ∧ rf_sm f f1_255 ∧ f1_255 = upd f (244 + 54 * p1.toInt.toNat + 21) (1 : Int32) := hp_256
    obtain ⟨hd_257, hq_258⟩ := hp_256
    have hD_259 := rf_dt (rf_dr f) hd_257
    have hR_260 := hq_258.1
    have hM_261 := rf_smt (rf_smr f) hq_258.2.1
    have ho_262 := rf_ons hR hc hq_258.2.1 ho
    obtain ⟨hP, hD⟩ := ty_shPD (w2 := ([(mu, .inl (ct 1, 42, .inr (.inl su))), (rf_MO mo mw ma mf m0 m1 mu mv u0 u1 iz th mb mn mpt mbg mwr mwk mlf men), (rf_RW ct 0 mw 958 f1_255)] ++ ws_254)) hP hD rfl
    refine lv_iload_n hx hb dX11_ends_20 rfl (lv_at hl 0 rfl) ?_
    refine lv_iconst (v := 3) hx hb dX11_ends_21 (by decide) ?_
    refine lv_icmp_ne (tgt := 38) hx hb dX11_ends_22 (by decide) (fun hc_263 => ?_) (fun hc_263 => ?_)
    · refine lv_iload_n hx hb dX11_ends_38 rfl (lv_at hl 0 rfl) ?_
      refine lv_iconst (v := 2) hx hb dX11_ends_39 (by decide) ?_
      refine lv_icmp_eq (tgt := 44) hx hb dX11_ends_40 (by decide) (fun hc_264 => ?_) (fun hc_264 => ?_)
      · refine lv_aload_n hx hb dX11_ends_44 rfl (lv_at hl 1 rfl) ?_
        refine lv_iload_n hx hb dX11_ends_45 rfl (lv_at hl 2 rfl) ?_
        refine lv_bipush (v := 21) hx hb dX11_ends_46 (by decide) ?_
        obtain ⟨hP, hD⟩ := ty_ipPD (E1 := [(mu, .inl (ct 1, 42, .inr (.inl su)))]) (E2 := [(rf_MO mo mw ma mf m0 m1 mu mv u0 u1 iz th mb mn mpt mbg mwr mwk mlf men), (rf_RW ct 0 mw 958 f1_255)]) hP hD rfl ty_mva
        refine ty_Ki hP hD hS hA (va_runV (As := [.int p1, .int 21]) (rest := []) ⟨hx, hb, hml, hown, hts⟩ (m_of_21 l D ct S ws_254 ph xx mo mw ma mf m0 m1 mu mv u0 u1 iz mb th mn mpt mbg mwr mwk mlf men f1_255 G cx p1 _ hT hph hy1 hR_260 hc) (cm_V 2 hts kc_X11_of ki_RX11 kl_RX11_209 kv_X11_of kx_X11_of kd_X11_of ⟨Nat.le_of_ble_eq_true rfl, Nat.le_of_ble_eq_true rfl⟩) (ty_preE (ci := 11) (q0 := 1) hP hK hD hS hA hX rfl rfl) rfl rfl hl.1 rfl (lv_room (Nat.le_of_ble_eq_true rfl)) dX11_ends_48 ⟨Nat.le_of_ble_eq_true rfl, Nat.le_of_ble_eq_true rfl⟩) (fun r_265 u H locs hw_266 hP hD hS => ?_)
        obtain ⟨ws_267, rfl⟩ : ∃ z, z = u := ⟨_, rfl⟩
        obtain ⟨hT, rfl⟩ := hw_266
        obtain ⟨hP, hD⟩ := ty_shPD (w2 := ([(mu, .inl (ct 1, 42, .inr (.inl su))), (rf_MO mo mw ma mf m0 m1 mu mv u0 u1 iz th mb mn mpt mbg mwr mwk mlf men), (rf_RW ct 0 mw 958 f1_255)] ++ ws_267)) hP hD rfl
        refine lv_iconst (v := 1) hx hb dX11_ends_51 (by decide) ?_
        refine lv_icmp_ne (tgt := 74) hx hb dX11_ends_52 (by decide) (fun hc_268 => ?_) (fun hc_268 => ?_)
        · refine lv_iconst (v := 0) hx hb dX11_ends_74 (by decide) ?_
          refine lv_istore_n (lv' := [(3, .int 0), (2, .int (rf_st3 f p1 0)), (0, .ref mo), (1, .int p1)]) hx hb dX11_ends_75 rfl hl (by decide) rfl (fun ls hl => ?_)
          refine lv_aload_n hx hb dX11_ends_76 rfl (lv_at hl 2 rfl) ?_
          refine lv_iload_n hx hb dX11_ends_77 rfl (lv_at hl 3 rfl) ?_
          refine lv_iload_n hx hb dX11_ends_78 rfl (lv_at hl 0 rfl) ?_
          obtain ⟨hP, hD⟩ := ty_opPD (E1 := []) (E2 := [(rf_MO mo mw ma mf m0 m1 mu mv u0 u1 iz th mb mn mpt mbg mwr mwk mlf men), (rf_RW ct 0 mw 958 f1_255), (mu, .inl (ct 1, 42, .inr (.inl su)))]) (n := 3) [1, 2, 0] hP hD rfl rfl (by decide +kernel) ty_mva
          refine ty_Kv hP hD hS hA (va_runV (As := [.int p1, .int 0]) (rest := []) ⟨hx, hb, hml, hown, hts⟩ (m_X11_records l D ct S ws_267 ph xx mo mw ma mf m0 m1 mu mv u0 u1 iz mb th mn mpt mbg mwr mwk mlf men f1_255 G cx su p1 (0 : Int32) _ hT hph hy1 hR_260 hc) (cm_V 2 hts kc_X11_records ki_RX11 kl_RX11_268 kv_X11_records kx_X11_records kd_X11_records ⟨Nat.le_of_ble_eq_true rfl, Nat.le_of_ble_eq_true rfl⟩) (ty_preE (ci := 11) (q0 := 0) hP hK hD hS hA hX rfl rfl) rfl rfl hl.1 rfl (lv_room (Nat.le_of_ble_eq_true rfl)) dX11_ends_79 ⟨Nat.le_of_ble_eq_true rfl, Nat.le_of_ble_eq_true rfl⟩) (fun u H locs hw_270 hP hD hS => ?_)
          obtain ⟨ws_271, f1_272⟩ := u
          obtain ⟨hT, hp_273⟩ := hw_270
          have hp_273 : (q_X11_records f1_255 su p1 (0 : Int32) f1_272) ∧ rf_d (f1_255 8) f1_255 f1_272 ∧ rf_R G cx f1_272 ∧ rf_sm f1_255 f1_272 := hp_273
          obtain ⟨hq_274, hp_275⟩ := hp_273
          obtain ⟨hd_276, hq_277⟩ := hp_275
          have hD_278 := rf_dt hD_259 hd_276
          have hR_279 := hq_277.1
          have hM_280 := rf_smt hM_261 hq_277.2
          have ho_281 := rf_ons hR_260 hc hq_277.2 ho_262
          obtain ⟨hP, hD⟩ := ty_shPD (w2 := ([(rf_MO mo mw ma mf m0 m1 mu mv u0 u1 iz th mb mn mpt mbg mwr mwk mlf men), (rf_RW ct 0 mw 958 f1_272), (mu, .inl (ct 1, 42, .inr (.inl su)))] ++ ws_271)) hP hD rfl
          refine lv_iload_n hx hb dX11_ends_82 rfl (lv_at hl 0 rfl) ?_
          refine lv_if_eq (tgt := 108) hx hb dX11_ends_83 (by decide) (fun _ => ?_) (fun hc => absurd (by decide) hc)
          refine lv_aload_n hx hb dX11_ends_108 rfl (lv_at hl 2 rfl) ?_
          refine lv_iload_n hx hb dX11_ends_109 rfl (lv_at hl 3 rfl) ?_
          obtain ⟨hP, hD⟩ := ty_ipPD (E1 := []) (E2 := [(rf_MO mo mw ma mf m0 m1 mu mv u0 u1 iz th mb mn mpt mbg mwr mwk mlf men), (rf_RW ct 0 mw 958 f1_272), (mu, .inl (ct 1, 42, .inr (.inl su)))]) hP hD rfl ty_mva
          refine ty_Kv hP hD hS hA (va_runV (As := [.int p1]) (rest := []) ⟨hx, hb, hml, hown, hts⟩ (m_X11_clears l D ct S ws_271 ph xx mo mw ma mf m0 m1 mu mv u0 u1 iz mb th mn mpt mbg mwr mwk mlf men f1_272 G cx su p1 _ hT hph hy1 hy11 hR_279 hc) (cm_V 1 hts kc_X11_clears ki_RX11 kl_RX11_272 kv_X11_clears kx_X11_clears kd_X11_clears ⟨Nat.le_of_ble_eq_true rfl, Nat.le_of_ble_eq_true rfl⟩) (ty_preE (ci := 11) (q0 := 0) hP hK hD hS hA hX rfl rfl) rfl rfl hl.1 rfl (lv_room (Nat.le_of_ble_eq_true rfl)) dX11_ends_110 ⟨Nat.le_of_ble_eq_true rfl, Nat.le_of_ble_eq_true rfl⟩) (fun u H locs hw_283 hP hD hS => ?_)
          obtain ⟨ws_284, f1_285, su1_286⟩ := u
          obtain ⟨hT, hp_287⟩ := hw_283
          have hp_287 : (q_X11_clears f1_272 su p1 f1_285 su1_286) ∧ rf_d (f1_272 8) f1_272 f1_285 ∧ rf_R G cx f1_285 ∧ rf_sm f1_272 f1_285 := hp_287
          obtain ⟨hq_288, hp_289⟩ := hp_287
          obtain ⟨hd_290, hq_291⟩ := hp_289
          have hD_292 := rf_dt hD_278 hd_290
          have hR_293 := hq_291.1
          have hM_294 := rf_smt hM_280 hq_291.2
          have ho_295 := rf_ons hR_279 hc hq_291.2 ho_281
          obtain ⟨hP, hD⟩ := ty_shPD (w2 := ([(rf_MO mo mw ma mf m0 m1 mu mv u0 u1 iz th mb mn mpt mbg mwr mwk mlf men), (rf_RW ct 0 mw 958 f1_285), (mu, .inl (ct 1, 42, .inr (.inl su1_286)))] ++ ws_284)) hP hD rfl
          exact W.vret hx hb hr (fun t ht hW => ⟨⟨(ws_284, f1_285, su1_286), rfl, ⟨hT, ⟨(Or.inr ⟨hc_4, ⟨f1_255, hq_258.2.2, (Or.inl ⟨hc_263, (Or.inl ⟨hc_264, (Or.inl ⟨hc_268, ⟨f1_272, hq_274, ⟨f1_285, su1_286, hq_288, ⟨rfl, rfl⟩⟩⟩⟩)⟩)⟩)⟩⟩), ⟨hD_292, hR_293, hM_294⟩⟩⟩, by rw [ht]; exact hP, by rw [hAe]; exact hD⟩, hS.F ht⟩) hS.2.2 dX11_ends_113
        · refine lv_aload_n hx hb dX11_ends_55 rfl (lv_at hl 1 rfl) ?_
          refine lv_iload_n hx hb dX11_ends_56 rfl (lv_at hl 2 rfl) ?_
          refine lv_iconst (v := 5) hx hb dX11_ends_57 (by decide) ?_
          obtain ⟨hP, hD⟩ := ty_ipPD (E1 := [(mu, .inl (ct 1, 42, .inr (.inl su)))]) (E2 := [(rf_MO mo mw ma mf m0 m1 mu mv u0 u1 iz th mb mn mpt mbg mwr mwk mlf men), (rf_RW ct 0 mw 958 f1_255)]) hP hD rfl ty_mva
          refine ty_Ki hP hD hS hA (va_runV (As := [.int p1, .int 5]) (rest := []) ⟨hx, hb, hml, hown, hts⟩ (m_of_5 l D ct S ws_267 ph xx mo mw ma mf m0 m1 mu mv u0 u1 iz mb th mn mpt mbg mwr mwk mlf men f1_255 G cx p1 _ hT hph hy1 hR_260 hc) (cm_V 2 hts kc_X11_of ki_RX11 kl_RX11_209 kv_X11_of kx_X11_of kd_X11_of ⟨Nat.le_of_ble_eq_true rfl, Nat.le_of_ble_eq_true rfl⟩) (ty_preE (ci := 11) (q0 := 1) hP hK hD hS hA hX rfl rfl) rfl rfl hl.1 rfl (lv_room (Nat.le_of_ble_eq_true rfl)) dX11_ends_58 ⟨Nat.le_of_ble_eq_true rfl, Nat.le_of_ble_eq_true rfl⟩) (fun r_296 u H locs hw_297 hP hD hS => ?_)
          obtain ⟨ws_298, rfl⟩ : ∃ z, z = u := ⟨_, rfl⟩
          obtain ⟨hT, rfl⟩ := hw_297
          obtain ⟨hP, hD⟩ := ty_shPD (w2 := ([(mu, .inl (ct 1, 42, .inr (.inl su))), (rf_MO mo mw ma mf m0 m1 mu mv u0 u1 iz th mb mn mpt mbg mwr mwk mlf men), (rf_RW ct 0 mw 958 f1_255)] ++ ws_298)) hP hD rfl
          refine lv_aload_n hx hb dX11_ends_61 rfl (lv_at hl 1 rfl) ?_
          refine lv_iload_n hx hb dX11_ends_62 rfl (lv_at hl 2 rfl) ?_
          refine lv_iconst (v := 2) hx hb dX11_ends_63 (by decide) ?_
          obtain ⟨hP, hD⟩ := ty_ipPD (E1 := [(mu, .inl (ct 1, 42, .inr (.inl su)))]) (E2 := [(rf_MO mo mw ma mf m0 m1 mu mv u0 u1 iz th mb mn mpt mbg mwr mwk mlf men), (rf_RW ct 0 mw 958 f1_255)]) hP hD rfl ty_mva
          refine ty_Ki hP hD hS hA (va_runV (As := [.int p1, .int 2]) (rest := [.int (rf_of f1_255 p1 5)]) ⟨hx, hb, hml, hown, hts⟩ (m_step_2 l D ct S ws_298 ph xx mo mw ma mf m0 m1 mu mv u0 u1 iz mb th mn mpt mbg mwr mwk mlf men f1_255 G cx p1 _ hT hph hy1 hR_260 hc ho_262) (cm_V 2 hts kc_X11_step ki_RX11 kl_RX11_228 kv_X11_step kx_X11_step kd_X11_step ⟨Nat.le_of_ble_eq_true rfl, Nat.le_of_ble_eq_true rfl⟩) (ty_preE (ci := 11) (q0 := 1) hP hK hD hS hA hX rfl rfl) rfl rfl hl.1 rfl (lv_room (Nat.le_of_ble_eq_true rfl)) dX11_ends_64 ⟨Nat.le_of_ble_eq_true rfl, Nat.le_of_ble_eq_true rfl⟩) (fun r_299 u H locs hw_300 hP hD hS => ?_)
          obtain ⟨ws_301, rfl⟩ : ∃ z, z = u := ⟨_, rfl⟩
          obtain ⟨hT, rfl⟩ := hw_300
          obtain ⟨hP, hD⟩ := ty_shPD (w2 := ([(mu, .inl (ct 1, 42, .inr (.inl su))), (rf_MO mo mw ma mf m0 m1 mu mv u0 u1 iz th mb mn mpt mbg mwr mwk mlf men), (rf_RW ct 0 mw 958 f1_255)] ++ ws_301)) hP hD rfl
          refine lv_icmp_gt (tgt := 74) hx hb dX11_ends_67 (by decide) (fun hc_302 => ?_) (fun hc_302 => ?_)
          · refine lv_iconst (v := 0) hx hb dX11_ends_74 (by decide) ?_
            refine lv_istore_n (lv' := [(3, .int 0), (2, .int (rf_st3 f p1 0)), (0, .ref mo), (1, .int p1)]) hx hb dX11_ends_75 rfl hl (by decide) rfl (fun ls hl => ?_)
            refine lv_aload_n hx hb dX11_ends_76 rfl (lv_at hl 2 rfl) ?_
            refine lv_iload_n hx hb dX11_ends_77 rfl (lv_at hl 3 rfl) ?_
            refine lv_iload_n hx hb dX11_ends_78 rfl (lv_at hl 0 rfl) ?_
            obtain ⟨hP, hD⟩ := ty_opPD (E1 := []) (E2 := [(rf_MO mo mw ma mf m0 m1 mu mv u0 u1 iz th mb mn mpt mbg mwr mwk mlf men), (rf_RW ct 0 mw 958 f1_255), (mu, .inl (ct 1, 42, .inr (.inl su)))]) (n := 3) [1, 2, 0] hP hD rfl rfl (by decide +kernel) ty_mva
            refine ty_Kv hP hD hS hA (va_runV (As := [.int p1, .int 0]) (rest := []) ⟨hx, hb, hml, hown, hts⟩ (m_X11_records l D ct S ws_301 ph xx mo mw ma mf m0 m1 mu mv u0 u1 iz mb th mn mpt mbg mwr mwk mlf men f1_255 G cx su p1 (0 : Int32) _ hT hph hy1 hR_260 hc) (cm_V 2 hts kc_X11_records ki_RX11 kl_RX11_268 kv_X11_records kx_X11_records kd_X11_records ⟨Nat.le_of_ble_eq_true rfl, Nat.le_of_ble_eq_true rfl⟩) (ty_preE (ci := 11) (q0 := 0) hP hK hD hS hA hX rfl rfl) rfl rfl hl.1 rfl (lv_room (Nat.le_of_ble_eq_true rfl)) dX11_ends_79 ⟨Nat.le_of_ble_eq_true rfl, Nat.le_of_ble_eq_true rfl⟩) (fun u H locs hw_304 hP hD hS => ?_)
            obtain ⟨ws_305, f1_306⟩ := u
            obtain ⟨hT, hp_307⟩ := hw_304
            have hp_307 : (q_X11_records f1_255 su p1 (0 : Int32) f1_306) ∧ rf_d (f1_255 8) f1_255 f1_306 ∧ rf_R G cx f1_306 ∧ rf_sm f1_255 f1_306 := hp_307
            obtain ⟨hq_308, hp_309⟩ := hp_307
            obtain ⟨hd_310, hq_311⟩ := hp_309
            have hD_312 := rf_dt hD_259 hd_310
            have hR_313 := hq_311.1
            have hM_314 := rf_smt hM_261 hq_311.2
            have ho_315 := rf_ons hR_260 hc hq_311.2 ho_262
            obtain ⟨hP, hD⟩ := ty_shPD (w2 := ([(rf_MO mo mw ma mf m0 m1 mu mv u0 u1 iz th mb mn mpt mbg mwr mwk mlf men), (rf_RW ct 0 mw 958 f1_306), (mu, .inl (ct 1, 42, .inr (.inl su)))] ++ ws_305)) hP hD rfl
            refine lv_iload_n hx hb dX11_ends_82 rfl (lv_at hl 0 rfl) ?_
            refine lv_if_eq (tgt := 108) hx hb dX11_ends_83 (by decide) (fun _ => ?_) (fun hc => absurd (by decide) hc)
            refine lv_aload_n hx hb dX11_ends_108 rfl (lv_at hl 2 rfl) ?_
            refine lv_iload_n hx hb dX11_ends_109 rfl (lv_at hl 3 rfl) ?_
            obtain ⟨hP, hD⟩ := ty_ipPD (E1 := []) (E2 := [(rf_MO mo mw ma mf m0 m1 mu mv u0 u1 iz th mb mn mpt mbg mwr mwk mlf men), (rf_RW ct 0 mw 958 f1_306), (mu, .inl (ct 1, 42, .inr (.inl su)))]) hP hD rfl ty_mva
            refine ty_Kv hP hD hS hA (va_runV (As := [.int p1]) (rest := []) ⟨hx, hb, hml, hown, hts⟩ (m_X11_clears l D ct S ws_305 ph xx mo mw ma mf m0 m1 mu mv u0 u1 iz mb th mn mpt mbg mwr mwk mlf men f1_306 G cx su p1 _ hT hph hy1 hy11 hR_313 hc) (cm_V 1 hts kc_X11_clears ki_RX11 kl_RX11_272 kv_X11_clears kx_X11_clears kd_X11_clears ⟨Nat.le_of_ble_eq_true rfl, Nat.le_of_ble_eq_true rfl⟩) (ty_preE (ci := 11) (q0 := 0) hP hK hD hS hA hX rfl rfl) rfl rfl hl.1 rfl (lv_room (Nat.le_of_ble_eq_true rfl)) dX11_ends_110 ⟨Nat.le_of_ble_eq_true rfl, Nat.le_of_ble_eq_true rfl⟩) (fun u H locs hw_317 hP hD hS => ?_)
            obtain ⟨ws_318, f1_319, su1_320⟩ := u
            obtain ⟨hT, hp_321⟩ := hw_317
            have hp_321 : (q_X11_clears f1_306 su p1 f1_319 su1_320) ∧ rf_d (f1_306 8) f1_306 f1_319 ∧ rf_R G cx f1_319 ∧ rf_sm f1_306 f1_319 := hp_321
            obtain ⟨hq_322, hp_323⟩ := hp_321
            obtain ⟨hd_324, hq_325⟩ := hp_323
            have hD_326 := rf_dt hD_312 hd_324
            have hR_327 := hq_325.1
            have hM_328 := rf_smt hM_314 hq_325.2
            have ho_329 := rf_ons hR_313 hc hq_325.2 ho_315
            obtain ⟨hP, hD⟩ := ty_shPD (w2 := ([(rf_MO mo mw ma mf m0 m1 mu mv u0 u1 iz th mb mn mpt mbg mwr mwk mlf men), (rf_RW ct 0 mw 958 f1_319), (mu, .inl (ct 1, 42, .inr (.inl su1_320)))] ++ ws_318)) hP hD rfl
            exact W.vret hx hb hr (fun t ht hW => ⟨⟨(ws_318, f1_319, su1_320), rfl, ⟨hT, ⟨(Or.inr ⟨hc_4, ⟨f1_255, hq_258.2.2, (Or.inl ⟨hc_263, (Or.inl ⟨hc_264, (Or.inr ⟨hc_268, (Or.inl ⟨hc_302, ⟨f1_306, hq_308, ⟨f1_319, su1_320, hq_322, ⟨rfl, rfl⟩⟩⟩⟩)⟩)⟩)⟩)⟩⟩), ⟨hD_326, hR_327, hM_328⟩⟩⟩, by rw [ht]; exact hP, by rw [hAe]; exact hD⟩, hS.F ht⟩) hS.2.2 dX11_ends_113
          · refine lv_iconst (v := 1) hx hb dX11_ends_70 (by decide) ?_
            refine lv_goto (tgt := 75) hx hb dX11_ends_71 (by decide) ?_
            refine lv_istore_n (lv' := [(3, .int 1), (2, .int (rf_st3 f p1 0)), (0, .ref mo), (1, .int p1)]) hx hb dX11_ends_75 rfl hl (by decide) rfl (fun ls hl => ?_)
            refine lv_aload_n hx hb dX11_ends_76 rfl (lv_at hl 2 rfl) ?_
            refine lv_iload_n hx hb dX11_ends_77 rfl (lv_at hl 3 rfl) ?_
            refine lv_iload_n hx hb dX11_ends_78 rfl (lv_at hl 0 rfl) ?_
            obtain ⟨hP, hD⟩ := ty_opPD (E1 := []) (E2 := [(rf_MO mo mw ma mf m0 m1 mu mv u0 u1 iz th mb mn mpt mbg mwr mwk mlf men), (rf_RW ct 0 mw 958 f1_255), (mu, .inl (ct 1, 42, .inr (.inl su)))]) (n := 3) [1, 2, 0] hP hD rfl rfl (by decide +kernel) ty_mva
            refine ty_Kv hP hD hS hA (va_runV (As := [.int p1, .int 1]) (rest := []) ⟨hx, hb, hml, hown, hts⟩ (m_X11_records l D ct S ws_301 ph xx mo mw ma mf m0 m1 mu mv u0 u1 iz mb th mn mpt mbg mwr mwk mlf men f1_255 G cx su p1 (1 : Int32) _ hT hph hy1 hR_260 hc) (cm_V 2 hts kc_X11_records ki_RX11 kl_RX11_268 kv_X11_records kx_X11_records kd_X11_records ⟨Nat.le_of_ble_eq_true rfl, Nat.le_of_ble_eq_true rfl⟩) (ty_preE (ci := 11) (q0 := 0) hP hK hD hS hA hX rfl rfl) rfl rfl hl.1 rfl (lv_room (Nat.le_of_ble_eq_true rfl)) dX11_ends_79 ⟨Nat.le_of_ble_eq_true rfl, Nat.le_of_ble_eq_true rfl⟩) (fun u H locs hw_331 hP hD hS => ?_)
            obtain ⟨ws_332, f1_333⟩ := u
            obtain ⟨hT, hp_334⟩ := hw_331
            have hp_334 : (q_X11_records f1_255 su p1 (1 : Int32) f1_333) ∧ rf_d (f1_255 8) f1_255 f1_333 ∧ rf_R G cx f1_333 ∧ rf_sm f1_255 f1_333 := hp_334
            obtain ⟨hq_335, hp_336⟩ := hp_334
            obtain ⟨hd_337, hq_338⟩ := hp_336
            have hD_339 := rf_dt hD_259 hd_337
            have hR_340 := hq_338.1
            have hM_341 := rf_smt hM_261 hq_338.2
            have ho_342 := rf_ons hR_260 hc hq_338.2 ho_262
            obtain ⟨hP, hD⟩ := ty_shPD (w2 := ([(rf_MO mo mw ma mf m0 m1 mu mv u0 u1 iz th mb mn mpt mbg mwr mwk mlf men), (rf_RW ct 0 mw 958 f1_333), (mu, .inl (ct 1, 42, .inr (.inl su)))] ++ ws_332)) hP hD rfl
            refine lv_iload_n hx hb dX11_ends_82 rfl (lv_at hl 0 rfl) ?_
            refine lv_if_eq (tgt := 108) hx hb dX11_ends_83 (by decide) (fun hc => absurd hc (by decide)) (fun _ => ?_)
            refine lv_aload_n hx hb dX11_ends_86 rfl (lv_at hl 2 rfl) ?_
            refine lv_iload_n hx hb dX11_ends_87 rfl (lv_at hl 3 rfl) ?_
            refine lv_bipush (v := 20) hx hb dX11_ends_88 (by decide) ?_
            refine lv_aload_n hx hb dX11_ends_90 rfl (lv_at hl 2 rfl) ?_
            refine lv_iload_n hx hb dX11_ends_91 rfl (lv_at hl 3 rfl) ?_
            refine lv_iconst (v := 1) hx hb dX11_ends_92 (by decide) ?_
            obtain ⟨hP, hD⟩ := ty_opPD (E1 := [(rf_RW ct 0 mw 958 f1_333)]) (E2 := [(rf_MO mo mw ma mf m0 m1 mu mv u0 u1 iz th mb mn mpt mbg mwr mwk mlf men), (mu, .inl (ct 1, 42, .inr (.inl su)))]) (n := 3) [1, 0, 2] hP hD rfl rfl (by decide +kernel) ty_mva
            refine ty_Kl hP hD hS hA (va_runV (As := [.int p1, .int 1]) (rest := [.int 20, .int p1, .ref mo]) ⟨hx, hb, hml, hown, hts⟩ (m_X11_sum l D ct S ws_332 ph xx mo mw ma mf m0 m1 mu mv u0 u1 iz mb th mn mpt mbg mwr mwk mlf men su p1 (1 : Int32) _ hT hph hy1 (rf_c6 hR_340 hc) (by decide)) (cm_V 2 hts kc_X11_sum ki_RX11 kl_RX11_261 kv_X11_sum kx_X11_sum kd_X11_sum ⟨Nat.le_of_ble_eq_true rfl, Nat.le_of_ble_eq_true rfl⟩) (ty_preE (ci := 11) (q0 := 1) hP hK hD hS hA hX rfl rfl) rfl rfl hl.1 rfl (lv_room (Nat.le_of_ble_eq_true rfl)) dX11_ends_93 ⟨Nat.le_of_ble_eq_true rfl, Nat.le_of_ble_eq_true rfl⟩) (fun r_343 u H locs hw_344 hP hD hS => ?_)
            obtain ⟨ws_345, rfl⟩ : ∃ z, z = u := ⟨_, rfl⟩
            obtain ⟨hT, hp_346⟩ := hw_344
            have hp_346 : (q_X11_sum su p1 (1 : Int32) r_343) := hp_346
            obtain ⟨hP, hD⟩ := ty_shPD (w2 := ([(rf_RW ct 0 mw 958 f1_333), (rf_MO mo mw ma mf m0 m1 mu mv u0 u1 iz th mb mn mpt mbg mwr mwk mlf men), (mu, .inl (ct 1, 42, .inr (.inl su)))] ++ ws_345)) hP hD rfl
            refine lv_aload_n hx hb dX11_ends_96 rfl (lv_at hl 2 rfl) ?_
            refine lv_iload_n hx hb dX11_ends_97 rfl (lv_at hl 3 rfl) ?_
            refine lv_bipush (v := 6) hx hb dX11_ends_98 (by decide) ?_
            obtain ⟨hP, hD⟩ := ty_ipPD (E1 := [(rf_RW ct 0 mw 958 f1_333)]) (E2 := [(rf_MO mo mw ma mf m0 m1 mu mv u0 u1 iz th mb mn mpt mbg mwr mwk mlf men), (mu, .inl (ct 1, 42, .inr (.inl su)))]) hP hD rfl ty_mva
            refine ty_Kl hP hD hS hA (va_runV (As := [.int p1, .int 6]) (rest := [.long r_343, .int 20, .int p1, .ref mo]) ⟨hx, hb, hml, hown, hts⟩ (m_X11_sum l D ct S ws_345 ph xx mo mw ma mf m0 m1 mu mv u0 u1 iz mb th mn mpt mbg mwr mwk mlf men su p1 (6 : Int32) _ hT hph hy1 (rf_c6 hR_340 hc) (by decide)) (cm_V 2 hts kc_X11_sum ki_RX11 kl_RX11_261 kv_X11_sum kx_X11_sum kd_X11_sum ⟨Nat.le_of_ble_eq_true rfl, Nat.le_of_ble_eq_true rfl⟩) (ty_preE (ci := 11) (q0 := 1) hP hK hD hS hA hX rfl rfl) rfl rfl hl.1 rfl (lv_room (Nat.le_of_ble_eq_true rfl)) dX11_ends_100 ⟨Nat.le_of_ble_eq_true rfl, Nat.le_of_ble_eq_true rfl⟩) (fun r_349 u H locs hw_350 hP hD hS => ?_)
            obtain ⟨ws_351, rfl⟩ : ∃ z, z = u := ⟨_, rfl⟩
            obtain ⟨hT, hp_352⟩ := hw_350
            have hp_352 : (q_X11_sum su p1 (6 : Int32) r_349) := hp_352
            obtain ⟨hP, hD⟩ := ty_shPD (w2 := ([(rf_RW ct 0 mw 958 f1_333), (rf_MO mo mw ma mf m0 m1 mu mv u0 u1 iz th mb mn mpt mbg mwr mwk mlf men), (mu, .inl (ct 1, 42, .inr (.inl su)))] ++ ws_351)) hP hD rfl
            refine lv_lsub hx hb dX11_ends_103 ?_
            refine lv_l2i hx hb dX11_ends_104 rfl ?_
            obtain ⟨hP, hD⟩ := ty_opPD (E1 := [(mu, .inl (ct 1, 42, .inr (.inl su)))]) (E2 := [(rf_MO mo mw ma mf m0 m1 mu mv u0 u1 iz th mb mn mpt mbg mwr mwk mlf men), (rf_RW ct 0 mw 958 f1_333)]) (n := 3) [2, 1, 0] hP hD rfl rfl (by decide +kernel) ty_mva
            refine ty_Kv hP hD hS hA (va_runV (As := [.int p1, .int 20, .int ((r_343 - r_349).toInt32)]) (rest := []) ⟨hx, hb, hml, hown, hts⟩ (m_put_20 l D ct S ws_351 ph xx mo mw ma mf m0 m1 mu mv u0 u1 iz mb th mn mpt mbg mwr mwk mlf men f1_333 G cx p1 ((r_343 - r_349).toInt32) _ hT hph hy1 hR_340 hc) (cm_V 3 hts kc_X11_put ki_RX11 kl_RX11_234 kv_X11_put kx_X11_put kd_X11_put ⟨Nat.le_of_ble_eq_true rfl, Nat.le_of_ble_eq_true rfl⟩) (ty_preE (ci := 11) (q0 := 1) hP hK hD hS hA hX rfl rfl) rfl rfl hl.1 rfl (lv_room (Nat.le_of_ble_eq_true rfl)) dX11_ends_105 ⟨Nat.le_of_ble_eq_true rfl, Nat.le_of_ble_eq_true rfl⟩) (fun u H locs hw_356 hP hD hS => ?_)
            obtain ⟨ws_357, f1_358⟩ := u
            obtain ⟨hT, hp_359⟩ := hw_356
            have hp_359 : rf_d (f1_333 8) f1_333 f1_358 ∧ rf_R G cx f1_358 ∧ rf_sm f1_333 f1_358 ∧ f1_358 = upd f1_333 (244 + 54 * p1.toInt.toNat + 20) ((r_343 - r_349).toInt32) := hp_359
            obtain ⟨hd_360, hq_361⟩ := hp_359
            have hD_362 := rf_dt hD_339 hd_360
            have hR_363 := hq_361.1
            have hM_364 := rf_smt hM_341 hq_361.2.1
            have ho_365 := rf_ons hR_340 hc hq_361.2.1 ho_342
            obtain ⟨hP, hD⟩ := ty_shPD (w2 := ([(mu, .inl (ct 1, 42, .inr (.inl su))), (rf_MO mo mw ma mf m0 m1 mu mv u0 u1 iz th mb mn mpt mbg mwr mwk mlf men), (rf_RW ct 0 mw 958 f1_358)] ++ ws_357)) hP hD rfl
            refine lv_aload_n hx hb dX11_ends_108 rfl (lv_at hl 2 rfl) ?_
            refine lv_iload_n hx hb dX11_ends_109 rfl (lv_at hl 3 rfl) ?_
            obtain ⟨hP, hD⟩ := ty_opPD (E1 := []) (E2 := [(rf_MO mo mw ma mf m0 m1 mu mv u0 u1 iz th mb mn mpt mbg mwr mwk mlf men), (rf_RW ct 0 mw 958 f1_358), (mu, .inl (ct 1, 42, .inr (.inl su)))]) (n := 3) [1, 2, 0] hP hD rfl rfl (by decide +kernel) ty_mva
            refine ty_Kv hP hD hS hA (va_runV (As := [.int p1]) (rest := []) ⟨hx, hb, hml, hown, hts⟩ (m_X11_clears l D ct S ws_357 ph xx mo mw ma mf m0 m1 mu mv u0 u1 iz mb th mn mpt mbg mwr mwk mlf men f1_358 G cx su p1 _ hT hph hy1 hy11 hR_363 hc) (cm_V 1 hts kc_X11_clears ki_RX11 kl_RX11_272 kv_X11_clears kx_X11_clears kd_X11_clears ⟨Nat.le_of_ble_eq_true rfl, Nat.le_of_ble_eq_true rfl⟩) (ty_preE (ci := 11) (q0 := 0) hP hK hD hS hA hX rfl rfl) rfl rfl hl.1 rfl (lv_room (Nat.le_of_ble_eq_true rfl)) dX11_ends_110 ⟨Nat.le_of_ble_eq_true rfl, Nat.le_of_ble_eq_true rfl⟩) (fun u H locs hw_367 hP hD hS => ?_)
            obtain ⟨ws_368, f1_369, su1_370⟩ := u
            obtain ⟨hT, hp_371⟩ := hw_367
            have hp_371 : (q_X11_clears f1_358 su p1 f1_369 su1_370) ∧ rf_d (f1_358 8) f1_358 f1_369 ∧ rf_R G cx f1_369 ∧ rf_sm f1_358 f1_369 := hp_371
            obtain ⟨hq_372, hp_373⟩ := hp_371
            obtain ⟨hd_374, hq_375⟩ := hp_373
            have hD_376 := rf_dt hD_362 hd_374
            have hR_377 := hq_375.1
            have hM_378 := rf_smt hM_364 hq_375.2
            have ho_379 := rf_ons hR_363 hc hq_375.2 ho_365
            obtain ⟨hP, hD⟩ := ty_shPD (w2 := ([(rf_MO mo mw ma mf m0 m1 mu mv u0 u1 iz th mb mn mpt mbg mwr mwk mlf men), (rf_RW ct 0 mw 958 f1_369), (mu, .inl (ct 1, 42, .inr (.inl su1_370)))] ++ ws_368)) hP hD rfl
            exact W.vret hx hb hr (fun t ht hW => ⟨⟨(ws_368, f1_369, su1_370), rfl, ⟨hT, ⟨(Or.inr ⟨hc_4, ⟨f1_255, hq_258.2.2, (Or.inl ⟨hc_263, (Or.inl ⟨hc_264, (Or.inr ⟨hc_268, (Or.inr ⟨hc_302, ⟨f1_333, hq_335, ⟨r_343, hp_346, ⟨r_349, hp_352, ⟨f1_358, hq_361.2.2, ⟨f1_369, su1_370, hq_372, ⟨rfl, rfl⟩⟩⟩⟩⟩⟩⟩)⟩)⟩)⟩)⟩⟩), ⟨hD_376, hR_377, hM_378⟩⟩⟩, by rw [ht]; exact hP, by rw [hAe]; exact hD⟩, hS.F ht⟩) hS.2.2 dX11_ends_113
      · obtain ⟨hP, hD⟩ := ty_ordPD (E2 := [(rf_MO mo mw ma mf m0 m1 mu mv u0 u1 iz th mb mn mpt mbg mwr mwk mlf men), (rf_RW ct 0 mw 958 f1_255), (mu, .inl (ct 1, 42, .inr (.inl su)))]) (n := 3) [1, 2, 0] hP hD rfl rfl (by decide +kernel)
        exact W.vret hx hb hr (fun t ht hW => ⟨⟨(ws_254, f1_255, su), rfl, ⟨hT, ⟨(Or.inr ⟨hc_4, ⟨f1_255, hq_258.2.2, (Or.inl ⟨hc_263, (Or.inr ⟨hc_264, ⟨rfl, rfl⟩⟩)⟩)⟩⟩), ⟨hD_259, hR_260, hM_261⟩⟩⟩, by rw [ht]; exact hP, by rw [hAe]; exact hD⟩, hS.F ht⟩) hS.2.2 dX11_ends_43
    · refine lv_aload_n hx hb dX11_ends_25 rfl (lv_at hl 1 rfl) ?_
      refine lv_iload_n hx hb dX11_ends_26 rfl (lv_at hl 2 rfl) ?_
      refine lv_bipush (v := 19) hx hb dX11_ends_27 (by decide) ?_
      refine lv_aload_n hx hb dX11_ends_29 rfl (lv_at hl 1 rfl) ?_
      refine lv_iload_n hx hb dX11_ends_30 rfl (lv_at hl 2 rfl) ?_
      refine lv_iconst (v := 5) hx hb dX11_ends_31 (by decide) ?_
      obtain ⟨hP, hD⟩ := ty_ipPD (E1 := [(mu, .inl (ct 1, 42, .inr (.inl su)))]) (E2 := [(rf_MO mo mw ma mf m0 m1 mu mv u0 u1 iz th mb mn mpt mbg mwr mwk mlf men), (rf_RW ct 0 mw 958 f1_255)]) hP hD rfl ty_mva
      refine ty_Ki hP hD hS hA (va_runV (As := [.int p1, .int 5]) (rest := [.int 19, .int p1, .ref mo]) ⟨hx, hb, hml, hown, hts⟩ (m_of_5 l D ct S ws_254 ph xx mo mw ma mf m0 m1 mu mv u0 u1 iz mb th mn mpt mbg mwr mwk mlf men f1_255 G cx p1 _ hT hph hy1 hR_260 hc) (cm_V 2 hts kc_X11_of ki_RX11 kl_RX11_209 kv_X11_of kx_X11_of kd_X11_of ⟨Nat.le_of_ble_eq_true rfl, Nat.le_of_ble_eq_true rfl⟩) (ty_preE (ci := 11) (q0 := 1) hP hK hD hS hA hX rfl rfl) rfl rfl hl.1 rfl (lv_room (Nat.le_of_ble_eq_true rfl)) dX11_ends_32 ⟨Nat.le_of_ble_eq_true rfl, Nat.le_of_ble_eq_true rfl⟩) (fun r_380 u H locs hw_381 hP hD hS => ?_)
      obtain ⟨ws_382, rfl⟩ : ∃ z, z = u := ⟨_, rfl⟩
      obtain ⟨hT, rfl⟩ := hw_381
      obtain ⟨hP, hD⟩ := ty_shPD (w2 := ([(mu, .inl (ct 1, 42, .inr (.inl su))), (rf_MO mo mw ma mf m0 m1 mu mv u0 u1 iz th mb mn mpt mbg mwr mwk mlf men), (rf_RW ct 0 mw 958 f1_255)] ++ ws_382)) hP hD rfl
      obtain ⟨hP, hD⟩ := ty_ipPD (E1 := [(mu, .inl (ct 1, 42, .inr (.inl su)))]) (E2 := [(rf_MO mo mw ma mf m0 m1 mu mv u0 u1 iz th mb mn mpt mbg mwr mwk mlf men), (rf_RW ct 0 mw 958 f1_255)]) hP hD rfl ty_mva
      refine ty_Kv hP hD hS hA (va_runV (As := [.int p1, .int 19, .int (rf_of f1_255 p1 5)]) (rest := []) ⟨hx, hb, hml, hown, hts⟩ (m_put_19 l D ct S ws_382 ph xx mo mw ma mf m0 m1 mu mv u0 u1 iz mb th mn mpt mbg mwr mwk mlf men f1_255 G cx p1 (rf_of f1_255 p1 5) _ hT hph hy1 hR_260 hc) (cm_V 3 hts kc_X11_put ki_RX11 kl_RX11_234 kv_X11_put kx_X11_put kd_X11_put ⟨Nat.le_of_ble_eq_true rfl, Nat.le_of_ble_eq_true rfl⟩) (ty_preE (ci := 11) (q0 := 1) hP hK hD hS hA hX rfl rfl) rfl rfl hl.1 rfl (lv_room (Nat.le_of_ble_eq_true rfl)) dX11_ends_35 ⟨Nat.le_of_ble_eq_true rfl, Nat.le_of_ble_eq_true rfl⟩) (fun u H locs hw_384 hP hD hS => ?_)
      obtain ⟨ws_385, f1_386⟩ := u
      obtain ⟨hT, hp_387⟩ := hw_384
      have hp_387 : rf_d (f1_255 8) f1_255 f1_386 ∧ rf_R G cx f1_386 ∧ rf_sm f1_255 f1_386 ∧ f1_386 = upd f1_255 (244 + 54 * p1.toInt.toNat + 19) (rf_of f1_255 p1 5) := hp_387
      obtain ⟨hd_388, hq_389⟩ := hp_387
      have hD_390 := rf_dt hD_259 hd_388
      have hR_391 := hq_389.1
      have hM_392 := rf_smt hM_261 hq_389.2.1
      have ho_393 := rf_ons hR_260 hc hq_389.2.1 ho_262
      obtain ⟨hP, hD⟩ := ty_shPD (w2 := ([(mu, .inl (ct 1, 42, .inr (.inl su))), (rf_MO mo mw ma mf m0 m1 mu mv u0 u1 iz th mb mn mpt mbg mwr mwk mlf men), (rf_RW ct 0 mw 958 f1_386)] ++ ws_385)) hP hD rfl
      refine lv_iload_n hx hb dX11_ends_38 rfl (lv_at hl 0 rfl) ?_
      refine lv_iconst (v := 2) hx hb dX11_ends_39 (by decide) ?_
      refine lv_icmp_eq (tgt := 44) hx hb dX11_ends_40 (by decide) (fun hc_394 => ?_) (fun hc_394 => ?_)
      · refine lv_aload_n hx hb dX11_ends_44 rfl (lv_at hl 1 rfl) ?_
        refine lv_iload_n hx hb dX11_ends_45 rfl (lv_at hl 2 rfl) ?_
        refine lv_bipush (v := 21) hx hb dX11_ends_46 (by decide) ?_
        obtain ⟨hP, hD⟩ := ty_ipPD (E1 := [(mu, .inl (ct 1, 42, .inr (.inl su)))]) (E2 := [(rf_MO mo mw ma mf m0 m1 mu mv u0 u1 iz th mb mn mpt mbg mwr mwk mlf men), (rf_RW ct 0 mw 958 f1_386)]) hP hD rfl ty_mva
        refine ty_Ki hP hD hS hA (va_runV (As := [.int p1, .int 21]) (rest := []) ⟨hx, hb, hml, hown, hts⟩ (m_of_21 l D ct S ws_385 ph xx mo mw ma mf m0 m1 mu mv u0 u1 iz mb th mn mpt mbg mwr mwk mlf men f1_386 G cx p1 _ hT hph hy1 hR_391 hc) (cm_V 2 hts kc_X11_of ki_RX11 kl_RX11_209 kv_X11_of kx_X11_of kd_X11_of ⟨Nat.le_of_ble_eq_true rfl, Nat.le_of_ble_eq_true rfl⟩) (ty_preE (ci := 11) (q0 := 1) hP hK hD hS hA hX rfl rfl) rfl rfl hl.1 rfl (lv_room (Nat.le_of_ble_eq_true rfl)) dX11_ends_48 ⟨Nat.le_of_ble_eq_true rfl, Nat.le_of_ble_eq_true rfl⟩) (fun r_395 u H locs hw_396 hP hD hS => ?_)
        obtain ⟨ws_397, rfl⟩ : ∃ z, z = u := ⟨_, rfl⟩
        obtain ⟨hT, rfl⟩ := hw_396
        obtain ⟨hP, hD⟩ := ty_shPD (w2 := ([(mu, .inl (ct 1, 42, .inr (.inl su))), (rf_MO mo mw ma mf m0 m1 mu mv u0 u1 iz th mb mn mpt mbg mwr mwk mlf men), (rf_RW ct 0 mw 958 f1_386)] ++ ws_397)) hP hD rfl
        refine lv_iconst (v := 1) hx hb dX11_ends_51 (by decide) ?_
        refine lv_icmp_ne (tgt := 74) hx hb dX11_ends_52 (by decide) (fun hc_398 => ?_) (fun hc_398 => ?_)
        · refine lv_iconst (v := 0) hx hb dX11_ends_74 (by decide) ?_
          refine lv_istore_n (lv' := [(3, .int 0), (2, .int (rf_st3 f p1 0)), (0, .ref mo), (1, .int p1)]) hx hb dX11_ends_75 rfl hl (by decide) rfl (fun ls hl => ?_)
          refine lv_aload_n hx hb dX11_ends_76 rfl (lv_at hl 2 rfl) ?_
          refine lv_iload_n hx hb dX11_ends_77 rfl (lv_at hl 3 rfl) ?_
          refine lv_iload_n hx hb dX11_ends_78 rfl (lv_at hl 0 rfl) ?_
          obtain ⟨hP, hD⟩ := ty_opPD (E1 := []) (E2 := [(rf_MO mo mw ma mf m0 m1 mu mv u0 u1 iz th mb mn mpt mbg mwr mwk mlf men), (rf_RW ct 0 mw 958 f1_386), (mu, .inl (ct 1, 42, .inr (.inl su)))]) (n := 3) [1, 2, 0] hP hD rfl rfl (by decide +kernel) ty_mva
          refine ty_Kv hP hD hS hA (va_runV (As := [.int p1, .int 0]) (rest := []) ⟨hx, hb, hml, hown, hts⟩ (m_X11_records l D ct S ws_397 ph xx mo mw ma mf m0 m1 mu mv u0 u1 iz mb th mn mpt mbg mwr mwk mlf men f1_386 G cx su p1 (0 : Int32) _ hT hph hy1 hR_391 hc) (cm_V 2 hts kc_X11_records ki_RX11 kl_RX11_268 kv_X11_records kx_X11_records kd_X11_records ⟨Nat.le_of_ble_eq_true rfl, Nat.le_of_ble_eq_true rfl⟩) (ty_preE (ci := 11) (q0 := 0) hP hK hD hS hA hX rfl rfl) rfl rfl hl.1 rfl (lv_room (Nat.le_of_ble_eq_true rfl)) dX11_ends_79 ⟨Nat.le_of_ble_eq_true rfl, Nat.le_of_ble_eq_true rfl⟩) (fun u H locs hw_400 hP hD hS => ?_)
          obtain ⟨ws_401, f1_402⟩ := u
          obtain ⟨hT, hp_403⟩ := hw_400
          have hp_403 : (q_X11_records f1_386 su p1 (0 : Int32) f1_402) ∧ rf_d (f1_386 8) f1_386 f1_402 ∧ rf_R G cx f1_402 ∧ rf_sm f1_386 f1_402 := hp_403
          obtain ⟨hq_404, hp_405⟩ := hp_403
          obtain ⟨hd_406, hq_407⟩ := hp_405
          have hD_408 := rf_dt hD_390 hd_406
          have hR_409 := hq_407.1
          have hM_410 := rf_smt hM_392 hq_407.2
          have ho_411 := rf_ons hR_391 hc hq_407.2 ho_393
          obtain ⟨hP, hD⟩ := ty_shPD (w2 := ([(rf_MO mo mw ma mf m0 m1 mu mv u0 u1 iz th mb mn mpt mbg mwr mwk mlf men), (rf_RW ct 0 mw 958 f1_402), (mu, .inl (ct 1, 42, .inr (.inl su)))] ++ ws_401)) hP hD rfl
          refine lv_iload_n hx hb dX11_ends_82 rfl (lv_at hl 0 rfl) ?_
          refine lv_if_eq (tgt := 108) hx hb dX11_ends_83 (by decide) (fun _ => ?_) (fun hc => absurd (by decide) hc)
          refine lv_aload_n hx hb dX11_ends_108 rfl (lv_at hl 2 rfl) ?_
          refine lv_iload_n hx hb dX11_ends_109 rfl (lv_at hl 3 rfl) ?_
          obtain ⟨hP, hD⟩ := ty_ipPD (E1 := []) (E2 := [(rf_MO mo mw ma mf m0 m1 mu mv u0 u1 iz th mb mn mpt mbg mwr mwk mlf men), (rf_RW ct 0 mw 958 f1_402), (mu, .inl (ct 1, 42, .inr (.inl su)))]) hP hD rfl ty_mva
          refine ty_Kv hP hD hS hA (va_runV (As := [.int p1]) (rest := []) ⟨hx, hb, hml, hown, hts⟩ (m_X11_clears l D ct S ws_401 ph xx mo mw ma mf m0 m1 mu mv u0 u1 iz mb th mn mpt mbg mwr mwk mlf men f1_402 G cx su p1 _ hT hph hy1 hy11 hR_409 hc) (cm_V 1 hts kc_X11_clears ki_RX11 kl_RX11_272 kv_X11_clears kx_X11_clears kd_X11_clears ⟨Nat.le_of_ble_eq_true rfl, Nat.le_of_ble_eq_true rfl⟩) (ty_preE (ci := 11) (q0 := 0) hP hK hD hS hA hX rfl rfl) rfl rfl hl.1 rfl (lv_room (Nat.le_of_ble_eq_true rfl)) dX11_ends_110 ⟨Nat.le_of_ble_eq_true rfl, Nat.le_of_ble_eq_true rfl⟩) (fun u H locs hw_413 hP hD hS => ?_)
          obtain ⟨ws_414, f1_415, su1_416⟩ := u
          obtain ⟨hT, hp_417⟩ := hw_413
          have hp_417 : (q_X11_clears f1_402 su p1 f1_415 su1_416) ∧ rf_d (f1_402 8) f1_402 f1_415 ∧ rf_R G cx f1_415 ∧ rf_sm f1_402 f1_415 := hp_417
          obtain ⟨hq_418, hp_419⟩ := hp_417
          obtain ⟨hd_420, hq_421⟩ := hp_419
          have hD_422 := rf_dt hD_408 hd_420
          have hR_423 := hq_421.1
          have hM_424 := rf_smt hM_410 hq_421.2
          have ho_425 := rf_ons hR_409 hc hq_421.2 ho_411
          obtain ⟨hP, hD⟩ := ty_shPD (w2 := ([(rf_MO mo mw ma mf m0 m1 mu mv u0 u1 iz th mb mn mpt mbg mwr mwk mlf men), (rf_RW ct 0 mw 958 f1_415), (mu, .inl (ct 1, 42, .inr (.inl su1_416)))] ++ ws_414)) hP hD rfl
          exact W.vret hx hb hr (fun t ht hW => ⟨⟨(ws_414, f1_415, su1_416), rfl, ⟨hT, ⟨(Or.inr ⟨hc_4, ⟨f1_255, hq_258.2.2, (Or.inr ⟨hc_263, ⟨f1_386, hq_389.2.2, (Or.inl ⟨hc_394, (Or.inl ⟨hc_398, ⟨f1_402, hq_404, ⟨f1_415, su1_416, hq_418, ⟨rfl, rfl⟩⟩⟩⟩)⟩)⟩⟩)⟩⟩), ⟨hD_422, hR_423, hM_424⟩⟩⟩, by rw [ht]; exact hP, by rw [hAe]; exact hD⟩, hS.F ht⟩) hS.2.2 dX11_ends_113
        · refine lv_aload_n hx hb dX11_ends_55 rfl (lv_at hl 1 rfl) ?_
          refine lv_iload_n hx hb dX11_ends_56 rfl (lv_at hl 2 rfl) ?_
          refine lv_iconst (v := 5) hx hb dX11_ends_57 (by decide) ?_
          obtain ⟨hP, hD⟩ := ty_ipPD (E1 := [(mu, .inl (ct 1, 42, .inr (.inl su)))]) (E2 := [(rf_MO mo mw ma mf m0 m1 mu mv u0 u1 iz th mb mn mpt mbg mwr mwk mlf men), (rf_RW ct 0 mw 958 f1_386)]) hP hD rfl ty_mva
          refine ty_Ki hP hD hS hA (va_runV (As := [.int p1, .int 5]) (rest := []) ⟨hx, hb, hml, hown, hts⟩ (m_of_5 l D ct S ws_397 ph xx mo mw ma mf m0 m1 mu mv u0 u1 iz mb th mn mpt mbg mwr mwk mlf men f1_386 G cx p1 _ hT hph hy1 hR_391 hc) (cm_V 2 hts kc_X11_of ki_RX11 kl_RX11_209 kv_X11_of kx_X11_of kd_X11_of ⟨Nat.le_of_ble_eq_true rfl, Nat.le_of_ble_eq_true rfl⟩) (ty_preE (ci := 11) (q0 := 1) hP hK hD hS hA hX rfl rfl) rfl rfl hl.1 rfl (lv_room (Nat.le_of_ble_eq_true rfl)) dX11_ends_58 ⟨Nat.le_of_ble_eq_true rfl, Nat.le_of_ble_eq_true rfl⟩) (fun r_426 u H locs hw_427 hP hD hS => ?_)
          obtain ⟨ws_428, rfl⟩ : ∃ z, z = u := ⟨_, rfl⟩
          obtain ⟨hT, rfl⟩ := hw_427
          obtain ⟨hP, hD⟩ := ty_shPD (w2 := ([(mu, .inl (ct 1, 42, .inr (.inl su))), (rf_MO mo mw ma mf m0 m1 mu mv u0 u1 iz th mb mn mpt mbg mwr mwk mlf men), (rf_RW ct 0 mw 958 f1_386)] ++ ws_428)) hP hD rfl
          refine lv_aload_n hx hb dX11_ends_61 rfl (lv_at hl 1 rfl) ?_
          refine lv_iload_n hx hb dX11_ends_62 rfl (lv_at hl 2 rfl) ?_
          refine lv_iconst (v := 2) hx hb dX11_ends_63 (by decide) ?_
          obtain ⟨hP, hD⟩ := ty_ipPD (E1 := [(mu, .inl (ct 1, 42, .inr (.inl su)))]) (E2 := [(rf_MO mo mw ma mf m0 m1 mu mv u0 u1 iz th mb mn mpt mbg mwr mwk mlf men), (rf_RW ct 0 mw 958 f1_386)]) hP hD rfl ty_mva
          refine ty_Ki hP hD hS hA (va_runV (As := [.int p1, .int 2]) (rest := [.int (rf_of f1_386 p1 5)]) ⟨hx, hb, hml, hown, hts⟩ (m_step_2 l D ct S ws_428 ph xx mo mw ma mf m0 m1 mu mv u0 u1 iz mb th mn mpt mbg mwr mwk mlf men f1_386 G cx p1 _ hT hph hy1 hR_391 hc ho_393) (cm_V 2 hts kc_X11_step ki_RX11 kl_RX11_228 kv_X11_step kx_X11_step kd_X11_step ⟨Nat.le_of_ble_eq_true rfl, Nat.le_of_ble_eq_true rfl⟩) (ty_preE (ci := 11) (q0 := 1) hP hK hD hS hA hX rfl rfl) rfl rfl hl.1 rfl (lv_room (Nat.le_of_ble_eq_true rfl)) dX11_ends_64 ⟨Nat.le_of_ble_eq_true rfl, Nat.le_of_ble_eq_true rfl⟩) (fun r_429 u H locs hw_430 hP hD hS => ?_)
          obtain ⟨ws_431, rfl⟩ : ∃ z, z = u := ⟨_, rfl⟩
          obtain ⟨hT, rfl⟩ := hw_430
          obtain ⟨hP, hD⟩ := ty_shPD (w2 := ([(mu, .inl (ct 1, 42, .inr (.inl su))), (rf_MO mo mw ma mf m0 m1 mu mv u0 u1 iz th mb mn mpt mbg mwr mwk mlf men), (rf_RW ct 0 mw 958 f1_386)] ++ ws_431)) hP hD rfl
          refine lv_icmp_gt (tgt := 74) hx hb dX11_ends_67 (by decide) (fun hc_432 => ?_) (fun hc_432 => ?_)
          · refine lv_iconst (v := 0) hx hb dX11_ends_74 (by decide) ?_
            refine lv_istore_n (lv' := [(3, .int 0), (2, .int (rf_st3 f p1 0)), (0, .ref mo), (1, .int p1)]) hx hb dX11_ends_75 rfl hl (by decide) rfl (fun ls hl => ?_)
            refine lv_aload_n hx hb dX11_ends_76 rfl (lv_at hl 2 rfl) ?_
            refine lv_iload_n hx hb dX11_ends_77 rfl (lv_at hl 3 rfl) ?_
            refine lv_iload_n hx hb dX11_ends_78 rfl (lv_at hl 0 rfl) ?_
            obtain ⟨hP, hD⟩ := ty_opPD (E1 := []) (E2 := [(rf_MO mo mw ma mf m0 m1 mu mv u0 u1 iz th mb mn mpt mbg mwr mwk mlf men), (rf_RW ct 0 mw 958 f1_386), (mu, .inl (ct 1, 42, .inr (.inl su)))]) (n := 3) [1, 2, 0] hP hD rfl rfl (by decide +kernel) ty_mva
            refine ty_Kv hP hD hS hA (va_runV (As := [.int p1, .int 0]) (rest := []) ⟨hx, hb, hml, hown, hts⟩ (m_X11_records l D ct S ws_431 ph xx mo mw ma mf m0 m1 mu mv u0 u1 iz mb th mn mpt mbg mwr mwk mlf men f1_386 G cx su p1 (0 : Int32) _ hT hph hy1 hR_391 hc) (cm_V 2 hts kc_X11_records ki_RX11 kl_RX11_268 kv_X11_records kx_X11_records kd_X11_records ⟨Nat.le_of_ble_eq_true rfl, Nat.le_of_ble_eq_true rfl⟩) (ty_preE (ci := 11) (q0 := 0) hP hK hD hS hA hX rfl rfl) rfl rfl hl.1 rfl (lv_room (Nat.le_of_ble_eq_true rfl)) dX11_ends_79 ⟨Nat.le_of_ble_eq_true rfl, Nat.le_of_ble_eq_true rfl⟩) (fun u H locs hw_434 hP hD hS => ?_)
            obtain ⟨ws_435, f1_436⟩ := u
            obtain ⟨hT, hp_437⟩ := hw_434
            have hp_437 : (q_X11_records f1_386 su p1 (0 : Int32) f1_436) ∧ rf_d (f1_386 8) f1_386 f1_436 ∧ rf_R G cx f1_436 ∧ rf_sm f1_386 f1_436 := hp_437
            obtain ⟨hq_438, hp_439⟩ := hp_437
            obtain ⟨hd_440, hq_441⟩ := hp_439
            have hD_442 := rf_dt hD_390 hd_440
            have hR_443 := hq_441.1
            have hM_444 := rf_smt hM_392 hq_441.2
            have ho_445 := rf_ons hR_391 hc hq_441.2 ho_393
            obtain ⟨hP, hD⟩ := ty_shPD (w2 := ([(rf_MO mo mw ma mf m0 m1 mu mv u0 u1 iz th mb mn mpt mbg mwr mwk mlf men), (rf_RW ct 0 mw 958 f1_436), (mu, .inl (ct 1, 42, .inr (.inl su)))] ++ ws_435)) hP hD rfl
            refine lv_iload_n hx hb dX11_ends_82 rfl (lv_at hl 0 rfl) ?_
            refine lv_if_eq (tgt := 108) hx hb dX11_ends_83 (by decide) (fun _ => ?_) (fun hc => absurd (by decide) hc)
            refine lv_aload_n hx hb dX11_ends_108 rfl (lv_at hl 2 rfl) ?_
            refine lv_iload_n hx hb dX11_ends_109 rfl (lv_at hl 3 rfl) ?_
            obtain ⟨hP, hD⟩ := ty_ipPD (E1 := []) (E2 := [(rf_MO mo mw ma mf m0 m1 mu mv u0 u1 iz th mb mn mpt mbg mwr mwk mlf men), (rf_RW ct 0 mw 958 f1_436), (mu, .inl (ct 1, 42, .inr (.inl su)))]) hP hD rfl ty_mva
            refine ty_Kv hP hD hS hA (va_runV (As := [.int p1]) (rest := []) ⟨hx, hb, hml, hown, hts⟩ (m_X11_clears l D ct S ws_435 ph xx mo mw ma mf m0 m1 mu mv u0 u1 iz mb th mn mpt mbg mwr mwk mlf men f1_436 G cx su p1 _ hT hph hy1 hy11 hR_443 hc) (cm_V 1 hts kc_X11_clears ki_RX11 kl_RX11_272 kv_X11_clears kx_X11_clears kd_X11_clears ⟨Nat.le_of_ble_eq_true rfl, Nat.le_of_ble_eq_true rfl⟩) (ty_preE (ci := 11) (q0 := 0) hP hK hD hS hA hX rfl rfl) rfl rfl hl.1 rfl (lv_room (Nat.le_of_ble_eq_true rfl)) dX11_ends_110 ⟨Nat.le_of_ble_eq_true rfl, Nat.le_of_ble_eq_true rfl⟩) (fun u H locs hw_447 hP hD hS => ?_)
            obtain ⟨ws_448, f1_449, su1_450⟩ := u
            obtain ⟨hT, hp_451⟩ := hw_447
            have hp_451 : (q_X11_clears f1_436 su p1 f1_449 su1_450) ∧ rf_d (f1_436 8) f1_436 f1_449 ∧ rf_R G cx f1_449 ∧ rf_sm f1_436 f1_449 := hp_451
            obtain ⟨hq_452, hp_453⟩ := hp_451
            obtain ⟨hd_454, hq_455⟩ := hp_453
            have hD_456 := rf_dt hD_442 hd_454
            have hR_457 := hq_455.1
            have hM_458 := rf_smt hM_444 hq_455.2
            have ho_459 := rf_ons hR_443 hc hq_455.2 ho_445
            obtain ⟨hP, hD⟩ := ty_shPD (w2 := ([(rf_MO mo mw ma mf m0 m1 mu mv u0 u1 iz th mb mn mpt mbg mwr mwk mlf men), (rf_RW ct 0 mw 958 f1_449), (mu, .inl (ct 1, 42, .inr (.inl su1_450)))] ++ ws_448)) hP hD rfl
            exact W.vret hx hb hr (fun t ht hW => ⟨⟨(ws_448, f1_449, su1_450), rfl, ⟨hT, ⟨(Or.inr ⟨hc_4, ⟨f1_255, hq_258.2.2, (Or.inr ⟨hc_263, ⟨f1_386, hq_389.2.2, (Or.inl ⟨hc_394, (Or.inr ⟨hc_398, (Or.inl ⟨hc_432, ⟨f1_436, hq_438, ⟨f1_449, su1_450, hq_452, ⟨rfl, rfl⟩⟩⟩⟩)⟩)⟩)⟩⟩)⟩⟩), ⟨hD_456, hR_457, hM_458⟩⟩⟩, by rw [ht]; exact hP, by rw [hAe]; exact hD⟩, hS.F ht⟩) hS.2.2 dX11_ends_113
          · refine lv_iconst (v := 1) hx hb dX11_ends_70 (by decide) ?_
            refine lv_goto (tgt := 75) hx hb dX11_ends_71 (by decide) ?_
            refine lv_istore_n (lv' := [(3, .int 1), (2, .int (rf_st3 f p1 0)), (0, .ref mo), (1, .int p1)]) hx hb dX11_ends_75 rfl hl (by decide) rfl (fun ls hl => ?_)
            refine lv_aload_n hx hb dX11_ends_76 rfl (lv_at hl 2 rfl) ?_
            refine lv_iload_n hx hb dX11_ends_77 rfl (lv_at hl 3 rfl) ?_
            refine lv_iload_n hx hb dX11_ends_78 rfl (lv_at hl 0 rfl) ?_
            obtain ⟨hP, hD⟩ := ty_opPD (E1 := []) (E2 := [(rf_MO mo mw ma mf m0 m1 mu mv u0 u1 iz th mb mn mpt mbg mwr mwk mlf men), (rf_RW ct 0 mw 958 f1_386), (mu, .inl (ct 1, 42, .inr (.inl su)))]) (n := 3) [1, 2, 0] hP hD rfl rfl (by decide +kernel) ty_mva
            refine ty_Kv hP hD hS hA (va_runV (As := [.int p1, .int 1]) (rest := []) ⟨hx, hb, hml, hown, hts⟩ (m_X11_records l D ct S ws_431 ph xx mo mw ma mf m0 m1 mu mv u0 u1 iz mb th mn mpt mbg mwr mwk mlf men f1_386 G cx su p1 (1 : Int32) _ hT hph hy1 hR_391 hc) (cm_V 2 hts kc_X11_records ki_RX11 kl_RX11_268 kv_X11_records kx_X11_records kd_X11_records ⟨Nat.le_of_ble_eq_true rfl, Nat.le_of_ble_eq_true rfl⟩) (ty_preE (ci := 11) (q0 := 0) hP hK hD hS hA hX rfl rfl) rfl rfl hl.1 rfl (lv_room (Nat.le_of_ble_eq_true rfl)) dX11_ends_79 ⟨Nat.le_of_ble_eq_true rfl, Nat.le_of_ble_eq_true rfl⟩) (fun u H locs hw_461 hP hD hS => ?_)
            obtain ⟨ws_462, f1_463⟩ := u
            obtain ⟨hT, hp_464⟩ := hw_461
            have hp_464 : (q_X11_records f1_386 su p1 (1 : Int32) f1_463) ∧ rf_d (f1_386 8) f1_386 f1_463 ∧ rf_R G cx f1_463 ∧ rf_sm f1_386 f1_463 := hp_464
            obtain ⟨hq_465, hp_466⟩ := hp_464
            obtain ⟨hd_467, hq_468⟩ := hp_466
            have hD_469 := rf_dt hD_390 hd_467
            have hR_470 := hq_468.1
            have hM_471 := rf_smt hM_392 hq_468.2
            have ho_472 := rf_ons hR_391 hc hq_468.2 ho_393
            obtain ⟨hP, hD⟩ := ty_shPD (w2 := ([(rf_MO mo mw ma mf m0 m1 mu mv u0 u1 iz th mb mn mpt mbg mwr mwk mlf men), (rf_RW ct 0 mw 958 f1_463), (mu, .inl (ct 1, 42, .inr (.inl su)))] ++ ws_462)) hP hD rfl
            refine lv_iload_n hx hb dX11_ends_82 rfl (lv_at hl 0 rfl) ?_
            refine lv_if_eq (tgt := 108) hx hb dX11_ends_83 (by decide) (fun hc => absurd hc (by decide)) (fun _ => ?_)
            refine lv_aload_n hx hb dX11_ends_86 rfl (lv_at hl 2 rfl) ?_
            refine lv_iload_n hx hb dX11_ends_87 rfl (lv_at hl 3 rfl) ?_
            refine lv_bipush (v := 20) hx hb dX11_ends_88 (by decide) ?_
            refine lv_aload_n hx hb dX11_ends_90 rfl (lv_at hl 2 rfl) ?_
            refine lv_iload_n hx hb dX11_ends_91 rfl (lv_at hl 3 rfl) ?_
            refine lv_iconst (v := 1) hx hb dX11_ends_92 (by decide) ?_
            obtain ⟨hP, hD⟩ := ty_opPD (E1 := [(rf_RW ct 0 mw 958 f1_463)]) (E2 := [(rf_MO mo mw ma mf m0 m1 mu mv u0 u1 iz th mb mn mpt mbg mwr mwk mlf men), (mu, .inl (ct 1, 42, .inr (.inl su)))]) (n := 3) [1, 0, 2] hP hD rfl rfl (by decide +kernel) ty_mva
            refine ty_Kl hP hD hS hA (va_runV (As := [.int p1, .int 1]) (rest := [.int 20, .int p1, .ref mo]) ⟨hx, hb, hml, hown, hts⟩ (m_X11_sum l D ct S ws_462 ph xx mo mw ma mf m0 m1 mu mv u0 u1 iz mb th mn mpt mbg mwr mwk mlf men su p1 (1 : Int32) _ hT hph hy1 (rf_c6 hR_470 hc) (by decide)) (cm_V 2 hts kc_X11_sum ki_RX11 kl_RX11_261 kv_X11_sum kx_X11_sum kd_X11_sum ⟨Nat.le_of_ble_eq_true rfl, Nat.le_of_ble_eq_true rfl⟩) (ty_preE (ci := 11) (q0 := 1) hP hK hD hS hA hX rfl rfl) rfl rfl hl.1 rfl (lv_room (Nat.le_of_ble_eq_true rfl)) dX11_ends_93 ⟨Nat.le_of_ble_eq_true rfl, Nat.le_of_ble_eq_true rfl⟩) (fun r_473 u H locs hw_474 hP hD hS => ?_)
            obtain ⟨ws_475, rfl⟩ : ∃ z, z = u := ⟨_, rfl⟩
            obtain ⟨hT, hp_476⟩ := hw_474
            have hp_476 : (q_X11_sum su p1 (1 : Int32) r_473) := hp_476
            obtain ⟨hP, hD⟩ := ty_shPD (w2 := ([(rf_RW ct 0 mw 958 f1_463), (rf_MO mo mw ma mf m0 m1 mu mv u0 u1 iz th mb mn mpt mbg mwr mwk mlf men), (mu, .inl (ct 1, 42, .inr (.inl su)))] ++ ws_475)) hP hD rfl
            refine lv_aload_n hx hb dX11_ends_96 rfl (lv_at hl 2 rfl) ?_
            refine lv_iload_n hx hb dX11_ends_97 rfl (lv_at hl 3 rfl) ?_
            refine lv_bipush (v := 6) hx hb dX11_ends_98 (by decide) ?_
            obtain ⟨hP, hD⟩ := ty_ipPD (E1 := [(rf_RW ct 0 mw 958 f1_463)]) (E2 := [(rf_MO mo mw ma mf m0 m1 mu mv u0 u1 iz th mb mn mpt mbg mwr mwk mlf men), (mu, .inl (ct 1, 42, .inr (.inl su)))]) hP hD rfl ty_mva
            refine ty_Kl hP hD hS hA (va_runV (As := [.int p1, .int 6]) (rest := [.long r_473, .int 20, .int p1, .ref mo]) ⟨hx, hb, hml, hown, hts⟩ (m_X11_sum l D ct S ws_475 ph xx mo mw ma mf m0 m1 mu mv u0 u1 iz mb th mn mpt mbg mwr mwk mlf men su p1 (6 : Int32) _ hT hph hy1 (rf_c6 hR_470 hc) (by decide)) (cm_V 2 hts kc_X11_sum ki_RX11 kl_RX11_261 kv_X11_sum kx_X11_sum kd_X11_sum ⟨Nat.le_of_ble_eq_true rfl, Nat.le_of_ble_eq_true rfl⟩) (ty_preE (ci := 11) (q0 := 1) hP hK hD hS hA hX rfl rfl) rfl rfl hl.1 rfl (lv_room (Nat.le_of_ble_eq_true rfl)) dX11_ends_100 ⟨Nat.le_of_ble_eq_true rfl, Nat.le_of_ble_eq_true rfl⟩) (fun r_479 u H locs hw_480 hP hD hS => ?_)
            obtain ⟨ws_481, rfl⟩ : ∃ z, z = u := ⟨_, rfl⟩
            obtain ⟨hT, hp_482⟩ := hw_480
            have hp_482 : (q_X11_sum su p1 (6 : Int32) r_479) := hp_482
            obtain ⟨hP, hD⟩ := ty_shPD (w2 := ([(rf_RW ct 0 mw 958 f1_463), (rf_MO mo mw ma mf m0 m1 mu mv u0 u1 iz th mb mn mpt mbg mwr mwk mlf men), (mu, .inl (ct 1, 42, .inr (.inl su)))] ++ ws_481)) hP hD rfl
            refine lv_lsub hx hb dX11_ends_103 ?_
            refine lv_l2i hx hb dX11_ends_104 rfl ?_
            obtain ⟨hP, hD⟩ := ty_opPD (E1 := [(mu, .inl (ct 1, 42, .inr (.inl su)))]) (E2 := [(rf_MO mo mw ma mf m0 m1 mu mv u0 u1 iz th mb mn mpt mbg mwr mwk mlf men), (rf_RW ct 0 mw 958 f1_463)]) (n := 3) [2, 1, 0] hP hD rfl rfl (by decide +kernel) ty_mva
            refine ty_Kv hP hD hS hA (va_runV (As := [.int p1, .int 20, .int ((r_473 - r_479).toInt32)]) (rest := []) ⟨hx, hb, hml, hown, hts⟩ (m_put_20 l D ct S ws_481 ph xx mo mw ma mf m0 m1 mu mv u0 u1 iz mb th mn mpt mbg mwr mwk mlf men f1_463 G cx p1 ((r_473 - r_479).toInt32) _ hT hph hy1 hR_470 hc) (cm_V 3 hts kc_X11_put ki_RX11 kl_RX11_234 kv_X11_put kx_X11_put kd_X11_put ⟨Nat.le_of_ble_eq_true rfl, Nat.le_of_ble_eq_true rfl⟩) (ty_preE (ci := 11) (q0 := 1) hP hK hD hS hA hX rfl rfl) rfl rfl hl.1 rfl (lv_room (Nat.le_of_ble_eq_true rfl)) dX11_ends_105 ⟨Nat.le_of_ble_eq_true rfl, Nat.le_of_ble_eq_true rfl⟩) (fun u H locs hw_486 hP hD hS => ?_)
            obtain ⟨ws_487, f1_488⟩ := u
            obtain ⟨hT, hp_489⟩ := hw_486
            have hp_489 : rf_d (f1_463 8) f1_463 f1_488 ∧ rf_R G cx f1_488 ∧ rf_sm f1_463 f1_488 ∧ f1_488 = upd f1_463 (244 + 54 * p1.toInt.toNat + 20) ((r_473 - r_479).toInt32) := hp_489
            obtain ⟨hd_490, hq_491⟩ := hp_489
            have hD_492 := rf_dt hD_469 hd_490
            have hR_493 := hq_491.1
            have hM_494 := rf_smt hM_471 hq_491.2.1
            have ho_495 := rf_ons hR_470 hc hq_491.2.1 ho_472
            obtain ⟨hP, hD⟩ := ty_shPD (w2 := ([(mu, .inl (ct 1, 42, .inr (.inl su))), (rf_MO mo mw ma mf m0 m1 mu mv u0 u1 iz th mb mn mpt mbg mwr mwk mlf men), (rf_RW ct 0 mw 958 f1_488)] ++ ws_487)) hP hD rfl
            refine lv_aload_n hx hb dX11_ends_108 rfl (lv_at hl 2 rfl) ?_
            refine lv_iload_n hx hb dX11_ends_109 rfl (lv_at hl 3 rfl) ?_
            obtain ⟨hP, hD⟩ := ty_opPD (E1 := []) (E2 := [(rf_MO mo mw ma mf m0 m1 mu mv u0 u1 iz th mb mn mpt mbg mwr mwk mlf men), (rf_RW ct 0 mw 958 f1_488), (mu, .inl (ct 1, 42, .inr (.inl su)))]) (n := 3) [1, 2, 0] hP hD rfl rfl (by decide +kernel) ty_mva
            refine ty_Kv hP hD hS hA (va_runV (As := [.int p1]) (rest := []) ⟨hx, hb, hml, hown, hts⟩ (m_X11_clears l D ct S ws_487 ph xx mo mw ma mf m0 m1 mu mv u0 u1 iz mb th mn mpt mbg mwr mwk mlf men f1_488 G cx su p1 _ hT hph hy1 hy11 hR_493 hc) (cm_V 1 hts kc_X11_clears ki_RX11 kl_RX11_272 kv_X11_clears kx_X11_clears kd_X11_clears ⟨Nat.le_of_ble_eq_true rfl, Nat.le_of_ble_eq_true rfl⟩) (ty_preE (ci := 11) (q0 := 0) hP hK hD hS hA hX rfl rfl) rfl rfl hl.1 rfl (lv_room (Nat.le_of_ble_eq_true rfl)) dX11_ends_110 ⟨Nat.le_of_ble_eq_true rfl, Nat.le_of_ble_eq_true rfl⟩) (fun u H locs hw_497 hP hD hS => ?_)
            obtain ⟨ws_498, f1_499, su1_500⟩ := u
            obtain ⟨hT, hp_501⟩ := hw_497
            have hp_501 : (q_X11_clears f1_488 su p1 f1_499 su1_500) ∧ rf_d (f1_488 8) f1_488 f1_499 ∧ rf_R G cx f1_499 ∧ rf_sm f1_488 f1_499 := hp_501
            obtain ⟨hq_502, hp_503⟩ := hp_501
            obtain ⟨hd_504, hq_505⟩ := hp_503
            have hD_506 := rf_dt hD_492 hd_504
            have hR_507 := hq_505.1
            have hM_508 := rf_smt hM_494 hq_505.2
            have ho_509 := rf_ons hR_493 hc hq_505.2 ho_495
            obtain ⟨hP, hD⟩ := ty_shPD (w2 := ([(rf_MO mo mw ma mf m0 m1 mu mv u0 u1 iz th mb mn mpt mbg mwr mwk mlf men), (rf_RW ct 0 mw 958 f1_499), (mu, .inl (ct 1, 42, .inr (.inl su1_500)))] ++ ws_498)) hP hD rfl
            exact W.vret hx hb hr (fun t ht hW => ⟨⟨(ws_498, f1_499, su1_500), rfl, ⟨hT, ⟨(Or.inr ⟨hc_4, ⟨f1_255, hq_258.2.2, (Or.inr ⟨hc_263, ⟨f1_386, hq_389.2.2, (Or.inl ⟨hc_394, (Or.inr ⟨hc_398, (Or.inr ⟨hc_432, ⟨f1_463, hq_465, ⟨r_473, hp_476, ⟨r_479, hp_482, ⟨f1_488, hq_491.2.2, ⟨f1_499, su1_500, hq_502, ⟨rfl, rfl⟩⟩⟩⟩⟩⟩⟩)⟩)⟩)⟩⟩)⟩⟩), ⟨hD_506, hR_507, hM_508⟩⟩⟩, by rw [ht]; exact hP, by rw [hAe]; exact hD⟩, hS.F ht⟩) hS.2.2 dX11_ends_113
      · obtain ⟨hP, hD⟩ := ty_ordPD (E2 := [(rf_MO mo mw ma mf m0 m1 mu mv u0 u1 iz th mb mn mpt mbg mwr mwk mlf men), (rf_RW ct 0 mw 958 f1_386), (mu, .inl (ct 1, 42, .inr (.inl su)))]) (n := 3) [1, 2, 0] hP hD rfl rfl (by decide +kernel)
        exact W.vret hx hb hr (fun t ht hW => ⟨⟨(ws_385, f1_386, su), rfl, ⟨hT, ⟨(Or.inr ⟨hc_4, ⟨f1_255, hq_258.2.2, (Or.inr ⟨hc_263, ⟨f1_386, hq_389.2.2, (Or.inr ⟨hc_394, ⟨rfl, rfl⟩⟩)⟩⟩)⟩⟩), ⟨hD_390, hR_391, hM_392⟩⟩⟩, by rw [ht]; exact hP, by rw [hAe]; exact hD⟩, hS.F ht⟩) hS.2.2 dX11_ends_43
