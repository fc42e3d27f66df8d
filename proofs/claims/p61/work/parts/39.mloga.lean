theorem dX11_notes_0 : decode cX11_notes 0 = .ok (.aload_n 0, 1) := by decide +kernel
theorem dX11_notes_1 : decode cX11_notes 1 = .ok (.getfield 9, 3) := by decide +kernel
theorem dX11_notes_4 : decode cX11_notes 4 = .ok (.bipush 17, 2) := by decide +kernel
theorem dX11_notes_6 : decode cX11_notes 6 = .ok (.iaload, 1) := by decide +kernel
theorem dX11_notes_7 : decode cX11_notes 7 = .ok (.bipush 60, 2) := by decide +kernel
theorem dX11_notes_9 : decode cX11_notes 9 = .ok (.if_icmp .ne 49, 3) := by decide +kernel
theorem dX11_notes_12 : decode cX11_notes 12 = .ok (.sipush 718, 3) := by decide +kernel
theorem dX11_notes_15 : decode cX11_notes 15 = .ok (.istore 4, 2) := by decide +kernel
theorem dX11_notes_17 : decode cX11_notes 17 = .ok (.iload 4, 2) := by decide +kernel
theorem dX11_notes_19 : decode cX11_notes 19 = .ok (.sipush 954, 3) := by decide +kernel
theorem dX11_notes_22 : decode cX11_notes 22 = .ok (.if_icmp .ge 25, 3) := by decide +kernel
theorem dX11_notes_25 : decode cX11_notes 25 = .ok (.aload_n 0, 1) := by decide +kernel
theorem dX11_notes_26 : decode cX11_notes 26 = .ok (.getfield 9, 3) := by decide +kernel
theorem dX11_notes_29 : decode cX11_notes 29 = .ok (.iload 4, 2) := by decide +kernel
theorem dX11_notes_31 : decode cX11_notes 31 = .ok (.aload_n 0, 1) := by decide +kernel
theorem dX11_notes_32 : decode cX11_notes 32 = .ok (.getfield 9, 3) := by decide +kernel
theorem dX11_notes_35 : decode cX11_notes 35 = .ok (.iload 4, 2) := by decide +kernel
theorem dX11_notes_37 : decode cX11_notes 37 = .ok (.iconst 4, 1) := by decide +kernel
theorem dX11_notes_38 : decode cX11_notes 38 = .ok (.iadd, 1) := by decide +kernel
theorem dX11_notes_39 : decode cX11_notes 39 = .ok (.iaload, 1) := by decide +kernel
theorem dX11_notes_40 : decode cX11_notes 40 = .ok (.iastore, 1) := by decide +kernel
theorem dX11_notes_41 : decode cX11_notes 41 = .ok (.iinc 4 1, 3) := by decide +kernel
theorem dX11_notes_44 : decode cX11_notes 44 = .ok (.goto (-27), 3) := by decide +kernel
theorem dX11_notes_47 : decode cX11_notes 47 = .ok (.aload_n 0, 1) := by decide +kernel
theorem dX11_notes_48 : decode cX11_notes 48 = .ok (.getfield 9, 3) := by decide +kernel
theorem dX11_notes_51 : decode cX11_notes 51 = .ok (.bipush 17, 2) := by decide +kernel
theorem dX11_notes_53 : decode cX11_notes 53 = .ok (.dup2, 1) := by decide +kernel
theorem dX11_notes_54 : decode cX11_notes 54 = .ok (.iaload, 1) := by decide +kernel
theorem dX11_notes_55 : decode cX11_notes 55 = .ok (.iconst 1, 1) := by decide +kernel
theorem dX11_notes_56 : decode cX11_notes 56 = .ok (.isub, 1) := by decide +kernel
theorem dX11_notes_57 : decode cX11_notes 57 = .ok (.iastore, 1) := by decide +kernel
theorem dX11_notes_58 : decode cX11_notes 58 = .ok (.sipush 718, 3) := by decide +kernel
theorem dX11_notes_61 : decode cX11_notes 61 = .ok (.iconst 4, 1) := by decide +kernel
theorem dX11_notes_62 : decode cX11_notes 62 = .ok (.aload_n 0, 1) := by decide +kernel
theorem dX11_notes_63 : decode cX11_notes 63 = .ok (.getfield 9, 3) := by decide +kernel
theorem dX11_notes_66 : decode cX11_notes 66 = .ok (.bipush 17, 2) := by decide +kernel
theorem dX11_notes_68 : decode cX11_notes 68 = .ok (.iaload, 1) := by decide +kernel
theorem dX11_notes_69 : decode cX11_notes 69 = .ok (.imul, 1) := by decide +kernel
theorem dX11_notes_70 : decode cX11_notes 70 = .ok (.iadd, 1) := by decide +kernel
theorem dX11_notes_71 : decode cX11_notes 71 = .ok (.istore 4, 2) := by decide +kernel
theorem dX11_notes_73 : decode cX11_notes 73 = .ok (.aload_n 0, 1) := by decide +kernel
theorem dX11_notes_74 : decode cX11_notes 74 = .ok (.getfield 9, 3) := by decide +kernel
theorem dX11_notes_77 : decode cX11_notes 77 = .ok (.iload 4, 2) := by decide +kernel
theorem dX11_notes_79 : decode cX11_notes 79 = .ok (.aload_n 0, 1) := by decide +kernel
theorem dX11_notes_80 : decode cX11_notes 80 = .ok (.getfield 9, 3) := by decide +kernel
theorem dX11_notes_83 : decode cX11_notes 83 = .ok (.bipush 8, 2) := by decide +kernel
theorem dX11_notes_85 : decode cX11_notes 85 = .ok (.iaload, 1) := by decide +kernel
theorem dX11_notes_86 : decode cX11_notes 86 = .ok (.iastore, 1) := by decide +kernel
theorem dX11_notes_87 : decode cX11_notes 87 = .ok (.aload_n 0, 1) := by decide +kernel
theorem dX11_notes_88 : decode cX11_notes 88 = .ok (.getfield 9, 3) := by decide +kernel
theorem dX11_notes_91 : decode cX11_notes 91 = .ok (.iload 4, 2) := by decide +kernel
theorem dX11_notes_93 : decode cX11_notes 93 = .ok (.iconst 1, 1) := by decide +kernel
theorem dX11_notes_94 : decode cX11_notes 94 = .ok (.iadd, 1) := by decide +kernel
theorem dX11_notes_95 : decode cX11_notes 95 = .ok (.iload_n 1, 1) := by decide +kernel
theorem dX11_notes_96 : decode cX11_notes 96 = .ok (.iastore, 1) := by decide +kernel
theorem dX11_notes_97 : decode cX11_notes 97 = .ok (.aload_n 0, 1) := by decide +kernel
theorem dX11_notes_98 : decode cX11_notes 98 = .ok (.getfield 9, 3) := by decide +kernel
theorem dX11_notes_101 : decode cX11_notes 101 = .ok (.iload 4, 2) := by decide +kernel
theorem dX11_notes_103 : decode cX11_notes 103 = .ok (.iconst 2, 1) := by decide +kernel
theorem dX11_notes_104 : decode cX11_notes 104 = .ok (.iadd, 1) := by decide +kernel
theorem dX11_notes_105 : decode cX11_notes 105 = .ok (.iload_n 2, 1) := by decide +kernel
theorem dX11_notes_106 : decode cX11_notes 106 = .ok (.iastore, 1) := by decide +kernel
theorem dX11_notes_107 : decode cX11_notes 107 = .ok (.aload_n 0, 1) := by decide +kernel
theorem dX11_notes_108 : decode cX11_notes 108 = .ok (.getfield 9, 3) := by decide +kernel
theorem dX11_notes_111 : decode cX11_notes 111 = .ok (.iload 4, 2) := by decide +kernel
theorem dX11_notes_113 : decode cX11_notes 113 = .ok (.iconst 3, 1) := by decide +kernel
theorem dX11_notes_114 : decode cX11_notes 114 = .ok (.iadd, 1) := by decide +kernel
theorem dX11_notes_115 : decode cX11_notes 115 = .ok (.iload_n 3, 1) := by decide +kernel
theorem dX11_notes_116 : decode cX11_notes 116 = .ok (.iastore, 1) := by decide +kernel
theorem dX11_notes_117 : decode cX11_notes 117 = .ok (.aload_n 0, 1) := by decide +kernel
theorem dX11_notes_118 : decode cX11_notes 118 = .ok (.getfield 9, 3) := by decide +kernel
theorem dX11_notes_121 : decode cX11_notes 121 = .ok (.bipush 17, 2) := by decide +kernel
theorem dX11_notes_123 : decode cX11_notes 123 = .ok (.dup2, 1) := by decide +kernel
theorem dX11_notes_124 : decode cX11_notes 124 = .ok (.iaload, 1) := by decide +kernel
theorem dX11_notes_125 : decode cX11_notes 125 = .ok (.iconst 1, 1) := by decide +kernel
theorem dX11_notes_126 : decode cX11_notes 126 = .ok (.iadd, 1) := by decide +kernel
theorem dX11_notes_127 : decode cX11_notes 127 = .ok (.iastore, 1) := by decide +kernel
theorem dX11_notes_128 : decode cX11_notes 128 = .ok (.return_, 1) := by decide +kernel
set_option maxRecDepth 100000 in
set_option maxHeartbeats 4000000 in
theorem m_X11_notes (l : Launch) (D : va_G) (ct : Nat → ClassId) (S : ty_S) (ws : va_W) (ph : va_W → Prop) (xx : Nat → Nat → Nat → Prop) (mo : Nat) (mw : Nat) (ma : Nat) (mf : Nat) (m0 : Nat) (m1 : Nat) (mu : Nat) (mv : Nat) (u0 : Nat) (u1 : Nat) (iz : Nat) (mb : Nat) (th : Int32) (mn : Int32) (mpt : Int32) (mbg : Int32) (mwr : Int32) (mwk : Int32) (mlf : Int32) (men : Int32) (f : Nat → Int32) (G : Nat → Int32) (cx : Int) (p1 : Int32) (p2 : Int32) (p3 : Int32) (sz : Nat) (hT : ty_V ct S ph ws) (h_mu : S mu = some (.inr (1, 42))) (h_mv : S mv = some (.inr (1, 42))) (h_u0 : S u0 = some (.inr (1, 42))) (h_u1 : S u1 = some (.inr (1, 42))) (hph : ty_C ph xx) (hy1 : ty_y1 xx) (hR : rf_R G cx f) : Met l yX11_notes (ws_ yX11_notes cX11_notes 5 none) ({ frames := 0, cells := 0, slots := 0, locals := 0 } : Room) (va_Pc [.ref mo, .int p1, .int p2, .int p3] (cmP D ct sz ([(rf_MO mo mw ma mf m0 m1 mu mv u0 u1 iz th mb mn mpt mbg mwr mwk mlf men), (rf_RW ct 0 mw 958 f)] ++ ws))) (va_Qv (fun (u : va_W × (Nat → Int32)) => match u with | (u9, f1) => ty_V ct S ph u9 ∧ rf_d (f 8) f f1 ∧ rf_R G cx f1 ∧ rf_sm f f1) (cmB D ([(rf_MO mo mw ma mf m0 m1 mu mv u0 u1 iz th mb mn mpt mbg mwr mwk mlf men), (rf_RW ct 0 mw 958 f)] ++ ws) sz (fun (u : va_W × (Nat → Int32)) => match u with | (u9, f1) => ([(rf_MO mo mw ma mf m0 m1 mu mv u0 u1 iz th mb mn mpt mbg mwr mwk mlf men), (rf_RW ct 0 mw 958 f1)] ++ u9))) (va_A ([(rf_MO mo mw ma mf m0 m1 mu mv u0 u1 iz th mb mn mpt mbg mwr mwk mlf men), (rf_RW ct 0 mw 958 f)] ++ ws) sz)) 0 0 (va_A ([(rf_MO mo mw ma mf m0 m1 mu mv u0 u1 iz th mb mn mpt mbg mwr mwk mlf men), (rf_RW ct 0 mw 958 f)] ++ ws) sz) := by
  refine Met.ofW (cc := cX11_notes) (maxL := 5) (ret := none) (by decide) rfl ?_
  intro p e s m args below meth c s₁ B hml hv
  obtain ⟨rfl, hsz, hP, hK, hD0, hX⟩ := hv
  have hx := B.exec
  have hb := B.bytes
  have hr := B.returns
  have hts := ws_all (atoms_spec (ws := ws_ yX11_notes cX11_notes 5 none) B.pre)
  have hown : s.vm.findClass RX11 = some m.cls := findClass_of_methodNamed B.named
  have hlocks := B.notSynchronized
  subst hsz
  have hD := hD0.self (sz := s.heap.size)
  generalize hAe : va_A ([(rf_MO mo mw ma mf m0 m1 mu mv u0 u1 iz th mb mn mpt mbg mwr mwk mlf men), (rf_RW ct 0 mw 958 f)] ++ ws) s.heap.size = A at hD hX ⊢
  have hA : ∀ q : Nat, s.heap.size ≤ q → A q := fun q h => by rw [← hAe]; exact Or.inr h
  have hS : va_S A s.heap s.heap [] := va_S.rf
  have hl := lv_entry ([.ref mo, .int p1, .int p2, .int p3]) (n := 5) (Nat.le_of_ble_eq_true rfl)
  rw [lg_entry_eq]
  generalize (lg_sl ([.ref mo, .int p1, .int p2, .int p3]) ++ List.replicate (5 - (lg_sl ([.ref mo, .int p1, .int p2, .int p3])).length) Slot.unset).toArray = ls at hl ⊢
  have hl : lv_has ls 5 [(0, .ref mo), (1, .int p1), (2, .int p2), (3, .int p3)] := hl
  refine lv_aload_n hx hb dX11_notes_0 rfl (lv_at hl 0 rfl) ?_
  refine va_get (v := .ref mw) (D := D) (ci := 11) (C := RX11) (T := TX11) (N := 19) hx hb hts in_X11 hown hK hP 0 rfl rfl 0 (by decide) (hts _ kl_RX11_9) (fun _ h9 => h9) rfl dX11_notes_1 ?_
  refine lv_bipush (v := 17) hx hb dX11_notes_4 (by decide) ?_
  refine va_iald hx hb hK hP 1 0 rfl rfl (cm_vin (by decide)) dX11_notes_6 ?_
  refine cm_cst (y := (f 17)) (by first | rfl | decide +kernel) ?_
  refine lv_bipush (v := 60) hx hb dX11_notes_7 (by decide) ?_
  refine lv_icmp_ne (tgt := 58) hx hb dX11_notes_9 (by decide) (fun hc_1 => ?_) (fun hc_1 => ?_)
  · have hL_2 : 0 ≤ (f 17).toInt ∧ (f 17).toInt ≤ 59 := (rf_ne60 (N := 60) (by decide) hc_1 hR.2.2.1.2.2)
    refine lv_sipush (v := 718) hx hb dX11_notes_58 (by decide) ?_
    refine lv_iconst (v := 4) hx hb dX11_notes_61 (by decide) ?_
    refine lv_aload_n hx hb dX11_notes_62 rfl (lv_at hl 0 rfl) ?_
    refine va_get (v := .ref mw) (D := D) (ci := 11) (C := RX11) (T := TX11) (N := 19) hx hb hts in_X11 hown hK hP 0 rfl rfl 0 (by decide) (hts _ kl_RX11_9) (fun _ h9 => h9) rfl dX11_notes_63 ?_
    refine lv_bipush (v := 17) hx hb dX11_notes_66 (by decide) ?_
    refine va_iald hx hb hK hP 1 0 rfl rfl (cm_vin (by decide)) dX11_notes_68 ?_
    refine cm_cst (y := (f 17)) (by first | rfl | decide +kernel) ?_
    refine lv_imul hx hb dX11_notes_69 ?_
    refine lv_iadd hx hb dX11_notes_70 ?_
    refine lv_istore (lv' := [(4, .int (718 + (4 * (f 17)))), (0, .ref mo), (1, .int p1), (2, .int p2), (3, .int p3)]) hx hb dX11_notes_71 hl (by decide) rfl (fun ls hl => ?_)
    refine lv_aload_n hx hb dX11_notes_73 rfl (lv_at hl 1 rfl) ?_
    refine va_get (v := .ref mw) (D := D) (ci := 11) (C := RX11) (T := TX11) (N := 19) hx hb hts in_X11 hown hK hP 0 rfl rfl 0 (by decide) (hts _ kl_RX11_9) (fun _ h9 => h9) rfl dX11_notes_74 ?_
    refine lv_iload hx hb dX11_notes_77 (lv_at hl 0 rfl) ?_
    refine lv_aload_n hx hb dX11_notes_79 rfl (lv_at hl 1 rfl) ?_
    refine va_get (v := .ref mw) (D := D) (ci := 11) (C := RX11) (T := TX11) (N := 19) hx hb hts in_X11 hown hK hP 0 rfl rfl 0 (by decide) (hts _ kl_RX11_9) (fun _ h9 => h9) rfl dX11_notes_80 ?_
    refine lv_bipush (v := 8) hx hb dX11_notes_83 (by decide) ?_
    refine va_iald hx hb hK hP 1 0 rfl rfl (cm_vin (by decide)) dX11_notes_85 ?_
    refine cm_cst (y := (f 8)) (by first | rfl | decide +kernel) ?_
    refine va_iast hx hb hK hP hD hS 1 0 rfl rfl (rf_in1 (by have := (rf_nb0 (a := 718) (b := 4) (A := 718) (B := 4) (N := 59) (by decide) (by decide) hL_2 (by decide) (by decide) (by decide) (by decide)); omega)) dX11_notes_86 (fun H locs hP hD hS => ?_)
    have hP : va_P D vwCl ([(rf_MO mo mw ma mf m0 m1 mu mv u0 u1 iz th mb mn mpt mbg mwr mwk mlf men), (rf_RW ct 0 mw 958 (upd f (718 + (4 * (f 17))).toNatClampNeg (f 8)))] ++ ws) H := hP
    have hD : va_D A ([(rf_MO mo mw ma mf m0 m1 mu mv u0 u1 iz th mb mn mpt mbg mwr mwk mlf men), (rf_RW ct 0 mw 958 (upd f (718 + (4 * (f 17))).toNatClampNeg (f 8)))] ++ ws) := hD
    have hU_4 : rf_R G cx (upd f (718 + (4 * (f 17))).toNatClampNeg (f 8)) ∧ rf_sm f (upd f (718 + (4 * (f 17))).toNatClampNeg (f 8)) := (rf_free _ hR (Or.inr (rf_ge (rf_nb0 (a := 718) (b := 4) (A := 718) (B := 4) (N := 59) (by decide) (by decide) hL_2 (by decide) (by decide) (by decide) (by decide)).1)))
    generalize hf_7 : (upd f (718 + (4 * (f 17))).toNatClampNeg (f 8)) = f_3 at hP hD hU_4
    have hD_8 := rf_du (rf_dr f) hf_7 (by have := rf_ge (rf_nb0 (a := 718) (b := 4) (A := 718) (B := 4) (N := 59) (by decide) (by decide) hL_2 (by decide) (by decide) (by decide) (by decide)).1; omega)
    have hR_5 := hU_4.1
    have hM_6 := rf_smt (rf_smr f) hU_4.2
    have hq_9 : f_3 17 = f 17 := (rf_u17 hf_7 (rf_ge (rf_nb0 (a := 718) (b := 4) (A := 718) (B := 4) (N := 59) (by decide) (by decide) hL_2 (by decide) (by decide) (by decide) (by decide)).1) (by omega)).trans rfl
    refine lv_aload_n hx hb dX11_notes_87 rfl (lv_at hl 1 rfl) ?_
    refine va_get (v := .ref mw) (D := D) (ci := 11) (C := RX11) (T := TX11) (N := 19) hx hb hts in_X11 hown hK hP 0 rfl rfl 0 (by decide) (hts _ kl_RX11_9) (fun _ h9 => h9) rfl dX11_notes_88 ?_
    refine lv_iload hx hb dX11_notes_91 (lv_at hl 0 rfl) ?_
    refine lv_iconst (v := 1) hx hb dX11_notes_93 (by decide) ?_
    refine lv_iadd hx hb dX11_notes_94 ?_
    refine lv_iload_n hx hb dX11_notes_95 rfl (lv_at hl 2 rfl) ?_
    refine va_iast hx hb hK hP hD hS 1 0 rfl rfl (rf_in1 (by have := (rf_nb (a := 718) (b := 4) (A := 718) (B := 4) (N := 59) (k := 1) (K := 1) (by decide) (by decide) (by decide) hL_2 (by decide) (by decide) (by decide) (by decide) (by decide)); omega)) dX11_notes_96 (fun H locs hP hD hS => ?_)
    have hP : va_P D vwCl ([(rf_MO mo mw ma mf m0 m1 mu mv u0 u1 iz th mb mn mpt mbg mwr mwk mlf men), (rf_RW ct 0 mw 958 (upd f_3 ((718 + (4 * (f 17))) + 1).toNatClampNeg p1))] ++ ws) H := hP
    have hD : va_D A ([(rf_MO mo mw ma mf m0 m1 mu mv u0 u1 iz th mb mn mpt mbg mwr mwk mlf men), (rf_RW ct 0 mw 958 (upd f_3 ((718 + (4 * (f 17))) + 1).toNatClampNeg p1))] ++ ws) := hD
    have hU_11 : rf_R G cx (upd f_3 ((718 + (4 * (f 17))) + 1).toNatClampNeg p1) ∧ rf_sm f_3 (upd f_3 ((718 + (4 * (f 17))) + 1).toNatClampNeg p1) := (rf_free _ hR_5 (Or.inr (rf_ge (rf_nb (a := 718) (b := 4) (A := 718) (B := 4) (N := 59) (k := 1) (K := 1) (by decide) (by decide) (by decide) hL_2 (by decide) (by decide) (by decide) (by decide) (by decide)).1)))
    generalize hf_14 : (upd f_3 ((718 + (4 * (f 17))) + 1).toNatClampNeg p1) = f_10 at hP hD hU_11
    have hD_15 := rf_du hD_8 hf_14 (by have := rf_ge (rf_nb (a := 718) (b := 4) (A := 718) (B := 4) (N := 59) (k := 1) (K := 1) (by decide) (by decide) (by decide) hL_2 (by decide) (by decide) (by decide) (by decide) (by decide)).1; omega)
    have hR_12 := hU_11.1
    have hM_13 := rf_smt hM_6 hU_11.2
    have hq_16 : f_10 17 = f 17 := (rf_u17 hf_14 (rf_ge (rf_nb (a := 718) (b := 4) (A := 718) (B := 4) (N := 59) (k := 1) (K := 1) (by decide) (by decide) (by decide) hL_2 (by decide) (by decide) (by decide) (by decide) (by decide)).1) (by omega)).trans hq_9
    refine lv_aload_n hx hb dX11_notes_97 rfl (lv_at hl 1 rfl) ?_
    refine va_get (v := .ref mw) (D := D) (ci := 11) (C := RX11) (T := TX11) (N := 19) hx hb hts in_X11 hown hK hP 0 rfl rfl 0 (by decide) (hts _ kl_RX11_9) (fun _ h9 => h9) rfl dX11_notes_98 ?_
    refine lv_iload hx hb dX11_notes_101 (lv_at hl 0 rfl) ?_
    refine lv_iconst (v := 2) hx hb dX11_notes_103 (by decide) ?_
    refine lv_iadd hx hb dX11_notes_104 ?_
    refine lv_iload_n hx hb dX11_notes_105 rfl (lv_at hl 3 rfl) ?_
    refine va_iast hx hb hK hP hD hS 1 0 rfl rfl (rf_in1 (by have := (rf_nb (a := 718) (b := 4) (A := 718) (B := 4) (N := 59) (k := 2) (K := 2) (by decide) (by decide) (by decide) hL_2 (by decide) (by decide) (by decide) (by decide) (by decide)); omega)) dX11_notes_106 (fun H locs hP hD hS => ?_)
    have hP : va_P D vwCl ([(rf_MO mo mw ma mf m0 m1 mu mv u0 u1 iz th mb mn mpt mbg mwr mwk mlf men), (rf_RW ct 0 mw 958 (upd f_10 ((718 + (4 * (f 17))) + 2).toNatClampNeg p2))] ++ ws) H := hP
    have hD : va_D A ([(rf_MO mo mw ma mf m0 m1 mu mv u0 u1 iz th mb mn mpt mbg mwr mwk mlf men), (rf_RW ct 0 mw 958 (upd f_10 ((718 + (4 * (f 17))) + 2).toNatClampNeg p2))] ++ ws) := hD
    have hU_18 : rf_R G cx (upd f_10 ((718 + (4 * (f 17))) + 2).toNatClampNeg p2) ∧ rf_sm f_10 (upd f_10 ((718 + (4 * (f 17))) + 2).toNatClampNeg p2) := (rf_free _ hR_12 (Or.inr (rf_ge (rf_nb (a := 718) (b := 4) (A := 718) (B := 4) (N := 59) (k := 2) (K := 2) (by decide) (by decide) (by decide) hL_2 (by decide) (by decide) (by decide) (by decide) (by decide)).1)))
    generalize hf_21 : (upd f_10 ((718 + (4 * (f 17))) + 2).toNatClampNeg p2) = f_17 at hP hD hU_18
    have hD_22 := rf_du hD_15 hf_21 (by have := rf_ge (rf_nb (a := 718) (b := 4) (A := 718) (B := 4) (N := 59) (k := 2) (K := 2) (by decide) (by decide) (by decide) hL_2 (by decide) (by decide) (by decide) (by decide) (by decide)).1; omega)
    have hR_19 := hU_18.1
    have hM_20 := rf_smt hM_13 hU_18.2
    have hq_23 : f_17 17 = f 17 := (rf_u17 hf_21 (rf_ge (rf_nb (a := 718) (b := 4) (A := 718) (B := 4) (N := 59) (k := 2) (K := 2) (by decide) (by decide) (by decide) hL_2 (by decide) (by decide) (by decide) (by decide) (by decide)).1) (by omega)).trans hq_16
    refine lv_aload_n hx hb dX11_notes_107 rfl (lv_at hl 1 rfl) ?_
    refine va_get (v := .ref mw) (D := D) (ci := 11) (C := RX11) (T := TX11) (N := 19) hx hb hts in_X11 hown hK hP 0 rfl rfl 0 (by decide) (hts _ kl_RX11_9) (fun _ h9 => h9) rfl dX11_notes_108 ?_
    refine lv_iload hx hb dX11_notes_111 (lv_at hl 0 rfl) ?_
    refine lv_iconst (v := 3) hx hb dX11_notes_113 (by decide) ?_
    refine lv_iadd hx hb dX11_notes_114 ?_
    refine lv_iload_n hx hb dX11_notes_115 rfl (lv_at hl 4 rfl) ?_
    refine va_iast hx hb hK hP hD hS 1 0 rfl rfl (rf_in1 (by have := (rf_nb (a := 718) (b := 4) (A := 718) (B := 4) (N := 59) (k := 3) (K := 3) (by decide) (by decide) (by decide) hL_2 (by decide) (by decide) (by decide) (by decide) (by decide)); omega)) dX11_notes_116 (fun H locs hP hD hS => ?_)
    have hP : va_P D vwCl ([(rf_MO mo mw ma mf m0 m1 mu mv u0 u1 iz th mb mn mpt mbg mwr mwk mlf men), (rf_RW ct 0 mw 958 (upd f_17 ((718 + (4 * (f 17))) + 3).toNatClampNeg p3))] ++ ws) H := hP
    have hD : va_D A ([(rf_MO mo mw ma mf m0 m1 mu mv u0 u1 iz th mb mn mpt mbg mwr mwk mlf men), (rf_RW ct 0 mw 958 (upd f_17 ((718 + (4 * (f 17))) + 3).toNatClampNeg p3))] ++ ws) := hD
    have hU_25 : rf_R G cx (upd f_17 ((718 + (4 * (f 17))) + 3).toNatClampNeg p3) ∧ rf_sm f_17 (upd f_17 ((718 + (4 * (f 17))) + 3).toNatClampNeg p3) := (rf_free _ hR_19 (Or.inr (rf_ge (rf_nb (a := 718) (b := 4) (A := 718) (B := 4) (N := 59) (k := 3) (K := 3) (by decide) (by decide) (by decide) hL_2 (by decide) (by decide) (by decide) (by decide) (by decide)).1)))
    generalize hf_28 : (upd f_17 ((718 + (4 * (f 17))) + 3).toNatClampNeg p3) = f_24 at hP hD hU_25
    have hD_29 := rf_du hD_22 hf_28 (by have := rf_ge (rf_nb (a := 718) (b := 4) (A := 718) (B := 4) (N := 59) (k := 3) (K := 3) (by decide) (by decide) (by decide) hL_2 (by decide) (by decide) (by decide) (by decide) (by decide)).1; omega)
    have hR_26 := hU_25.1
    have hM_27 := rf_smt hM_20 hU_25.2
    have hq_30 : f_24 17 = f 17 := (rf_u17 hf_28 (rf_ge (rf_nb (a := 718) (b := 4) (A := 718) (B := 4) (N := 59) (k := 3) (K := 3) (by decide) (by decide) (by decide) hL_2 (by decide) (by decide) (by decide) (by decide) (by decide)).1) (by omega)).trans hq_23
    refine lv_aload_n hx hb dX11_notes_117 rfl (lv_at hl 1 rfl) ?_
    refine va_get (v := .ref mw) (D := D) (ci := 11) (C := RX11) (T := TX11) (N := 19) hx hb hts in_X11 hown hK hP 0 rfl rfl 0 (by decide) (hts _ kl_RX11_9) (fun _ h9 => h9) rfl dX11_notes_118 ?_
    refine lv_bipush (v := 17) hx hb dX11_notes_121 (by decide) ?_
    refine lv_dup2_11 hx hb dX11_notes_123 rfl rfl ?_
    refine va_iald hx hb hK hP 1 0 rfl rfl (cm_vin (by decide)) dX11_notes_124 ?_
    refine cm_cst (y := (f_24 17)) (by first | rfl | decide +kernel) ?_
    refine lv_iconst (v := 1) hx hb dX11_notes_125 (by decide) ?_
    refine lv_iadd hx hb dX11_notes_126 ?_
    refine va_iast hx hb hK hP hD hS 1 0 rfl rfl (cm_vin (by decide)) dX11_notes_127 (fun H locs hP hD hS => ?_)
    have hP : va_P D vwCl ([(rf_MO mo mw ma mf m0 m1 mu mv u0 u1 iz th mb mn mpt mbg mwr mwk mlf men), (rf_RW ct 0 mw 958 (upd f_24 (17 : Int32).toNatClampNeg ((f_24 17) + 1)))] ++ ws) H := hP
    have hD : va_D A ([(rf_MO mo mw ma mf m0 m1 mu mv u0 u1 iz th mb mn mpt mbg mwr mwk mlf men), (rf_RW ct 0 mw 958 (upd f_24 (17 : Int32).toNatClampNeg ((f_24 17) + 1)))] ++ ws) := hD
    have hU_32 : rf_R G cx (upd f_24 (17 : Int32).toNatClampNeg ((f_24 17) + 1)) ∧ rf_sm f_24 (upd f_24 (17 : Int32).toNatClampNeg ((f_24 17) + 1)) := (rf_num17 hR_26 (by rw [hq_30]; have := rf_inc9 hL_2 (by omega) (by omega); omega))
    generalize hf_35 : (upd f_24 (17 : Int32).toNatClampNeg ((f_24 17) + 1)) = f_31 at hP hD hU_32
    have hD_36 := rf_du hD_29 hf_35 (by decide)
    have hR_33 := hU_32.1
    have hM_34 := rf_smt hM_27 hU_32.2
    exact W.vret hx hb hr (fun t ht hW => ⟨⟨(ws, f_31), rfl, ⟨hT, ⟨hD_36, hR_33, hM_34⟩⟩, by rw [ht]; exact hP, by rw [hAe]; exact hD⟩, hS.F ht⟩) hS.2.2 dX11_notes_128
  · refine lv_sipush (v := 718) hx hb dX11_notes_12 (by decide) ?_
    refine lv_istore (lv' := [(4, .int 718), (0, .ref mo), (1, .int p1), (2, .int p2), (3, .int p3)]) hx hb dX11_notes_15 hl (by decide) rfl (fun ls hl => ?_)
    refine ty_loop (I := fun μ H locs ls => ∃ (ws : va_W) (y_37 : Int32) (f_38 : Nat → Int32), μ = (2147483648 - y_37.toInt).toNat ∧ ty_V ct S ph ws ∧ va_P D vwCl ([(rf_MO mo mw ma mf m0 m1 mu mv u0 u1 iz th mb mn mpt mbg mwr mwk mlf men), (rf_RW ct 0 mw 958 f_38)] ++ ws) H ∧ va_D A ([(rf_MO mo mw ma mf m0 m1 mu mv u0 u1 iz th mb mn mpt mbg mwr mwk mlf men), (rf_RW ct 0 mw 958 f_38)] ++ ws) ∧ va_S A s.heap H locs ∧ lv_has ls 5 [(0, .ref mo), (1, .int p1), (2, .int p2), (3, .int p3), (4, .int y_37)] ∧ rf_R G cx f_38 ∧ rf_sm f f_38 ∧ rf_d (f 8) f f_38 ∧ (718 ≤ y_37.toInt ∧ y_37.toInt ≤ 954) ∧ f_38 17 = 60) ⟨_, ws, (718 : Int32), f, rfl, hT, hP, hD, hS, (lv_sub hl [1, 2, 3, 4, 0] rfl), hR, (rf_smr f), (rf_dr f), ⟨by decide, by decide⟩, hc_1⟩ (fun μ H locs ls hI ih_17 => ?_)
    obtain ⟨ws, y_37, f_38, rfl, hT, hP, hD, hS, hl, hR_17, hM_17, hD_17, hex_17⟩ := hI
    refine lv_iload hx hb dX11_notes_17 (lv_at hl 4 rfl) ?_
    refine lv_sipush (v := 954) hx hb dX11_notes_19 (by decide) ?_
    refine lv_icmp_ge (tgt := 47) hx hb dX11_notes_22 (by decide) (fun hc_39 => ?_) (fun hc_39 => ?_)
    · refine lv_aload_n hx hb dX11_notes_47 rfl (lv_at hl 0 rfl) ?_
      refine va_get (v := .ref mw) (D := D) (ci := 11) (C := RX11) (T := TX11) (N := 19) hx hb hts in_X11 hown hK hP 0 rfl rfl 0 (by decide) (hts _ kl_RX11_9) (fun _ h9 => h9) rfl dX11_notes_48 ?_
      refine lv_bipush (v := 17) hx hb dX11_notes_51 (by decide) ?_
      refine lv_dup2_11 hx hb dX11_notes_53 rfl rfl ?_
      refine va_iald hx hb hK hP 1 0 rfl rfl (cm_vin (by decide)) dX11_notes_54 ?_
      refine cm_cst (y := (f_38 17)) (by first | rfl | decide +kernel) ?_
      refine lv_iconst (v := 1) hx hb dX11_notes_55 (by decide) ?_
      refine lv_isub hx hb dX11_notes_56 ?_
      refine va_iast hx hb hK hP hD hS 1 0 rfl rfl (cm_vin (by decide)) dX11_notes_57 (fun H locs hP hD hS => ?_)
      have hP : va_P D vwCl ([(rf_MO mo mw ma mf m0 m1 mu mv u0 u1 iz th mb mn mpt mbg mwr mwk mlf men), (rf_RW ct 0 mw 958 (upd f_38 (17 : Int32).toNatClampNeg ((f_38 17) - 1)))] ++ ws) H := hP
      have hD : va_D A ([(rf_MO mo mw ma mf m0 m1 mu mv u0 u1 iz th mb mn mpt mbg mwr mwk mlf men), (rf_RW ct 0 mw 958 (upd f_38 (17 : Int32).toNatClampNeg ((f_38 17) - 1)))] ++ ws) := hD
      have hU_41 : rf_R G cx (upd f_38 (17 : Int32).toNatClampNeg ((f_38 17) - 1)) ∧ rf_sm f_38 (upd f_38 (17 : Int32).toNatClampNeg ((f_38 17) - 1)) := (rf_num17 hR_17 (by rw [hex_17.2]; decide))
      generalize hf_44 : (upd f_38 (17 : Int32).toNatClampNeg ((f_38 17) - 1)) = f_40 at hP hD hU_41
      have hD_45 := rf_du hD_17 hf_44 (by decide)
      have hR_42 := hU_41.1
      have hM_43 := rf_smt hM_17 hU_41.2
      have hL_46 : 0 ≤ (f_40 17).toInt ∧ (f_40 17).toInt ≤ 59 := (by rw [rf_at17 hf_44, hex_17.2]; decide)
      refine lv_sipush (v := 718) hx hb dX11_notes_58 (by decide) ?_
      refine lv_iconst (v := 4) hx hb dX11_notes_61 (by decide) ?_
      refine lv_aload_n hx hb dX11_notes_62 rfl (lv_at hl 0 rfl) ?_
      refine va_get (v := .ref mw) (D := D) (ci := 11) (C := RX11) (T := TX11) (N := 19) hx hb hts in_X11 hown hK hP 0 rfl rfl 0 (by decide) (hts _ kl_RX11_9) (fun _ h9 => h9) rfl dX11_notes_63 ?_
      refine lv_bipush (v := 17) hx hb dX11_notes_66 (by decide) ?_
      refine va_iald hx hb hK hP 1 0 rfl rfl (cm_vin (by decide)) dX11_notes_68 ?_
      refine cm_cst (y := (f_40 17)) (by first | rfl | decide +kernel) ?_
      refine lv_imul hx hb dX11_notes_69 ?_
      refine lv_iadd hx hb dX11_notes_70 ?_
      refine lv_istore (lv' := [(4, .int (718 + (4 * (f_40 17)))), (0, .ref mo), (1, .int p1), (2, .int p2), (3, .int p3)]) hx hb dX11_notes_71 hl (by decide) rfl (fun ls hl => ?_)
      refine lv_aload_n hx hb dX11_notes_73 rfl (lv_at hl 1 rfl) ?_
      refine va_get (v := .ref mw) (D := D) (ci := 11) (C := RX11) (T := TX11) (N := 19) hx hb hts in_X11 hown hK hP 0 rfl rfl 0 (by decide) (hts _ kl_RX11_9) (fun _ h9 => h9) rfl dX11_notes_74 ?_
      refine lv_iload hx hb dX11_notes_77 (lv_at hl 0 rfl) ?_
      refine lv_aload_n hx hb dX11_notes_79 rfl (lv_at hl 1 rfl) ?_
      refine va_get (v := .ref mw) (D := D) (ci := 11) (C := RX11) (T := TX11) (N := 19) hx hb hts in_X11 hown hK hP 0 rfl rfl 0 (by decide) (hts _ kl_RX11_9) (fun _ h9 => h9) rfl dX11_notes_80 ?_
      refine lv_bipush (v := 8) hx hb dX11_notes_83 (by decide) ?_
      refine va_iald hx hb hK hP 1 0 rfl rfl (cm_vin (by decide)) dX11_notes_85 ?_
      refine cm_cst (y := (f_40 8)) (by first | rfl | decide +kernel) ?_
      refine va_iast hx hb hK hP hD hS 1 0 rfl rfl (rf_in1 (by have := (rf_nb0 (a := 718) (b := 4) (A := 718) (B := 4) (N := 59) (by decide) (by decide) hL_46 (by decide) (by decide) (by decide) (by decide)); omega)) dX11_notes_86 (fun H locs hP hD hS => ?_)
      have hP : va_P D vwCl ([(rf_MO mo mw ma mf m0 m1 mu mv u0 u1 iz th mb mn mpt mbg mwr mwk mlf men), (rf_RW ct 0 mw 958 (upd f_40 (718 + (4 * (f_40 17))).toNatClampNeg (f_40 8)))] ++ ws) H := hP
      have hD : va_D A ([(rf_MO mo mw ma mf m0 m1 mu mv u0 u1 iz th mb mn mpt mbg mwr mwk mlf men), (rf_RW ct 0 mw 958 (upd f_40 (718 + (4 * (f_40 17))).toNatClampNeg (f_40 8)))] ++ ws) := hD
      have hU_48 : rf_R G cx (upd f_40 (718 + (4 * (f_40 17))).toNatClampNeg (f_40 8)) ∧ rf_sm f_40 (upd f_40 (718 + (4 * (f_40 17))).toNatClampNeg (f_40 8)) := (rf_free _ hR_42 (Or.inr (rf_ge (rf_nb0 (a := 718) (b := 4) (A := 718) (B := 4) (N := 59) (by decide) (by decide) hL_46 (by decide) (by decide) (by decide) (by decide)).1)))
      generalize hf_51 : (upd f_40 (718 + (4 * (f_40 17))).toNatClampNeg (f_40 8)) = f_47 at hP hD hU_48
      have hD_52 := rf_du hD_45 hf_51 (by have := rf_ge (rf_nb0 (a := 718) (b := 4) (A := 718) (B := 4) (N := 59) (by decide) (by decide) hL_46 (by decide) (by decide) (by decide) (by decide)).1; omega)
      have hR_49 := hU_48.1
      have hM_50 := rf_smt hM_43 hU_48.2
      have hq_53 : f_47 17 = f_40 17 := (rf_u17 hf_51 (rf_ge (rf_nb0 (a := 718) (b := 4) (A := 718) (B := 4) (N := 59) (by decide) (by decide) hL_46 (by decide) (by decide) (by decide) (by decide)).1) (by omega)).trans rfl
      refine lv_aload_n hx hb dX11_notes_87 rfl (lv_at hl 1 rfl) ?_
      refine va_get (v := .ref mw) (D := D) (ci := 11) (C := RX11) (T := TX11) (N := 19) hx hb hts in_X11 hown hK hP 0 rfl rfl 0 (by decide) (hts _ kl_RX11_9) (fun _ h9 => h9) rfl dX11_notes_88 ?_
      refine lv_iload hx hb dX11_notes_91 (lv_at hl 0 rfl) ?_
      refine lv_iconst (v := 1) hx hb dX11_notes_93 (by decide) ?_
      refine lv_iadd hx hb dX11_notes_94 ?_
      refine lv_iload_n hx hb dX11_notes_95 rfl (lv_at hl 2 rfl) ?_
      refine va_iast hx hb hK hP hD hS 1 0 rfl rfl (rf_in1 (by have := (rf_nb (a := 718) (b := 4) (A := 718) (B := 4) (N := 59) (k := 1) (K := 1) (by decide) (by decide) (by decide) hL_46 (by decide) (by decide) (by decide) (by decide) (by decide)); omega)) dX11_notes_96 (fun H locs hP hD hS => ?_)
      have hP : va_P D vwCl ([(rf_MO mo mw ma mf m0 m1 mu mv u0 u1 iz th mb mn mpt mbg mwr mwk mlf men), (rf_RW ct 0 mw 958 (upd f_47 ((718 + (4 * (f_40 17))) + 1).toNatClampNeg p1))] ++ ws) H := hP
      have hD : va_D A ([(rf_MO mo mw ma mf m0 m1 mu mv u0 u1 iz th mb mn mpt mbg mwr mwk mlf men), (rf_RW ct 0 mw 958 (upd f_47 ((718 + (4 * (f_40 17))) + 1).toNatClampNeg p1))] ++ ws) := hD
      have hU_55 : rf_R G cx (upd f_47 ((718 + (4 * (f_40 17))) + 1).toNatClampNeg p1) ∧ rf_sm f_47 (upd f_47 ((718 + (4 * (f_40 17))) + 1).toNatClampNeg p1) := (rf_free _ hR_49 (Or.inr (rf_ge (rf_nb (a := 718) (b := 4) (A := 718) (B := 4) (N := 59) (k := 1) (K := 1) (by decide) (by decide) (by decide) hL_46 (by decide) (by decide) (by decide) (by decide) (by decide)).1)))
      generalize hf_58 : (upd f_47 ((718 + (4 * (f_40 17))) + 1).toNatClampNeg p1) = f_54 at hP hD hU_55
      have hD_59 := rf_du hD_52 hf_58 (by have := rf_ge (rf_nb (a := 718) (b := 4) (A := 718) (B := 4) (N := 59) (k := 1) (K := 1) (by decide) (by decide) (by decide) hL_46 (by decide) (by decide) (by decide) (by decide) (by decide)).1; omega)
      have hR_56 := hU_55.1
      have hM_57 := rf_smt hM_50 hU_55.2
      have hq_60 : f_54 17 = f_40 17 := (rf_u17 hf_58 (rf_ge (rf_nb (a := 718) (b := 4) (A := 718) (B := 4) (N := 59) (k := 1) (K := 1) (by decide) (by decide) (by decide) hL_46 (by decide) (by decide) (by decide) (by decide) (by decide)).1) (by omega)).trans hq_53
      refine lv_aload_n hx hb dX11_notes_97 rfl (lv_at hl 1 rfl) ?_
      refine va_get (v := .ref mw) (D := D) (ci := 11) (C := RX11) (T := TX11) (N := 19) hx hb hts in_X11 hown hK hP 0 rfl rfl 0 (by decide) (hts _ kl_RX11_9) (fun _ h9 => h9) rfl dX11_notes_98 ?_
      refine lv_iload hx hb dX11_notes_101 (lv_at hl 0 rfl) ?_
      refine lv_iconst (v := 2) hx hb dX11_notes_103 (by decide) ?_
      refine lv_iadd hx hb dX11_notes_104 ?_
      refine lv_iload_n hx hb dX11_notes_105 rfl (lv_at hl 3 rfl) ?_
      refine va_iast hx hb hK hP hD hS 1 0 rfl rfl (rf_in1 (by have := (rf_nb (a := 718) (b := 4) (A := 718) (B := 4) (N := 59) (k := 2) (K := 2) (by decide) (by decide) (by decide) hL_46 (by decide) (by decide) (by decide) (by decide) (by decide)); omega)) dX11_notes_106 (fun H locs hP hD hS => ?_)
      have hP : va_P D vwCl ([(rf_MO mo mw ma mf m0 m1 mu mv u0 u1 iz th mb mn mpt mbg mwr mwk mlf men), (rf_RW ct 0 mw 958 (upd f_54 ((718 + (4 * (f_40 17))) + 2).toNatClampNeg p2))] ++ ws) H := hP
      have hD : va_D A ([(rf_MO mo mw ma mf m0 m1 mu mv u0 u1 iz th mb mn mpt mbg mwr mwk mlf men), (rf_RW ct 0 mw 958 (upd f_54 ((718 + (4 * (f_40 17))) + 2).toNatClampNeg p2))] ++ ws) := hD
      have hU_62 : rf_R G cx (upd f_54 ((718 + (4 * (f_40 17))) + 2).toNatClampNeg p2) ∧ rf_sm f_54 (upd f_54 ((718 + (4 * (f_40 17))) + 2).toNatClampNeg p2) := (rf_free _ hR_56 (Or.inr (rf_ge (rf_nb (a := 718) (b := 4) (A := 718) (B := 4) (N := 59) (k := 2) (K := 2) (by decide) (by decide) (by decide) hL_46 (by decide) (by decide) (by decide) (by decide) (by decide)).1)))
      generalize hf_65 : (upd f_54 ((718 + (4 * (f_40 17))) + 2).toNatClampNeg p2) = f_61 at hP hD hU_62
      have hD_66 := rf_du hD_59 hf_65 (by have := rf_ge (rf_nb (a := 718) (b := 4) (A := 718) (B := 4) (N := 59) (k := 2) (K := 2) (by decide) (by decide) (by decide) hL_46 (by decide) (by decide) (by decide) (by decide) (by decide)).1; omega)
      have hR_63 := hU_62.1
      have hM_64 := rf_smt hM_57 hU_62.2
      have hq_67 : f_61 17 = f_40 17 := (rf_u17 hf_65 (rf_ge (rf_nb (a := 718) (b := 4) (A := 718) (B := 4) (N := 59) (k := 2) (K := 2) (by decide) (by decide) (by decide) hL_46 (by decide) (by decide) (by decide) (by decide) (by decide)).1) (by omega)).trans hq_60
      refine lv_aload_n hx hb dX11_notes_107 rfl (lv_at hl 1 rfl) ?_
      refine va_get (v := .ref mw) (D := D) (ci := 11) (C := RX11) (T := TX11) (N := 19) hx hb hts in_X11 hown hK hP 0 rfl rfl 0 (by decide) (hts _ kl_RX11_9) (fun _ h9 => h9) rfl dX11_notes_108 ?_
      refine lv_iload hx hb dX11_notes_111 (lv_at hl 0 rfl) ?_
      refine lv_iconst (v := 3) hx hb dX11_notes_113 (by decide) ?_
      refine lv_iadd hx hb dX11_notes_114 ?_
      refine lv_iload_n hx hb dX11_notes_115 rfl (lv_at hl 4 rfl) ?_
      refine va_iast hx hb hK hP hD hS 1 0 rfl rfl (rf_in1 (by have := (rf_nb (a := 718) (b := 4) (A := 718) (B := 4) (N := 59) (k := 3) (K := 3) (by decide) (by decide) (by decide) hL_46 (by decide) (by decide) (by decide) (by decide) (by decide)); omega)) dX11_notes_116 (fun H locs hP hD hS => ?_)
      have hP : va_P D vwCl ([(rf_MO mo mw ma mf m0 m1 mu mv u0 u1 iz th mb mn mpt mbg mwr mwk mlf men), (rf_RW ct 0 mw 958 (upd f_61 ((718 + (4 * (f_40 17))) + 3).toNatClampNeg p3))] ++ ws) H := hP
      have hD : va_D A ([(rf_MO mo mw ma mf m0 m1 mu mv u0 u1 iz th mb mn mpt mbg mwr mwk mlf men), (rf_RW ct 0 mw 958 (upd f_61 ((718 + (4 * (f_40 17))) + 3).toNatClampNeg p3))] ++ ws) := hD
      have hU_69 : rf_R G cx (upd f_61 ((718 + (4 * (f_40 17))) + 3).toNatClampNeg p3) ∧ rf_sm f_61 (upd f_61 ((718 + (4 * (f_40 17))) + 3).toNatClampNeg p3) := (rf_free _ hR_63 (Or.inr (rf_ge (rf_nb (a := 718) (b := 4) (A := 718) (B := 4) (N := 59) (k := 3) (K := 3) (by decide) (by decide) (by decide) hL_46 (by decide) (by decide) (by decide) (by decide) (by decide)).1)))
      generalize hf_72 : (upd f_61 ((718 + (4 * (f_40 17))) + 3).toNatClampNeg p3) = f_68 at hP hD hU_69
      have hD_73 := rf_du hD_66 hf_72 (by have := rf_ge (rf_nb (a := 718) (b := 4) (A := 718) (B := 4) (N := 59) (k := 3) (K := 3) (by decide) (by decide) (by decide) hL_46 (by decide) (by decide) (by decide) (by decide) (by decide)).1; omega)
      have hR_70 := hU_69.1
      have hM_71 := rf_smt hM_64 hU_69.2
      have hq_74 : f_68 17 = f_40 17 := (rf_u17 hf_72 (rf_ge (rf_nb (a := 718) (b := 4) (A := 718) (B := 4) (N := 59) (k := 3) (K := 3) (by decide) (by decide) (by decide) hL_46 (by decide) (by decide) (by decide) (by decide) (by decide)).1) (by omega)).trans hq_67
      refine lv_aload_n hx hb dX11_notes_117 rfl (lv_at hl 1 rfl) ?_
      refine va_get (v := .ref mw) (D := D) (ci := 11) (C := RX11) (T := TX11) (N := 19) hx hb hts in_X11 hown hK hP 0 rfl rfl 0 (by decide) (hts _ kl_RX11_9) (fun _ h9 => h9) rfl dX11_notes_118 ?_
      refine lv_bipush (v := 17) hx hb dX11_notes_121 (by decide) ?_
      refine lv_dup2_11 hx hb dX11_notes_123 rfl rfl ?_
      refine va_iald hx hb hK hP 1 0 rfl rfl (cm_vin (by decide)) dX11_notes_124 ?_
      refine cm_cst (y := (f_68 17)) (by first | rfl | decide +kernel) ?_
      refine lv_iconst (v := 1) hx hb dX11_notes_125 (by decide) ?_
      refine lv_iadd hx hb dX11_notes_126 ?_
      refine va_iast hx hb hK hP hD hS 1 0 rfl rfl (cm_vin (by decide)) dX11_notes_127 (fun H locs hP hD hS => ?_)
      have hP : va_P D vwCl ([(rf_MO mo mw ma mf m0 m1 mu mv u0 u1 iz th mb mn mpt mbg mwr mwk mlf men), (rf_RW ct 0 mw 958 (upd f_68 (17 : Int32).toNatClampNeg ((f_68 17) + 1)))] ++ ws) H := hP
      have hD : va_D A ([(rf_MO mo mw ma mf m0 m1 mu mv u0 u1 iz th mb mn mpt mbg mwr mwk mlf men), (rf_RW ct 0 mw 958 (upd f_68 (17 : Int32).toNatClampNeg ((f_68 17) + 1)))] ++ ws) := hD
      have hU_76 : rf_R G cx (upd f_68 (17 : Int32).toNatClampNeg ((f_68 17) + 1)) ∧ rf_sm f_68 (upd f_68 (17 : Int32).toNatClampNeg ((f_68 17) + 1)) := (rf_num17 hR_70 (by rw [hq_74]; have := rf_inc9 hL_46 (by omega) (by omega); omega))
      generalize hf_79 : (upd f_68 (17 : Int32).toNatClampNeg ((f_68 17) + 1)) = f_75 at hP hD hU_76
      have hD_80 := rf_du hD_73 hf_79 (by decide)
      have hR_77 := hU_76.1
      have hM_78 := rf_smt hM_71 hU_76.2
      exact W.vret hx hb hr (fun t ht hW => ⟨⟨(ws, f_75), rfl, ⟨hT, ⟨hD_80, hR_77, hM_78⟩⟩, by rw [ht]; exact hP, by rw [hAe]; exact hD⟩, hS.F ht⟩) hS.2.2 dX11_notes_128
    · refine lv_aload_n hx hb dX11_notes_25 rfl (lv_at hl 0 rfl) ?_
      refine va_get (v := .ref mw) (D := D) (ci := 11) (C := RX11) (T := TX11) (N := 19) hx hb hts in_X11 hown hK hP 0 rfl rfl 0 (by decide) (hts _ kl_RX11_9) (fun _ h9 => h9) rfl dX11_notes_26 ?_
      refine lv_iload hx hb dX11_notes_29 (lv_at hl 4 rfl) ?_
      refine lv_aload_n hx hb dX11_notes_31 rfl (lv_at hl 0 rfl) ?_
      refine va_get (v := .ref mw) (D := D) (ci := 11) (C := RX11) (T := TX11) (N := 19) hx hb hts in_X11 hown hK hP 0 rfl rfl 0 (by decide) (hts _ kl_RX11_9) (fun _ h9 => h9) rfl dX11_notes_32 ?_
      refine lv_iload hx hb dX11_notes_35 (lv_at hl 4 rfl) ?_
      refine lv_iconst (v := 4) hx hb dX11_notes_37 (by decide) ?_
      refine lv_iadd hx hb dX11_notes_38 ?_
      refine va_iald hx hb hK hP 1 0 rfl rfl (rf_in2 (K := 4) (by decide) (by have := hex_17.1; have := rf_ng (b := 954) (by decide) hc_39; omega)) dX11_notes_39 ?_
      refine va_iast hx hb hK hP hD hS 1 0 rfl rfl (rf_in1 (by have := hex_17.1; omega)) dX11_notes_40 (fun H locs hP hD hS => ?_)
      have hP : va_P D vwCl ([(rf_MO mo mw ma mf m0 m1 mu mv u0 u1 iz th mb mn mpt mbg mwr mwk mlf men), (rf_RW ct 0 mw 958 (upd f_38 y_37.toNatClampNeg (f_38 (y_37 + 4).toNatClampNeg)))] ++ ws) H := hP
      have hD : va_D A ([(rf_MO mo mw ma mf m0 m1 mu mv u0 u1 iz th mb mn mpt mbg mwr mwk mlf men), (rf_RW ct 0 mw 958 (upd f_38 y_37.toNatClampNeg (f_38 (y_37 + 4).toNatClampNeg)))] ++ ws) := hD
      have hU_82 : rf_R G cx (upd f_38 y_37.toNatClampNeg (f_38 (y_37 + 4).toNatClampNeg)) ∧ rf_sm f_38 (upd f_38 y_37.toNatClampNeg (f_38 (y_37 + 4).toNatClampNeg)) := (rf_free _ hR_17 (Or.inr (rf_ge (by have := hex_17.1; omega))))
      generalize hf_85 : (upd f_38 y_37.toNatClampNeg (f_38 (y_37 + 4).toNatClampNeg)) = f_81 at hP hD hU_82
      have hD_86 := rf_du hD_17 hf_85 (by have q9 := rf_ge (y := y_37) (by have := hex_17.1; omega); omega)
      have hR_83 := hU_82.1
      have hM_84 := rf_smt hM_17 hU_82.2
      refine lv_iinc (v := (y_37 + Int32.ofInt 1)) (lv' := [(4, .int (y_37 + Int32.ofInt 1)), (0, .ref mo), (1, .int p1), (2, .int p2), (3, .int p3)]) hx hb dX11_notes_41 hl (k := 4) rfl rfl (by decide) rfl (fun ls hl => ?_)
      refine lv_goto (tgt := 17) hx hb dX11_notes_44 (by decide) ?_
      exact ih_17 _ _ _ _ (ty_inc (cm_lt hc_39)) ⟨ws, (y_37 + Int32.ofInt 1), f_81, rfl, hT, hP, hD, hS, (lv_sub hl [1, 2, 3, 4, 0] rfl), hR_83, hM_84, hD_86, rf_lp (by decide) hex_17.1 hc_39 (by omega) (by omega), (rf_u17 hf_85 (rf_ge (by have := hex_17; omega)) (by omega)).trans hex_17.2⟩
theorem dX11_records_0 : decode cX11_records 0 = .ok (.aload_n 0, 1) := by decide +kernel
theorem dX11_records_1 : decode cX11_records 1 = .ok (.getfield 9, 3) := by decide +kernel
theorem dX11_records_4 : decode cX11_records 4 = .ok (.bipush 12, 2) := by decide +kernel
theorem dX11_records_6 : decode cX11_records 6 = .ok (.iaload, 1) := by decide +kernel
theorem dX11_records_7 : decode cX11_records 7 = .ok (.bipush 30, 2) := by decide +kernel
theorem dX11_records_9 : decode cX11_records 9 = .ok (.if_icmp .ne 45, 3) := by decide +kernel
theorem dX11_records_12 : decode cX11_records 12 = .ok (.sipush 568, 3) := by decide +kernel
theorem dX11_records_15 : decode cX11_records 15 = .ok (.istore_n 3, 1) := by decide +kernel
theorem dX11_records_16 : decode cX11_records 16 = .ok (.iload_n 3, 1) := by decide +kernel
theorem dX11_records_17 : decode cX11_records 17 = .ok (.sipush 713, 3) := by decide +kernel
theorem dX11_records_20 : decode cX11_records 20 = .ok (.if_icmp .ge 23, 3) := by decide +kernel
theorem dX11_records_23 : decode cX11_records 23 = .ok (.aload_n 0, 1) := by decide +kernel
theorem dX11_records_24 : decode cX11_records 24 = .ok (.getfield 9, 3) := by decide +kernel
theorem dX11_records_27 : decode cX11_records 27 = .ok (.iload_n 3, 1) := by decide +kernel
theorem dX11_records_28 : decode cX11_records 28 = .ok (.aload_n 0, 1) := by decide +kernel
theorem dX11_records_29 : decode cX11_records 29 = .ok (.getfield 9, 3) := by decide +kernel
theorem dX11_records_32 : decode cX11_records 32 = .ok (.iload_n 3, 1) := by decide +kernel
theorem dX11_records_33 : decode cX11_records 33 = .ok (.iconst 5, 1) := by decide +kernel
theorem dX11_records_34 : decode cX11_records 34 = .ok (.iadd, 1) := by decide +kernel
theorem dX11_records_35 : decode cX11_records 35 = .ok (.iaload, 1) := by decide +kernel
theorem dX11_records_36 : decode cX11_records 36 = .ok (.iastore, 1) := by decide +kernel
theorem dX11_records_37 : decode cX11_records 37 = .ok (.iinc 3 1, 3) := by decide +kernel
theorem dX11_records_40 : decode cX11_records 40 = .ok (.goto (-24), 3) := by decide +kernel
theorem dX11_records_43 : decode cX11_records 43 = .ok (.aload_n 0, 1) := by decide +kernel
theorem dX11_records_44 : decode cX11_records 44 = .ok (.getfield 9, 3) := by decide +kernel
theorem dX11_records_47 : decode cX11_records 47 = .ok (.bipush 12, 2) := by decide +kernel
theorem dX11_records_49 : decode cX11_records 49 = .ok (.dup2, 1) := by decide +kernel
theorem dX11_records_50 : decode cX11_records 50 = .ok (.iaload, 1) := by decide +kernel
theorem dX11_records_51 : decode cX11_records 51 = .ok (.iconst 1, 1) := by decide +kernel
theorem dX11_records_52 : decode cX11_records 52 = .ok (.isub, 1) := by decide +kernel
theorem dX11_records_53 : decode cX11_records 53 = .ok (.iastore, 1) := by decide +kernel
theorem dX11_records_54 : decode cX11_records 54 = .ok (.sipush 568, 3) := by decide +kernel
theorem dX11_records_57 : decode cX11_records 57 = .ok (.iconst 5, 1) := by decide +kernel
theorem dX11_records_58 : decode cX11_records 58 = .ok (.aload_n 0, 1) := by decide +kernel
theorem dX11_records_59 : decode cX11_records 59 = .ok (.getfield 9, 3) := by decide +kernel
theorem dX11_records_62 : decode cX11_records 62 = .ok (.bipush 12, 2) := by decide +kernel
theorem dX11_records_64 : decode cX11_records 64 = .ok (.iaload, 1) := by decide +kernel
theorem dX11_records_65 : decode cX11_records 65 = .ok (.imul, 1) := by decide +kernel
theorem dX11_records_66 : decode cX11_records 66 = .ok (.iadd, 1) := by decide +kernel
theorem dX11_records_67 : decode cX11_records 67 = .ok (.istore_n 3, 1) := by decide +kernel
theorem dX11_records_68 : decode cX11_records 68 = .ok (.aload_n 0, 1) := by decide +kernel
theorem dX11_records_69 : decode cX11_records 69 = .ok (.getfield 9, 3) := by decide +kernel
theorem dX11_records_72 : decode cX11_records 72 = .ok (.iload_n 3, 1) := by decide +kernel
theorem dX11_records_73 : decode cX11_records 73 = .ok (.iload_n 1, 1) := by decide +kernel
theorem dX11_records_74 : decode cX11_records 74 = .ok (.iastore, 1) := by decide +kernel
theorem dX11_records_75 : decode cX11_records 75 = .ok (.aload_n 0, 1) := by decide +kernel
theorem dX11_records_76 : decode cX11_records 76 = .ok (.getfield 9, 3) := by decide +kernel
theorem dX11_records_79 : decode cX11_records 79 = .ok (.iload_n 3, 1) := by decide +kernel
theorem dX11_records_80 : decode cX11_records 80 = .ok (.iconst 1, 1) := by decide +kernel
theorem dX11_records_81 : decode cX11_records 81 = .ok (.iadd, 1) := by decide +kernel
theorem dX11_records_82 : decode cX11_records 82 = .ok (.aload_n 0, 1) := by decide +kernel
theorem dX11_records_83 : decode cX11_records 83 = .ok (.iload_n 1, 1) := by decide +kernel
theorem dX11_records_84 : decode cX11_records 84 = .ok (.iconst 4, 1) := by decide +kernel
theorem dX11_records_85 : decode cX11_records 85 = .ok (.invokevirtual 261, 3) := by decide +kernel
theorem dX11_records_88 : decode cX11_records 88 = .ok (.l2i, 1) := by decide +kernel
theorem dX11_records_89 : decode cX11_records 89 = .ok (.iastore, 1) := by decide +kernel
theorem dX11_records_90 : decode cX11_records 90 = .ok (.aload_n 0, 1) := by decide +kernel
theorem dX11_records_91 : decode cX11_records 91 = .ok (.getfield 9, 3) := by decide +kernel
theorem dX11_records_94 : decode cX11_records 94 = .ok (.iload_n 3, 1) := by decide +kernel
theorem dX11_records_95 : decode cX11_records 95 = .ok (.iconst 2, 1) := by decide +kernel
theorem dX11_records_96 : decode cX11_records 96 = .ok (.iadd, 1) := by decide +kernel
theorem dX11_records_97 : decode cX11_records 97 = .ok (.aload_n 0, 1) := by decide +kernel
theorem dX11_records_98 : decode cX11_records 98 = .ok (.iload_n 1, 1) := by decide +kernel
theorem dX11_records_99 : decode cX11_records 99 = .ok (.iconst 5, 1) := by decide +kernel
theorem dX11_records_100 : decode cX11_records 100 = .ok (.invokevirtual 261, 3) := by decide +kernel
theorem dX11_records_103 : decode cX11_records 103 = .ok (.l2i, 1) := by decide +kernel
theorem dX11_records_104 : decode cX11_records 104 = .ok (.iastore, 1) := by decide +kernel
theorem dX11_records_105 : decode cX11_records 105 = .ok (.aload_n 0, 1) := by decide +kernel
theorem dX11_records_106 : decode cX11_records 106 = .ok (.getfield 9, 3) := by decide +kernel
theorem dX11_records_109 : decode cX11_records 109 = .ok (.iload_n 3, 1) := by decide +kernel
theorem dX11_records_110 : decode cX11_records 110 = .ok (.iconst 3, 1) := by decide +kernel
theorem dX11_records_111 : decode cX11_records 111 = .ok (.iadd, 1) := by decide +kernel
theorem dX11_records_112 : decode cX11_records 112 = .ok (.aload_n 0, 1) := by decide +kernel
theorem dX11_records_113 : decode cX11_records 113 = .ok (.getfield 9, 3) := by decide +kernel
theorem dX11_records_116 : decode cX11_records 116 = .ok (.bipush 8, 2) := by decide +kernel
theorem dX11_records_118 : decode cX11_records 118 = .ok (.iaload, 1) := by decide +kernel
theorem dX11_records_119 : decode cX11_records 119 = .ok (.iastore, 1) := by decide +kernel
theorem dX11_records_120 : decode cX11_records 120 = .ok (.aload_n 0, 1) := by decide +kernel
theorem dX11_records_121 : decode cX11_records 121 = .ok (.getfield 9, 3) := by decide +kernel
theorem dX11_records_124 : decode cX11_records 124 = .ok (.iload_n 3, 1) := by decide +kernel
theorem dX11_records_125 : decode cX11_records 125 = .ok (.iconst 4, 1) := by decide +kernel
theorem dX11_records_126 : decode cX11_records 126 = .ok (.iadd, 1) := by decide +kernel
theorem dX11_records_127 : decode cX11_records 127 = .ok (.iload_n 2, 1) := by decide +kernel
theorem dX11_records_128 : decode cX11_records 128 = .ok (.ifCond .eq 7, 3) := by decide +kernel
theorem dX11_records_131 : decode cX11_records 131 = .ok (.iconst 1, 1) := by decide +kernel
theorem dX11_records_132 : decode cX11_records 132 = .ok (.goto 4, 3) := by decide +kernel
theorem dX11_records_135 : decode cX11_records 135 = .ok (.iconst 0, 1) := by decide +kernel
theorem dX11_records_136 : decode cX11_records 136 = .ok (.iastore, 1) := by decide +kernel
theorem dX11_records_137 : decode cX11_records 137 = .ok (.aload_n 0, 1) := by decide +kernel
theorem dX11_records_138 : decode cX11_records 138 = .ok (.getfield 9, 3) := by decide +kernel
theorem dX11_records_141 : decode cX11_records 141 = .ok (.bipush 12, 2) := by decide +kernel
theorem dX11_records_143 : decode cX11_records 143 = .ok (.dup2, 1) := by decide +kernel
theorem dX11_records_144 : decode cX11_records 144 = .ok (.iaload, 1) := by decide +kernel
theorem dX11_records_145 : decode cX11_records 145 = .ok (.iconst 1, 1) := by decide +kernel
theorem dX11_records_146 : decode cX11_records 146 = .ok (.iadd, 1) := by decide +kernel
theorem dX11_records_147 : decode cX11_records 147 = .ok (.iastore, 1) := by decide +kernel
theorem dX11_records_148 : decode cX11_records 148 = .ok (.return_, 1) := by decide +kernel
set_option maxRecDepth 100000 in
set_option maxHeartbeats 4000000 in
theorem m_X11_records (l : Launch) (D : va_G) (ct : Nat → ClassId) (S : ty_S) (ws : va_W) (ph : va_W → Prop) (xx : Nat → Nat → Nat → Prop) (mo : Nat) (mw : Nat) (ma : Nat) (mf : Nat) (m0 : Nat) (m1 : Nat) (mu : Nat) (mv : Nat) (u0 : Nat) (u1 : Nat) (iz : Nat) (mb : Nat) (th : Int32) (mn : Int32) (mpt : Int32) (mbg : Int32) (mwr : Int32) (mwk : Int32) (mlf : Int32) (men : Int32) (f : Nat → Int32) (G : Nat → Int32) (cx : Int) (p1 : Int32) (p2 : Int32) (sz : Nat) (hT : ty_V ct S ph ws) (h_mu : S mu = some (.inr (1, 42))) (h_mv : S mv = some (.inr (1, 42))) (h_u0 : S u0 = some (.inr (1, 42))) (h_u1 : S u1 = some (.inr (1, 42))) (hph : ty_C ph xx) (hy1 : ty_y1 xx) (hR : rf_R G cx f) (hc : 0 ≤ p1.toInt ∧ p1.toInt < (G 9).toInt) : Met l yX11_records (ws_ yX11_records cX11_records 4 none) ({ frames := 1, cells := 0, slots := 0, locals := 22 } : Room) (va_Pc [.ref mo, .int p1, .int p2] (cmP D ct sz ([(rf_MO mo mw ma mf m0 m1 mu mv u0 u1 iz th mb mn mpt mbg mwr mwk mlf men), (rf_RW ct 0 mw 958 f)] ++ ws))) (va_Qv (fun (u : va_W × (Nat → Int32)) => match u with | (u9, f1) => ty_V ct S ph u9 ∧ rf_d (f 8) f f1 ∧ rf_R G cx f1 ∧ rf_sm f f1) (cmB D ([(rf_MO mo mw ma mf m0 m1 mu mv u0 u1 iz th mb mn mpt mbg mwr mwk mlf men), (rf_RW ct 0 mw 958 f)] ++ ws) sz (fun (u : va_W × (Nat → Int32)) => match u with | (u9, f1) => ([(rf_MO mo mw ma mf m0 m1 mu mv u0 u1 iz th mb mn mpt mbg mwr mwk mlf men), (rf_RW ct 0 mw 958 f1)] ++ u9))) (va_A ([(rf_MO mo mw ma mf m0 m1 mu mv u0 u1 iz th mb mn mpt mbg mwr mwk mlf men), (rf_RW ct 0 mw 958 f)] ++ ws) sz)) 0 0 (va_A ([(rf_MO mo mw ma mf m0 m1 mu mv u0 u1 iz th mb mn mpt mbg mwr mwk mlf men), (rf_RW ct 0 mw 958 f)] ++ ws) sz) := by
  refine Met.ofW (cc := cX11_records) (maxL := 4) (ret := none) (by decide) rfl ?_
  intro p e s m args below meth c s₁ B hml hv
  obtain ⟨rfl, hsz, hP, hK, hD0, hX⟩ := hv
  have hx := B.exec
  have hb := B.bytes
  have hr := B.returns
  have hts := ws_all (atoms_spec (ws := ws_ yX11_records cX11_records 4 none) B.pre)
  have hown : s.vm.findClass RX11 = some m.cls := findClass_of_methodNamed B.named
  have hlocks := B.notSynchronized
  subst hsz
  have hD := hD0.self (sz := s.heap.size)
  generalize hAe : va_A ([(rf_MO mo mw ma mf m0 m1 mu mv u0 u1 iz th mb mn mpt mbg mwr mwk mlf men), (rf_RW ct 0 mw 958 f)] ++ ws) s.heap.size = A at hD hX ⊢
  have hA : ∀ q : Nat, s.heap.size ≤ q → A q := fun q h => by rw [← hAe]; exact Or.inr h
  have hS : va_S A s.heap s.heap [] := va_S.rf
  have hl := lv_entry ([.ref mo, .int p1, .int p2]) (n := 4) (Nat.le_of_ble_eq_true rfl)
  rw [lg_entry_eq]
  generalize (lg_sl ([.ref mo, .int p1, .int p2]) ++ List.replicate (4 - (lg_sl ([.ref mo, .int p1, .int p2])).length) Slot.unset).toArray = ls at hl ⊢
  have hl : lv_has ls 4 [(0, .ref mo), (1, .int p1), (2, .int p2)] := hl
  refine lv_aload_n hx hb dX11_records_0 rfl (lv_at hl 0 rfl) ?_
  refine va_get (v := .ref mw) (D := D) (ci := 11) (C := RX11) (T := TX11) (N := 19) hx hb hts in_X11 hown hK hP 0 rfl rfl 0 (by decide) (hts _ kl_RX11_9) (fun _ h9 => h9) rfl dX11_records_1 ?_
  refine lv_bipush (v := 12) hx hb dX11_records_4 (by decide) ?_
  refine va_iald hx hb hK hP 1 0 rfl rfl (cm_vin (by decide)) dX11_records_6 ?_
  refine cm_cst (y := (f 12)) (by first | rfl | decide +kernel) ?_
  refine lv_bipush (v := 30) hx hb dX11_records_7 (by decide) ?_
  refine lv_icmp_ne (tgt := 54) hx hb dX11_records_9 (by decide) (fun hc_1 => ?_) (fun hc_1 => ?_)
  · have hL_2 : 0 ≤ (f 12).toInt ∧ (f 12).toInt ≤ 29 := (rf_ne60 (N := 30) (by decide) hc_1 hR.2.2.1.1)
    refine lv_sipush (v := 568) hx hb dX11_records_54 (by decide) ?_
    refine lv_iconst (v := 5) hx hb dX11_records_57 (by decide) ?_
    refine lv_aload_n hx hb dX11_records_58 rfl (lv_at hl 0 rfl) ?_
    refine va_get (v := .ref mw) (D := D) (ci := 11) (C := RX11) (T := TX11) (N := 19) hx hb hts in_X11 hown hK hP 0 rfl rfl 0 (by decide) (hts _ kl_RX11_9) (fun _ h9 => h9) rfl dX11_records_59 ?_
    refine lv_bipush (v := 12) hx hb dX11_records_62 (by decide) ?_
    refine va_iald hx hb hK hP 1 0 rfl rfl (cm_vin (by decide)) dX11_records_64 ?_
    refine cm_cst (y := (f 12)) (by first | rfl | decide +kernel) ?_
    refine lv_imul hx hb dX11_records_65 ?_
    refine lv_iadd hx hb dX11_records_66 ?_
    refine lv_istore_n (lv' := [(3, .int (568 + (5 * (f 12)))), (0, .ref mo), (1, .int p1), (2, .int p2)]) hx hb dX11_records_67 rfl hl (by decide) rfl (fun ls hl => ?_)
    refine lv_aload_n hx hb dX11_records_68 rfl (lv_at hl 1 rfl) ?_
    refine va_get (v := .ref mw) (D := D) (ci := 11) (C := RX11) (T := TX11) (N := 19) hx hb hts in_X11 hown hK hP 0 rfl rfl 0 (by decide) (hts _ kl_RX11_9) (fun _ h9 => h9) rfl dX11_records_69 ?_
    refine lv_iload_n hx hb dX11_records_72 rfl (lv_at hl 0 rfl) ?_
    refine lv_iload_n hx hb dX11_records_73 rfl (lv_at hl 2 rfl) ?_
    refine va_iast hx hb hK hP hD hS 1 0 rfl rfl (rf_in1 (by have := (rf_nb0 (a := 568) (b := 5) (A := 568) (B := 5) (N := 29) (by decide) (by decide) hL_2 (by decide) (by decide) (by decide) (by decide)); omega)) dX11_records_74 (fun H locs hP hD hS => ?_)
    have hP : va_P D vwCl ([(rf_MO mo mw ma mf m0 m1 mu mv u0 u1 iz th mb mn mpt mbg mwr mwk mlf men), (rf_RW ct 0 mw 958 (upd f (568 + (5 * (f 12))).toNatClampNeg p1))] ++ ws) H := hP
    have hD : va_D A ([(rf_MO mo mw ma mf m0 m1 mu mv u0 u1 iz th mb mn mpt mbg mwr mwk mlf men), (rf_RW ct 0 mw 958 (upd f (568 + (5 * (f 12))).toNatClampNeg p1))] ++ ws) := hD
    have hU_4 : rf_R G cx (upd f (568 + (5 * (f 12))).toNatClampNeg p1) ∧ rf_sm f (upd f (568 + (5 * (f 12))).toNatClampNeg p1) := (rf_free _ hR (Or.inr (rf_ge (rf_nb0 (a := 568) (b := 5) (A := 568) (B := 5) (N := 29) (by decide) (by decide) hL_2 (by decide) (by decide) (by decide) (by decide)).1)))
    generalize hf_7 : (upd f (568 + (5 * (f 12))).toNatClampNeg p1) = f_3 at hP hD hU_4
    have hD_8 := rf_du (rf_dr f) hf_7 (by have := rf_ge (rf_nb0 (a := 568) (b := 5) (A := 568) (B := 5) (N := 29) (by decide) (by decide) hL_2 (by decide) (by decide) (by decide) (by decide)).1; omega)
    have hR_5 := hU_4.1
    have hM_6 := rf_smt (rf_smr f) hU_4.2
    have hq_9 : f_3 12 = f 12 := (rf_u17 hf_7 (rf_ge (rf_nb0 (a := 568) (b := 5) (A := 568) (B := 5) (N := 29) (by decide) (by decide) hL_2 (by decide) (by decide) (by decide) (by decide)).1) (by omega)).trans rfl
    refine lv_aload_n hx hb dX11_records_75 rfl (lv_at hl 1 rfl) ?_
    refine va_get (v := .ref mw) (D := D) (ci := 11) (C := RX11) (T := TX11) (N := 19) hx hb hts in_X11 hown hK hP 0 rfl rfl 0 (by decide) (hts _ kl_RX11_9) (fun _ h9 => h9) rfl dX11_records_76 ?_
    refine lv_iload_n hx hb dX11_records_79 rfl (lv_at hl 0 rfl) ?_
    refine lv_iconst (v := 1) hx hb dX11_records_80 (by decide) ?_
    refine lv_iadd hx hb dX11_records_81 ?_
    refine lv_aload_n hx hb dX11_records_82 rfl (lv_at hl 1 rfl) ?_
    refine lv_iload_n hx hb dX11_records_83 rfl (lv_at hl 2 rfl) ?_
    refine lv_iconst (v := 4) hx hb dX11_records_84 (by decide) ?_
    have hP : va_P D vwCl ([(rf_RW ct 0 mw 958 f_3), (rf_MO mo mw ma mf m0 m1 mu mv u0 u1 iz th mb mn mpt mbg mwr mwk mlf men)] ++ ws) H := ty_permP hP (ty_ordp (E := [(rf_MO mo mw ma mf m0 m1 mu mv u0 u1 iz th mb mn mpt mbg mwr mwk mlf men), (rf_RW ct 0 mw 958 f_3)]) (E2 := [(rf_RW ct 0 mw 958 f_3), (rf_MO mo mw ma mf m0 m1 mu mv u0 u1 iz th mb mn mpt mbg mwr mwk mlf men)]) (n := 2) [1, 0] rfl rfl (by decide))
    have hD : va_D A ([(rf_RW ct 0 mw 958 f_3), (rf_MO mo mw ma mf m0 m1 mu mv u0 u1 iz th mb mn mpt mbg mwr mwk mlf men)] ++ ws) := ty_permD hD (ty_ordp (E := [(rf_MO mo mw ma mf m0 m1 mu mv u0 u1 iz th mb mn mpt mbg mwr mwk mlf men), (rf_RW ct 0 mw 958 f_3)]) (E2 := [(rf_RW ct 0 mw 958 f_3), (rf_MO mo mw ma mf m0 m1 mu mv u0 u1 iz th mb mn mpt mbg mwr mwk mlf men)]) (n := 2) [1, 0] rfl rfl (by decide))
    refine ty_kl (wr := [(rf_RW ct 0 mw 958 f_3)]) (wc := ([(rf_MO mo mw ma mf m0 m1 mu mv u0 u1 iz th mb mn mpt mbg mwr mwk mlf men)] ++ ws)) (va_runV (As := [.int p1, .int 4]) (rest := [.int ((568 + (5 * (f 12))) + 1), .ref mw]) ⟨hx, hb, hml, hown, hts⟩ (m_X11_sum l D ct S ws ph xx mo mw ma mf m0 m1 mu mv u0 u1 iz mb th mn mpt mbg mwr mwk mlf men p1 (4 : Int32) _ hT h_mu h_mv h_u0 h_u1 hph hy1 (rf_c6 hR_5 hc) (by decide)) (cm_V 2 hts kc_X11_sum ki_RX11 kl_RX11_261 kv_X11_sum kx_X11_sum kd_X11_sum ⟨Nat.le_of_ble_eq_true rfl, Nat.le_of_ble_eq_true rfl⟩) (ty_preE (wr := [(rf_RW ct 0 mw 958 f_3)]) (wc := ([(rf_MO mo mw ma mf m0 m1 mu mv u0 u1 iz th mb mn mpt mbg mwr mwk mlf men)] ++ ws)) (ci := 11) (q0 := 1) hP hK hD hS hA hX rfl rfl) rfl rfl hl.1 rfl (lv_room (Nat.le_of_ble_eq_true rfl)) dX11_records_85 ⟨Nat.le_of_ble_eq_true rfl, Nat.le_of_ble_eq_true rfl⟩) hP hD hS hA (fun r_10 u H locs hw_11 hP hD hS => ?_)
    obtain ⟨ws_12, rfl⟩ : ∃ z, z = u := ⟨_, rfl⟩
    have hT := hw_11
    have hP : va_P D vwCl ([(rf_RW ct 0 mw 958 f_3), (rf_MO mo mw ma mf m0 m1 mu mv u0 u1 iz th mb mn mpt mbg mwr mwk mlf men)] ++ ws_12) H := hP
    have hD : va_D A ([(rf_RW ct 0 mw 958 f_3), (rf_MO mo mw ma mf m0 m1 mu mv u0 u1 iz th mb mn mpt mbg mwr mwk mlf men)] ++ ws_12) := hD
    refine lv_l2i hx hb dX11_records_88 rfl ?_
    refine lv_topi (fun x_13 _ => ?_)
    refine va_iast hx hb hK hP hD hS 0 0 rfl rfl (rf_in1 (by have := (rf_nb (a := 568) (b := 5) (A := 568) (B := 5) (N := 29) (k := 1) (K := 1) (by decide) (by decide) (by decide) hL_2 (by decide) (by decide) (by decide) (by decide) (by decide)); omega)) dX11_records_89 (fun H locs hP hD hS => ?_)
    have hP : va_P D vwCl ([(rf_RW ct 0 mw 958 (upd f_3 ((568 + (5 * (f 12))) + 1).toNatClampNeg x_13)), (rf_MO mo mw ma mf m0 m1 mu mv u0 u1 iz th mb mn mpt mbg mwr mwk mlf men)] ++ ws_12) H := hP
    have hD : va_D A ([(rf_RW ct 0 mw 958 (upd f_3 ((568 + (5 * (f 12))) + 1).toNatClampNeg x_13)), (rf_MO mo mw ma mf m0 m1 mu mv u0 u1 iz th mb mn mpt mbg mwr mwk mlf men)] ++ ws_12) := hD
    have hU_15 : rf_R G cx (upd f_3 ((568 + (5 * (f 12))) + 1).toNatClampNeg x_13) ∧ rf_sm f_3 (upd f_3 ((568 + (5 * (f 12))) + 1).toNatClampNeg x_13) := (rf_free _ hR_5 (Or.inr (rf_ge (rf_nb (a := 568) (b := 5) (A := 568) (B := 5) (N := 29) (k := 1) (K := 1) (by decide) (by decide) (by decide) hL_2 (by decide) (by decide) (by decide) (by decide) (by decide)).1)))
    generalize hf_18 : (upd f_3 ((568 + (5 * (f 12))) + 1).toNatClampNeg x_13) = f_14 at hP hD hU_15
    have hD_19 := rf_du hD_8 hf_18 (by have := rf_ge (rf_nb (a := 568) (b := 5) (A := 568) (B := 5) (N := 29) (k := 1) (K := 1) (by decide) (by decide) (by decide) hL_2 (by decide) (by decide) (by decide) (by decide) (by decide)).1; omega)
    have hR_16 := hU_15.1
    have hM_17 := rf_smt hM_6 hU_15.2
    have hq_20 : f_14 12 = f 12 := (rf_u17 hf_18 (rf_ge (rf_nb (a := 568) (b := 5) (A := 568) (B := 5) (N := 29) (k := 1) (K := 1) (by decide) (by decide) (by decide) hL_2 (by decide) (by decide) (by decide) (by decide) (by decide)).1) (by omega)).trans hq_9
    refine lv_aload_n hx hb dX11_records_90 rfl (lv_at hl 1 rfl) ?_
    refine va_get (v := .ref mw) (D := D) (ci := 11) (C := RX11) (T := TX11) (N := 19) hx hb hts in_X11 hown hK hP 1 rfl rfl 0 (by decide) (hts _ kl_RX11_9) (fun _ h9 => h9) rfl dX11_records_91 ?_
    refine lv_iload_n hx hb dX11_records_94 rfl (lv_at hl 0 rfl) ?_
    refine lv_iconst (v := 2) hx hb dX11_records_95 (by decide) ?_
    refine lv_iadd hx hb dX11_records_96 ?_
    refine lv_aload_n hx hb dX11_records_97 rfl (lv_at hl 1 rfl) ?_
    refine lv_iload_n hx hb dX11_records_98 rfl (lv_at hl 2 rfl) ?_
    refine lv_iconst (v := 5) hx hb dX11_records_99 (by decide) ?_
    refine ty_kl (wr := [(rf_RW ct 0 mw 958 f_14)]) (wc := ([(rf_MO mo mw ma mf m0 m1 mu mv u0 u1 iz th mb mn mpt mbg mwr mwk mlf men)] ++ ws_12)) (va_runV (As := [.int p1, .int 5]) (rest := [.int ((568 + (5 * (f 12))) + 2), .ref mw]) ⟨hx, hb, hml, hown, hts⟩ (m_X11_sum l D ct S ws_12 ph xx mo mw ma mf m0 m1 mu mv u0 u1 iz mb th mn mpt mbg mwr mwk mlf men p1 (5 : Int32) _ hT h_mu h_mv h_u0 h_u1 hph hy1 (rf_c6 hR_16 hc) (by decide)) (cm_V 2 hts kc_X11_sum ki_RX11 kl_RX11_261 kv_X11_sum kx_X11_sum kd_X11_sum ⟨Nat.le_of_ble_eq_true rfl, Nat.le_of_ble_eq_true rfl⟩) (ty_preE (wr := [(rf_RW ct 0 mw 958 f_14)]) (wc := ([(rf_MO mo mw ma mf m0 m1 mu mv u0 u1 iz th mb mn mpt mbg mwr mwk mlf men)] ++ ws_12)) (ci := 11) (q0 := 1) hP hK hD hS hA hX rfl rfl) rfl rfl hl.1 rfl (lv_room (Nat.le_of_ble_eq_true rfl)) dX11_records_100 ⟨Nat.le_of_ble_eq_true rfl, Nat.le_of_ble_eq_true rfl⟩) hP hD hS hA (fun r_21 u H locs hw_22 hP hD hS => ?_)
    obtain ⟨ws_23, rfl⟩ : ∃ z, z = u := ⟨_, rfl⟩
    have hT := hw_22
    have hP : va_P D vwCl ([(rf_RW ct 0 mw 958 f_14), (rf_MO mo mw ma mf m0 m1 mu mv u0 u1 iz th mb mn mpt mbg mwr mwk mlf men)] ++ ws_23) H := hP
    have hD : va_D A ([(rf_RW ct 0 mw 958 f_14), (rf_MO mo mw ma mf m0 m1 mu mv u0 u1 iz th mb mn mpt mbg mwr mwk mlf men)] ++ ws_23) := hD
    refine lv_l2i hx hb dX11_records_103 rfl ?_
    refine lv_topi (fun x_24 _ => ?_)
    refine va_iast hx hb hK hP hD hS 0 0 rfl rfl (rf_in1 (by have := (rf_nb (a := 568) (b := 5) (A := 568) (B := 5) (N := 29) (k := 2) (K := 2) (by decide) (by decide) (by decide) hL_2 (by decide) (by decide) (by decide) (by decide) (by decide)); omega)) dX11_records_104 (fun H locs hP hD hS => ?_)
    have hP : va_P D vwCl ([(rf_RW ct 0 mw 958 (upd f_14 ((568 + (5 * (f 12))) + 2).toNatClampNeg x_24)), (rf_MO mo mw ma mf m0 m1 mu mv u0 u1 iz th mb mn mpt mbg mwr mwk mlf men)] ++ ws_23) H := hP
    have hD : va_D A ([(rf_RW ct 0 mw 958 (upd f_14 ((568 + (5 * (f 12))) + 2).toNatClampNeg x_24)), (rf_MO mo mw ma mf m0 m1 mu mv u0 u1 iz th mb mn mpt mbg mwr mwk mlf men)] ++ ws_23) := hD
    have hU_26 : rf_R G cx (upd f_14 ((568 + (5 * (f 12))) + 2).toNatClampNeg x_24) ∧ rf_sm f_14 (upd f_14 ((568 + (5 * (f 12))) + 2).toNatClampNeg x_24) := (rf_free _ hR_16 (Or.inr (rf_ge (rf_nb (a := 568) (b := 5) (A := 568) (B := 5) (N := 29) (k := 2) (K := 2) (by decide) (by decide) (by decide) hL_2 (by decide) (by decide) (by decide) (by decide) (by decide)).1)))
    generalize hf_29 : (upd f_14 ((568 + (5 * (f 12))) + 2).toNatClampNeg x_24) = f_25 at hP hD hU_26
    have hD_30 := rf_du hD_19 hf_29 (by have := rf_ge (rf_nb (a := 568) (b := 5) (A := 568) (B := 5) (N := 29) (k := 2) (K := 2) (by decide) (by decide) (by decide) hL_2 (by decide) (by decide) (by decide) (by decide) (by decide)).1; omega)
    have hR_27 := hU_26.1
    have hM_28 := rf_smt hM_17 hU_26.2
    have hq_31 : f_25 12 = f 12 := (rf_u17 hf_29 (rf_ge (rf_nb (a := 568) (b := 5) (A := 568) (B := 5) (N := 29) (k := 2) (K := 2) (by decide) (by decide) (by decide) hL_2 (by decide) (by decide) (by decide) (by decide) (by decide)).1) (by omega)).trans hq_20
    refine lv_aload_n hx hb dX11_records_105 rfl (lv_at hl 1 rfl) ?_
    refine va_get (v := .ref mw) (D := D) (ci := 11) (C := RX11) (T := TX11) (N := 19) hx hb hts in_X11 hown hK hP 1 rfl rfl 0 (by decide) (hts _ kl_RX11_9) (fun _ h9 => h9) rfl dX11_records_106 ?_
    refine lv_iload_n hx hb dX11_records_109 rfl (lv_at hl 0 rfl) ?_
    refine lv_iconst (v := 3) hx hb dX11_records_110 (by decide) ?_
    refine lv_iadd hx hb dX11_records_111 ?_
    refine lv_aload_n hx hb dX11_records_112 rfl (lv_at hl 1 rfl) ?_
    refine va_get (v := .ref mw) (D := D) (ci := 11) (C := RX11) (T := TX11) (N := 19) hx hb hts in_X11 hown hK hP 1 rfl rfl 0 (by decide) (hts _ kl_RX11_9) (fun _ h9 => h9) rfl dX11_records_113 ?_
    refine lv_bipush (v := 8) hx hb dX11_records_116 (by decide) ?_
    refine va_iald hx hb hK hP 0 0 rfl rfl (cm_vin (by decide)) dX11_records_118 ?_
    refine cm_cst (y := (f_25 8)) (by first | rfl | decide +kernel) ?_
    refine va_iast hx hb hK hP hD hS 0 0 rfl rfl (rf_in1 (by have := (rf_nb (a := 568) (b := 5) (A := 568) (B := 5) (N := 29) (k := 3) (K := 3) (by decide) (by decide) (by decide) hL_2 (by decide) (by decide) (by decide) (by decide) (by decide)); omega)) dX11_records_119 (fun H locs hP hD hS => ?_)
    have hP : va_P D vwCl ([(rf_RW ct 0 mw 958 (upd f_25 ((568 + (5 * (f 12))) + 3).toNatClampNeg (f_25 8))), (rf_MO mo mw ma mf m0 m1 mu mv u0 u1 iz th mb mn mpt mbg mwr mwk mlf men)] ++ ws_23) H := hP
    have hD : va_D A ([(rf_RW ct 0 mw 958 (upd f_25 ((568 + (5 * (f 12))) + 3).toNatClampNeg (f_25 8))), (rf_MO mo mw ma mf m0 m1 mu mv u0 u1 iz th mb mn mpt mbg mwr mwk mlf men)] ++ ws_23) := hD
    have hU_33 : rf_R G cx (upd f_25 ((568 + (5 * (f 12))) + 3).toNatClampNeg (f_25 8)) ∧ rf_sm f_25 (upd f_25 ((568 + (5 * (f 12))) + 3).toNatClampNeg (f_25 8)) := (rf_free _ hR_27 (Or.inr (rf_ge (rf_nb (a := 568) (b := 5) (A := 568) (B := 5) (N := 29) (k := 3) (K := 3) (by decide) (by decide) (by decide) hL_2 (by decide) (by decide) (by decide) (by decide) (by decide)).1)))
    generalize hf_36 : (upd f_25 ((568 + (5 * (f 12))) + 3).toNatClampNeg (f_25 8)) = f_32 at hP hD hU_33
    have hD_37 := rf_du hD_30 hf_36 (by have := rf_ge (rf_nb (a := 568) (b := 5) (A := 568) (B := 5) (N := 29) (k := 3) (K := 3) (by decide) (by decide) (by decide) hL_2 (by decide) (by decide) (by decide) (by decide) (by decide)).1; omega)
    have hR_34 := hU_33.1
    have hM_35 := rf_smt hM_28 hU_33.2
    have hq_38 : f_32 12 = f 12 := (rf_u17 hf_36 (rf_ge (rf_nb (a := 568) (b := 5) (A := 568) (B := 5) (N := 29) (k := 3) (K := 3) (by decide) (by decide) (by decide) hL_2 (by decide) (by decide) (by decide) (by decide) (by decide)).1) (by omega)).trans hq_31
    refine lv_aload_n hx hb dX11_records_120 rfl (lv_at hl 1 rfl) ?_
    refine va_get (v := .ref mw) (D := D) (ci := 11) (C := RX11) (T := TX11) (N := 19) hx hb hts in_X11 hown hK hP 1 rfl rfl 0 (by decide) (hts _ kl_RX11_9) (fun _ h9 => h9) rfl dX11_records_121 ?_
    refine lv_iload_n hx hb dX11_records_124 rfl (lv_at hl 0 rfl) ?_
    refine lv_iconst (v := 4) hx hb dX11_records_125 (by decide) ?_
    refine lv_iadd hx hb dX11_records_126 ?_
    refine lv_iload_n hx hb dX11_records_127 rfl (lv_at hl 3 rfl) ?_
    refine lv_if_eq (tgt := 135) hx hb dX11_records_128 (by decide) (fun hc_39 => ?_) (fun hc_39 => ?_)
    · refine lv_iconst (v := 0) hx hb dX11_records_135 (by decide) ?_
      refine va_iast hx hb hK hP hD hS 0 0 rfl rfl (rf_in1 (by have := (rf_nb (a := 568) (b := 5) (A := 568) (B := 5) (N := 29) (k := 4) (K := 4) (by decide) (by decide) (by decide) hL_2 (by decide) (by decide) (by decide) (by decide) (by decide)); omega)) dX11_records_136 (fun H locs hP hD hS => ?_)
      have hP : va_P D vwCl ([(rf_RW ct 0 mw 958 (upd f_32 ((568 + (5 * (f 12))) + 4).toNatClampNeg 0)), (rf_MO mo mw ma mf m0 m1 mu mv u0 u1 iz th mb mn mpt mbg mwr mwk mlf men)] ++ ws_23) H := hP
      have hD : va_D A ([(rf_RW ct 0 mw 958 (upd f_32 ((568 + (5 * (f 12))) + 4).toNatClampNeg 0)), (rf_MO mo mw ma mf m0 m1 mu mv u0 u1 iz th mb mn mpt mbg mwr mwk mlf men)] ++ ws_23) := hD
      have hU_41 : rf_R G cx (upd f_32 ((568 + (5 * (f 12))) + 4).toNatClampNeg 0) ∧ rf_sm f_32 (upd f_32 ((568 + (5 * (f 12))) + 4).toNatClampNeg 0) := (rf_free _ hR_34 (Or.inr (rf_ge (rf_nb (a := 568) (b := 5) (A := 568) (B := 5) (N := 29) (k := 4) (K := 4) (by decide) (by decide) (by decide) hL_2 (by decide) (by decide) (by decide) (by decide) (by decide)).1)))
      generalize hf_44 : (upd f_32 ((568 + (5 * (f 12))) + 4).toNatClampNeg 0) = f_40 at hP hD hU_41
      have hD_45 := rf_du hD_37 hf_44 (by have := rf_ge (rf_nb (a := 568) (b := 5) (A := 568) (B := 5) (N := 29) (k := 4) (K := 4) (by decide) (by decide) (by decide) hL_2 (by decide) (by decide) (by decide) (by decide) (by decide)).1; omega)
      have hR_42 := hU_41.1
      have hM_43 := rf_smt hM_35 hU_41.2
      have hq_46 : f_40 12 = f 12 := (rf_u17 hf_44 (rf_ge (rf_nb (a := 568) (b := 5) (A := 568) (B := 5) (N := 29) (k := 4) (K := 4) (by decide) (by decide) (by decide) hL_2 (by decide) (by decide) (by decide) (by decide) (by decide)).1) (by omega)).trans hq_38
      refine lv_aload_n hx hb dX11_records_137 rfl (lv_at hl 1 rfl) ?_
      refine va_get (v := .ref mw) (D := D) (ci := 11) (C := RX11) (T := TX11) (N := 19) hx hb hts in_X11 hown hK hP 1 rfl rfl 0 (by decide) (hts _ kl_RX11_9) (fun _ h9 => h9) rfl dX11_records_138 ?_
      refine lv_bipush (v := 12) hx hb dX11_records_141 (by decide) ?_
      refine lv_dup2_11 hx hb dX11_records_143 rfl rfl ?_
      refine va_iald hx hb hK hP 0 0 rfl rfl (cm_vin (by decide)) dX11_records_144 ?_
      refine cm_cst (y := (f_40 12)) (by first | rfl | decide +kernel) ?_
      refine lv_iconst (v := 1) hx hb dX11_records_145 (by decide) ?_
      refine lv_iadd hx hb dX11_records_146 ?_
      refine va_iast hx hb hK hP hD hS 0 0 rfl rfl (cm_vin (by decide)) dX11_records_147 (fun H locs hP hD hS => ?_)
      have hP : va_P D vwCl ([(rf_RW ct 0 mw 958 (upd f_40 (12 : Int32).toNatClampNeg ((f_40 12) + 1))), (rf_MO mo mw ma mf m0 m1 mu mv u0 u1 iz th mb mn mpt mbg mwr mwk mlf men)] ++ ws_23) H := hP
      have hD : va_D A ([(rf_RW ct 0 mw 958 (upd f_40 (12 : Int32).toNatClampNeg ((f_40 12) + 1))), (rf_MO mo mw ma mf m0 m1 mu mv u0 u1 iz th mb mn mpt mbg mwr mwk mlf men)] ++ ws_23) := hD
      have hU_48 : rf_R G cx (upd f_40 (12 : Int32).toNatClampNeg ((f_40 12) + 1)) ∧ rf_sm f_40 (upd f_40 (12 : Int32).toNatClampNeg ((f_40 12) + 1)) := (rf_num12 hR_42 (by rw [hq_46]; have := rf_inc9 hL_2 (by omega) (by omega); omega))
      generalize hf_51 : (upd f_40 (12 : Int32).toNatClampNeg ((f_40 12) + 1)) = f_47 at hP hD hU_48
      have hD_52 := rf_du hD_45 hf_51 (by decide)
      have hR_49 := hU_48.1
      have hM_50 := rf_smt hM_43 hU_48.2
      have hP : va_P D vwCl ([(rf_MO mo mw ma mf m0 m1 mu mv u0 u1 iz th mb mn mpt mbg mwr mwk mlf men), (rf_RW ct 0 mw 958 f_47)] ++ ws_23) H := ty_permP hP (ty_ordp (E := [(rf_RW ct 0 mw 958 f_47), (rf_MO mo mw ma mf m0 m1 mu mv u0 u1 iz th mb mn mpt mbg mwr mwk mlf men)]) (E2 := [(rf_MO mo mw ma mf m0 m1 mu mv u0 u1 iz th mb mn mpt mbg mwr mwk mlf men), (rf_RW ct 0 mw 958 f_47)]) (n := 2) [1, 0] rfl rfl (by decide))
      have hD : va_D A ([(rf_MO mo mw ma mf m0 m1 mu mv u0 u1 iz th mb mn mpt mbg mwr mwk mlf men), (rf_RW ct 0 mw 958 f_47)] ++ ws_23) := ty_permD hD (ty_ordp (E := [(rf_RW ct 0 mw 958 f_47), (rf_MO mo mw ma mf m0 m1 mu mv u0 u1 iz th mb mn mpt mbg mwr mwk mlf men)]) (E2 := [(rf_MO mo mw ma mf m0 m1 mu mv u0 u1 iz th mb mn mpt mbg mwr mwk mlf men), (rf_RW ct 0 mw 958 f_47)]) (n := 2) [1, 0] rfl rfl (by decide))
      exact W.vret hx hb hr (fun t ht hW => ⟨⟨(ws_23, f_47), rfl, ⟨hT, ⟨hD_52, hR_49, hM_50⟩⟩, by rw [ht]; exact hP, by rw [hAe]; exact hD⟩, hS.F ht⟩) hS.2.2 dX11_records_148
    · refine lv_iconst (v := 1) hx hb dX11_records_131 (by decide) ?_
      refine lv_goto (tgt := 136) hx hb dX11_records_132 (by decide) ?_
      refine va_iast hx hb hK hP hD hS 0 0 rfl rfl (rf_in1 (by have := (rf_nb (a := 568) (b := 5) (A := 568) (B := 5) (N := 29) (k := 4) (K := 4) (by decide) (by decide) (by decide) hL_2 (by decide) (by decide) (by decide) (by decide) (by decide)); omega)) dX11_records_136 (fun H locs hP hD hS => ?_)
      have hP : va_P D vwCl ([(rf_RW ct 0 mw 958 (upd f_32 ((568 + (5 * (f 12))) + 4).toNatClampNeg 1)), (rf_MO mo mw ma mf m0 m1 mu mv u0 u1 iz th mb mn mpt mbg mwr mwk mlf men)] ++ ws_23) H := hP
      have hD : va_D A ([(rf_RW ct 0 mw 958 (upd f_32 ((568 + (5 * (f 12))) + 4).toNatClampNeg 1)), (rf_MO mo mw ma mf m0 m1 mu mv u0 u1 iz th mb mn mpt mbg mwr mwk mlf men)] ++ ws_23) := hD
      have hU_54 : rf_R G cx (upd f_32 ((568 + (5 * (f 12))) + 4).toNatClampNeg 1) ∧ rf_sm f_32 (upd f_32 ((568 + (5 * (f 12))) + 4).toNatClampNeg 1) := (rf_free _ hR_34 (Or.inr (rf_ge (rf_nb (a := 568) (b := 5) (A := 568) (B := 5) (N := 29) (k := 4) (K := 4) (by decide) (by decide) (by decide) hL_2 (by decide) (by decide) (by decide) (by decide) (by decide)).1)))
      generalize hf_57 : (upd f_32 ((568 + (5 * (f 12))) + 4).toNatClampNeg 1) = f_53 at hP hD hU_54
      have hD_58 := rf_du hD_37 hf_57 (by have := rf_ge (rf_nb (a := 568) (b := 5) (A := 568) (B := 5) (N := 29) (k := 4) (K := 4) (by decide) (by decide) (by decide) hL_2 (by decide) (by decide) (by decide) (by decide) (by decide)).1; omega)
      have hR_55 := hU_54.1
      have hM_56 := rf_smt hM_35 hU_54.2
      have hq_59 : f_53 12 = f 12 := (rf_u17 hf_57 (rf_ge (rf_nb (a := 568) (b := 5) (A := 568) (B := 5) (N := 29) (k := 4) (K := 4) (by decide) (by decide) (by decide) hL_2 (by decide) (by decide) (by decide) (by decide) (by decide)).1) (by omega)).trans hq_38
      refine lv_aload_n hx hb dX11_records_137 rfl (lv_at hl 1 rfl) ?_
      refine va_get (v := .ref mw) (D := D) (ci := 11) (C := RX11) (T := TX11) (N := 19) hx hb hts in_X11 hown hK hP 1 rfl rfl 0 (by decide) (hts _ kl_RX11_9) (fun _ h9 => h9) rfl dX11_records_138 ?_
      refine lv_bipush (v := 12) hx hb dX11_records_141 (by decide) ?_
      refine lv_dup2_11 hx hb dX11_records_143 rfl rfl ?_
      refine va_iald hx hb hK hP 0 0 rfl rfl (cm_vin (by decide)) dX11_records_144 ?_
      refine cm_cst (y := (f_53 12)) (by first | rfl | decide +kernel) ?_
      refine lv_iconst (v := 1) hx hb dX11_records_145 (by decide) ?_
      refine lv_iadd hx hb dX11_records_146 ?_
      refine va_iast hx hb hK hP hD hS 0 0 rfl rfl (cm_vin (by decide)) dX11_records_147 (fun H locs hP hD hS => ?_)
      have hP : va_P D vwCl ([(rf_RW ct 0 mw 958 (upd f_53 (12 : Int32).toNatClampNeg ((f_53 12) + 1))), (rf_MO mo mw ma mf m0 m1 mu mv u0 u1 iz th mb mn mpt mbg mwr mwk mlf men)] ++ ws_23) H := hP
      have hD : va_D A ([(rf_RW ct 0 mw 958 (upd f_53 (12 : Int32).toNatClampNeg ((f_53 12) + 1))), (rf_MO mo mw ma mf m0 m1 mu mv u0 u1 iz th mb mn mpt mbg mwr mwk mlf men)] ++ ws_23) := hD
      have hU_61 : rf_R G cx (upd f_53 (12 : Int32).toNatClampNeg ((f_53 12) + 1)) ∧ rf_sm f_53 (upd f_53 (12 : Int32).toNatClampNeg ((f_53 12) + 1)) := (rf_num12 hR_55 (by rw [hq_59]; have := rf_inc9 hL_2 (by omega) (by omega); omega))
      generalize hf_64 : (upd f_53 (12 : Int32).toNatClampNeg ((f_53 12) + 1)) = f_60 at hP hD hU_61
      have hD_65 := rf_du hD_58 hf_64 (by decide)
      have hR_62 := hU_61.1
      have hM_63 := rf_smt hM_56 hU_61.2
      have hP : va_P D vwCl ([(rf_MO mo mw ma mf m0 m1 mu mv u0 u1 iz th mb mn mpt mbg mwr mwk mlf men), (rf_RW ct 0 mw 958 f_60)] ++ ws_23) H := ty_permP hP (ty_ordp (E := [(rf_RW ct 0 mw 958 f_60), (rf_MO mo mw ma mf m0 m1 mu mv u0 u1 iz th mb mn mpt mbg mwr mwk mlf men)]) (E2 := [(rf_MO mo mw ma mf m0 m1 mu mv u0 u1 iz th mb mn mpt mbg mwr mwk mlf men), (rf_RW ct 0 mw 958 f_60)]) (n := 2) [1, 0] rfl rfl (by decide))
      have hD : va_D A ([(rf_MO mo mw ma mf m0 m1 mu mv u0 u1 iz th mb mn mpt mbg mwr mwk mlf men), (rf_RW ct 0 mw 958 f_60)] ++ ws_23) := ty_permD hD (ty_ordp (E := [(rf_RW ct 0 mw 958 f_60), (rf_MO mo mw ma mf m0 m1 mu mv u0 u1 iz th mb mn mpt mbg mwr mwk mlf men)]) (E2 := [(rf_MO mo mw ma mf m0 m1 mu mv u0 u1 iz th mb mn mpt mbg mwr mwk mlf men), (rf_RW ct 0 mw 958 f_60)]) (n := 2) [1, 0] rfl rfl (by decide))
      exact W.vret hx hb hr (fun t ht hW => ⟨⟨(ws_23, f_60), rfl, ⟨hT, ⟨hD_65, hR_62, hM_63⟩⟩, by rw [ht]; exact hP, by rw [hAe]; exact hD⟩, hS.F ht⟩) hS.2.2 dX11_records_148
  · refine lv_sipush (v := 568) hx hb dX11_records_12 (by decide) ?_
    refine lv_istore_n (lv' := [(3, .int 568), (0, .ref mo), (1, .int p1), (2, .int p2)]) hx hb dX11_records_15 rfl hl (by decide) rfl (fun ls hl => ?_)
    refine ty_loop (I := fun μ H locs ls => ∃ (ws : va_W) (y_66 : Int32) (f_67 : Nat → Int32), μ = (2147483648 - y_66.toInt).toNat ∧ ty_V ct S ph ws ∧ va_P D vwCl ([(rf_MO mo mw ma mf m0 m1 mu mv u0 u1 iz th mb mn mpt mbg mwr mwk mlf men), (rf_RW ct 0 mw 958 f_67)] ++ ws) H ∧ va_D A ([(rf_MO mo mw ma mf m0 m1 mu mv u0 u1 iz th mb mn mpt mbg mwr mwk mlf men), (rf_RW ct 0 mw 958 f_67)] ++ ws) ∧ va_S A s.heap H locs ∧ lv_has ls 4 [(0, .ref mo), (1, .int p1), (2, .int p2), (3, .int y_66)] ∧ rf_R G cx f_67 ∧ rf_sm f f_67 ∧ rf_d (f 8) f f_67 ∧ (568 ≤ y_66.toInt ∧ y_66.toInt ≤ 713) ∧ f_67 12 = 30) ⟨_, ws, (568 : Int32), f, rfl, hT, hP, hD, hS, (lv_sub hl [1, 2, 3, 0] rfl), hR, (rf_smr f), (rf_dr f), ⟨by decide, by decide⟩, hc_1⟩ (fun μ H locs ls hI ih_16 => ?_)
    obtain ⟨ws, y_66, f_67, rfl, hT, hP, hD, hS, hl, hR_16, hM_16, hD_16, hex_16⟩ := hI
    refine lv_iload_n hx hb dX11_records_16 rfl (lv_at hl 3 rfl) ?_
    refine lv_sipush (v := 713) hx hb dX11_records_17 (by decide) ?_
    refine lv_icmp_ge (tgt := 43) hx hb dX11_records_20 (by decide) (fun hc_68 => ?_) (fun hc_68 => ?_)
    · refine lv_aload_n hx hb dX11_records_43 rfl (lv_at hl 0 rfl) ?_
      refine va_get (v := .ref mw) (D := D) (ci := 11) (C := RX11) (T := TX11) (N := 19) hx hb hts in_X11 hown hK hP 0 rfl rfl 0 (by decide) (hts _ kl_RX11_9) (fun _ h9 => h9) rfl dX11_records_44 ?_
      refine lv_bipush (v := 12) hx hb dX11_records_47 (by decide) ?_
      refine lv_dup2_11 hx hb dX11_records_49 rfl rfl ?_
      refine va_iald hx hb hK hP 1 0 rfl rfl (cm_vin (by decide)) dX11_records_50 ?_
      refine cm_cst (y := (f_67 12)) (by first | rfl | decide +kernel) ?_
      refine lv_iconst (v := 1) hx hb dX11_records_51 (by decide) ?_
      refine lv_isub hx hb dX11_records_52 ?_
      refine va_iast hx hb hK hP hD hS 1 0 rfl rfl (cm_vin (by decide)) dX11_records_53 (fun H locs hP hD hS => ?_)
      have hP : va_P D vwCl ([(rf_MO mo mw ma mf m0 m1 mu mv u0 u1 iz th mb mn mpt mbg mwr mwk mlf men), (rf_RW ct 0 mw 958 (upd f_67 (12 : Int32).toNatClampNeg ((f_67 12) - 1)))] ++ ws) H := hP
      have hD : va_D A ([(rf_MO mo mw ma mf m0 m1 mu mv u0 u1 iz th mb mn mpt mbg mwr mwk mlf men), (rf_RW ct 0 mw 958 (upd f_67 (12 : Int32).toNatClampNeg ((f_67 12) - 1)))] ++ ws) := hD
      have hU_70 : rf_R G cx (upd f_67 (12 : Int32).toNatClampNeg ((f_67 12) - 1)) ∧ rf_sm f_67 (upd f_67 (12 : Int32).toNatClampNeg ((f_67 12) - 1)) := (rf_num12 hR_16 (by rw [hex_16.2]; decide))
      generalize hf_73 : (upd f_67 (12 : Int32).toNatClampNeg ((f_67 12) - 1)) = f_69 at hP hD hU_70
      have hD_74 := rf_du hD_16 hf_73 (by decide)
      have hR_71 := hU_70.1
      have hM_72 := rf_smt hM_16 hU_70.2
      have hL_75 : 0 ≤ (f_69 12).toInt ∧ (f_69 12).toInt ≤ 29 := (by rw [rf_at12 hf_73, hex_16.2]; decide)
      refine lv_sipush (v := 568) hx hb dX11_records_54 (by decide) ?_
      refine lv_iconst (v := 5) hx hb dX11_records_57 (by decide) ?_
      refine lv_aload_n hx hb dX11_records_58 rfl (lv_at hl 0 rfl) ?_
      refine va_get (v := .ref mw) (D := D) (ci := 11) (C := RX11) (T := TX11) (N := 19) hx hb hts in_X11 hown hK hP 0 rfl rfl 0 (by decide) (hts _ kl_RX11_9) (fun _ h9 => h9) rfl dX11_records_59 ?_
      refine lv_bipush (v := 12) hx hb dX11_records_62 (by decide) ?_
      refine va_iald hx hb hK hP 1 0 rfl rfl (cm_vin (by decide)) dX11_records_64 ?_
      refine cm_cst (y := (f_69 12)) (by first | rfl | decide +kernel) ?_
      refine lv_imul hx hb dX11_records_65 ?_
      refine lv_iadd hx hb dX11_records_66 ?_
      refine lv_istore_n (lv' := [(3, .int (568 + (5 * (f_69 12)))), (0, .ref mo), (1, .int p1), (2, .int p2)]) hx hb dX11_records_67 rfl hl (by decide) rfl (fun ls hl => ?_)
      refine lv_aload_n hx hb dX11_records_68 rfl (lv_at hl 1 rfl) ?_
      refine va_get (v := .ref mw) (D := D) (ci := 11) (C := RX11) (T := TX11) (N := 19) hx hb hts in_X11 hown hK hP 0 rfl rfl 0 (by decide) (hts _ kl_RX11_9) (fun _ h9 => h9) rfl dX11_records_69 ?_
      refine lv_iload_n hx hb dX11_records_72 rfl (lv_at hl 0 rfl) ?_
      refine lv_iload_n hx hb dX11_records_73 rfl (lv_at hl 2 rfl) ?_
      refine va_iast hx hb hK hP hD hS 1 0 rfl rfl (rf_in1 (by have := (rf_nb0 (a := 568) (b := 5) (A := 568) (B := 5) (N := 29) (by decide) (by decide) hL_75 (by decide) (by decide) (by decide) (by decide)); omega)) dX11_records_74 (fun H locs hP hD hS => ?_)
      have hP : va_P D vwCl ([(rf_MO mo mw ma mf m0 m1 mu mv u0 u1 iz th mb mn mpt mbg mwr mwk mlf men), (rf_RW ct 0 mw 958 (upd f_69 (568 + (5 * (f_69 12))).toNatClampNeg p1))] ++ ws) H := hP
      have hD : va_D A ([(rf_MO mo mw ma mf m0 m1 mu mv u0 u1 iz th mb mn mpt mbg mwr mwk mlf men), (rf_RW ct 0 mw 958 (upd f_69 (568 + (5 * (f_69 12))).toNatClampNeg p1))] ++ ws) := hD
      have hU_77 : rf_R G cx (upd f_69 (568 + (5 * (f_69 12))).toNatClampNeg p1) ∧ rf_sm f_69 (upd f_69 (568 + (5 * (f_69 12))).toNatClampNeg p1) := (rf_free _ hR_71 (Or.inr (rf_ge (rf_nb0 (a := 568) (b := 5) (A := 568) (B := 5) (N := 29) (by decide) (by decide) hL_75 (by decide) (by decide) (by decide) (by decide)).1)))
      generalize hf_80 : (upd f_69 (568 + (5 * (f_69 12))).toNatClampNeg p1) = f_76 at hP hD hU_77
      have hD_81 := rf_du hD_74 hf_80 (by have := rf_ge (rf_nb0 (a := 568) (b := 5) (A := 568) (B := 5) (N := 29) (by decide) (by decide) hL_75 (by decide) (by decide) (by decide) (by decide)).1; omega)
      have hR_78 := hU_77.1
      have hM_79 := rf_smt hM_72 hU_77.2
      have hq_82 : f_76 12 = f_69 12 := (rf_u17 hf_80 (rf_ge (rf_nb0 (a := 568) (b := 5) (A := 568) (B := 5) (N := 29) (by decide) (by decide) hL_75 (by decide) (by decide) (by decide) (by decide)).1) (by omega)).trans rfl
      refine lv_aload_n hx hb dX11_records_75 rfl (lv_at hl 1 rfl) ?_
      refine va_get (v := .ref mw) (D := D) (ci := 11) (C := RX11) (T := TX11) (N := 19) hx hb hts in_X11 hown hK hP 0 rfl rfl 0 (by decide) (hts _ kl_RX11_9) (fun _ h9 => h9) rfl dX11_records_76 ?_
      refine lv_iload_n hx hb dX11_records_79 rfl (lv_at hl 0 rfl) ?_
      refine lv_iconst (v := 1) hx hb dX11_records_80 (by decide) ?_
      refine lv_iadd hx hb dX11_records_81 ?_
      refine lv_aload_n hx hb dX11_records_82 rfl (lv_at hl 1 rfl) ?_
      refine lv_iload_n hx hb dX11_records_83 rfl (lv_at hl 2 rfl) ?_
      refine lv_iconst (v := 4) hx hb dX11_records_84 (by decide) ?_
      have hP : va_P D vwCl ([(rf_RW ct 0 mw 958 f_76), (rf_MO mo mw ma mf m0 m1 mu mv u0 u1 iz th mb mn mpt mbg mwr mwk mlf men)] ++ ws) H := ty_permP hP (ty_ordp (E := [(rf_MO mo mw ma mf m0 m1 mu mv u0 u1 iz th mb mn mpt mbg mwr mwk mlf men), (rf_RW ct 0 mw 958 f_76)]) (E2 := [(rf_RW ct 0 mw 958 f_76), (rf_MO mo mw ma mf m0 m1 mu mv u0 u1 iz th mb mn mpt mbg mwr mwk mlf men)]) (n := 2) [1, 0] rfl rfl (by decide))
      have hD : va_D A ([(rf_RW ct 0 mw 958 f_76), (rf_MO mo mw ma mf m0 m1 mu mv u0 u1 iz th mb mn mpt mbg mwr mwk mlf men)] ++ ws) := ty_permD hD (ty_ordp (E := [(rf_MO mo mw ma mf m0 m1 mu mv u0 u1 iz th mb mn mpt mbg mwr mwk mlf men), (rf_RW ct 0 mw 958 f_76)]) (E2 := [(rf_RW ct 0 mw 958 f_76), (rf_MO mo mw ma mf m0 m1 mu mv u0 u1 iz th mb mn mpt mbg mwr mwk mlf men)]) (n := 2) [1, 0] rfl rfl (by decide))
      refine ty_kl (wr := [(rf_RW ct 0 mw 958 f_76)]) (wc := ([(rf_MO mo mw ma mf m0 m1 mu mv u0 u1 iz th mb mn mpt mbg mwr mwk mlf men)] ++ ws)) (va_runV (As := [.int p1, .int 4]) (rest := [.int ((568 + (5 * (f_69 12))) + 1), .ref mw]) ⟨hx, hb, hml, hown, hts⟩ (m_X11_sum l D ct S ws ph xx mo mw ma mf m0 m1 mu mv u0 u1 iz mb th mn mpt mbg mwr mwk mlf men p1 (4 : Int32) _ hT h_mu h_mv h_u0 h_u1 hph hy1 (rf_c6 hR_78 hc) (by decide)) (cm_V 2 hts kc_X11_sum ki_RX11 kl_RX11_261 kv_X11_sum kx_X11_sum kd_X11_sum ⟨Nat.le_of_ble_eq_true rfl, Nat.le_of_ble_eq_true rfl⟩) (ty_preE (wr := [(rf_RW ct 0 mw 958 f_76)]) (wc := ([(rf_MO mo mw ma mf m0 m1 mu mv u0 u1 iz th mb mn mpt mbg mwr mwk mlf men)] ++ ws)) (ci := 11) (q0 := 1) hP hK hD hS hA hX rfl rfl) rfl rfl hl.1 rfl (lv_room (Nat.le_of_ble_eq_true rfl)) dX11_records_85 ⟨Nat.le_of_ble_eq_true rfl, Nat.le_of_ble_eq_true rfl⟩) hP hD hS hA (fun r_83 u H locs hw_84 hP hD hS => ?_)
      obtain ⟨ws_85, rfl⟩ : ∃ z, z = u := ⟨_, rfl⟩
      have hT := hw_84
      have hP : va_P D vwCl ([(rf_RW ct 0 mw 958 f_76), (rf_MO mo mw ma mf m0 m1 mu mv u0 u1 iz th mb mn mpt mbg mwr mwk mlf men)] ++ ws_85) H := hP
      have hD : va_D A ([(rf_RW ct 0 mw 958 f_76), (rf_MO mo mw ma mf m0 m1 mu mv u0 u1 iz th mb mn mpt mbg mwr mwk mlf men)] ++ ws_85) := hD
      refine lv_l2i hx hb dX11_records_88 rfl ?_
      refine lv_topi (fun x_86 _ => ?_)
      refine va_iast hx hb hK hP hD hS 0 0 rfl rfl (rf_in1 (by have := (rf_nb (a := 568) (b := 5) (A := 568) (B := 5) (N := 29) (k := 1) (K := 1) (by decide) (by decide) (by decide) hL_75 (by decide) (by decide) (by decide) (by decide) (by decide)); omega)) dX11_records_89 (fun H locs hP hD hS => ?_)
      have hP : va_P D vwCl ([(rf_RW ct 0 mw 958 (upd f_76 ((568 + (5 * (f_69 12))) + 1).toNatClampNeg x_86)), (rf_MO mo mw ma mf m0 m1 mu mv u0 u1 iz th mb mn mpt mbg mwr mwk mlf men)] ++ ws_85) H := hP
      have hD : va_D A ([(rf_RW ct 0 mw 958 (upd f_76 ((568 + (5 * (f_69 12))) + 1).toNatClampNeg x_86)), (rf_MO mo mw ma mf m0 m1 mu mv u0 u1 iz th mb mn mpt mbg mwr mwk mlf men)] ++ ws_85) := hD
      have hU_88 : rf_R G cx (upd f_76 ((568 + (5 * (f_69 12))) + 1).toNatClampNeg x_86) ∧ rf_sm f_76 (upd f_76 ((568 + (5 * (f_69 12))) + 1).toNatClampNeg x_86) := (rf_free _ hR_78 (Or.inr (rf_ge (rf_nb (a := 568) (b := 5) (A := 568) (B := 5) (N := 29) (k := 1) (K := 1) (by decide) (by decide) (by decide) hL_75 (by decide) (by decide) (by decide) (by decide) (by decide)).1)))
      generalize hf_91 : (upd f_76 ((568 + (5 * (f_69 12))) + 1).toNatClampNeg x_86) = f_87 at hP hD hU_88
      have hD_92 := rf_du hD_81 hf_91 (by have := rf_ge (rf_nb (a := 568) (b := 5) (A := 568) (B := 5) (N := 29) (k := 1) (K := 1) (by decide) (by decide) (by decide) hL_75 (by decide) (by decide) (by decide) (by decide) (by decide)).1; omega)
      have hR_89 := hU_88.1
      have hM_90 := rf_smt hM_79 hU_88.2
      have hq_93 : f_87 12 = f_69 12 := (rf_u17 hf_91 (rf_ge (rf_nb (a := 568) (b := 5) (A := 568) (B := 5) (N := 29) (k := 1) (K := 1) (by decide) (by decide) (by decide) hL_75 (by decide) (by decide) (by decide) (by decide) (by decide)).1) (by omega)).trans hq_82
      refine lv_aload_n hx hb dX11_records_90 rfl (lv_at hl 1 rfl) ?_
      refine va_get (v := .ref mw) (D := D) (ci := 11) (C := RX11) (T := TX11) (N := 19) hx hb hts in_X11 hown hK hP 1 rfl rfl 0 (by decide) (hts _ kl_RX11_9) (fun _ h9 => h9) rfl dX11_records_91 ?_
      refine lv_iload_n hx hb dX11_records_94 rfl (lv_at hl 0 rfl) ?_
      refine lv_iconst (v := 2) hx hb dX11_records_95 (by decide) ?_
      refine lv_iadd hx hb dX11_records_96 ?_
      refine lv_aload_n hx hb dX11_records_97 rfl (lv_at hl 1 rfl) ?_
      refine lv_iload_n hx hb dX11_records_98 rfl (lv_at hl 2 rfl) ?_
      refine lv_iconst (v := 5) hx hb dX11_records_99 (by decide) ?_
      refine ty_kl (wr := [(rf_RW ct 0 mw 958 f_87)]) (wc := ([(rf_MO mo mw ma mf m0 m1 mu mv u0 u1 iz th mb mn mpt mbg mwr mwk mlf men)] ++ ws_85)) (va_runV (As := [.int p1, .int 5]) (rest := [.int ((568 + (5 * (f_69 12))) + 2), .ref mw]) ⟨hx, hb, hml, hown, hts⟩ (m_X11_sum l D ct S ws_85 ph xx mo mw ma mf m0 m1 mu mv u0 u1 iz mb th mn mpt mbg mwr mwk mlf men p1 (5 : Int32) _ hT h_mu h_mv h_u0 h_u1 hph hy1 (rf_c6 hR_89 hc) (by decide)) (cm_V 2 hts kc_X11_sum ki_RX11 kl_RX11_261 kv_X11_sum kx_X11_sum kd_X11_sum ⟨Nat.le_of_ble_eq_true rfl, Nat.le_of_ble_eq_true rfl⟩) (ty_preE (wr := [(rf_RW ct 0 mw 958 f_87)]) (wc := ([(rf_MO mo mw ma mf m0 m1 mu mv u0 u1 iz th mb mn mpt mbg mwr mwk mlf men)] ++ ws_85)) (ci := 11) (q0 := 1) hP hK hD hS hA hX rfl rfl) rfl rfl hl.1 rfl (lv_room (Nat.le_of_ble_eq_true rfl)) dX11_records_100 ⟨Nat.le_of_ble_eq_true rfl, Nat.le_of_ble_eq_true rfl⟩) hP hD hS hA (fun r_94 u H locs hw_95 hP hD hS => ?_)
      obtain ⟨ws_96, rfl⟩ : ∃ z, z = u := ⟨_, rfl⟩
      have hT := hw_95
      have hP : va_P D vwCl ([(rf_RW ct 0 mw 958 f_87), (rf_MO mo mw ma mf m0 m1 mu mv u0 u1 iz th mb mn mpt mbg mwr mwk mlf men)] ++ ws_96) H := hP
      have hD : va_D A ([(rf_RW ct 0 mw 958 f_87), (rf_MO mo mw ma mf m0 m1 mu mv u0 u1 iz th mb mn mpt mbg mwr mwk mlf men)] ++ ws_96) := hD
      refine lv_l2i hx hb dX11_records_103 rfl ?_
      refine lv_topi (fun x_97 _ => ?_)
      refine va_iast hx hb hK hP hD hS 0 0 rfl rfl (rf_in1 (by have := (rf_nb (a := 568) (b := 5) (A := 568) (B := 5) (N := 29) (k := 2) (K := 2) (by decide) (by decide) (by decide) hL_75 (by decide) (by decide) (by decide) (by decide) (by decide)); omega)) dX11_records_104 (fun H locs hP hD hS => ?_)
      have hP : va_P D vwCl ([(rf_RW ct 0 mw 958 (upd f_87 ((568 + (5 * (f_69 12))) + 2).toNatClampNeg x_97)), (rf_MO mo mw ma mf m0 m1 mu mv u0 u1 iz th mb mn mpt mbg mwr mwk mlf men)] ++ ws_96) H := hP
      have hD : va_D A ([(rf_RW ct 0 mw 958 (upd f_87 ((568 + (5 * (f_69 12))) + 2).toNatClampNeg x_97)), (rf_MO mo mw ma mf m0 m1 mu mv u0 u1 iz th mb mn mpt mbg mwr mwk mlf men)] ++ ws_96) := hD
      have hU_99 : rf_R G cx (upd f_87 ((568 + (5 * (f_69 12))) + 2).toNatClampNeg x_97) ∧ rf_sm f_87 (upd f_87 ((568 + (5 * (f_69 12))) + 2).toNatClampNeg x_97) := (rf_free _ hR_89 (Or.inr (rf_ge (rf_nb (a := 568) (b := 5) (A := 568) (B := 5) (N := 29) (k := 2) (K := 2) (by decide) (by decide) (by decide) hL_75 (by decide) (by decide) (by decide) (by decide) (by decide)).1)))
      generalize hf_102 : (upd f_87 ((568 + (5 * (f_69 12))) + 2).toNatClampNeg x_97) = f_98 at hP hD hU_99
      have hD_103 := rf_du hD_92 hf_102 (by have := rf_ge (rf_nb (a := 568) (b := 5) (A := 568) (B := 5) (N := 29) (k := 2) (K := 2) (by decide) (by decide) (by decide) hL_75 (by decide) (by decide) (by decide) (by decide) (by decide)).1; omega)
      have hR_100 := hU_99.1
      have hM_101 := rf_smt hM_90 hU_99.2
      have hq_104 : f_98 12 = f_69 12 := (rf_u17 hf_102 (rf_ge (rf_nb (a := 568) (b := 5) (A := 568) (B := 5) (N := 29) (k := 2) (K := 2) (by decide) (by decide) (by decide) hL_75 (by decide) (by decide) (by decide) (by decide) (by decide)).1) (by omega)).trans hq_93
      refine lv_aload_n hx hb dX11_records_105 rfl (lv_at hl 1 rfl) ?_
      refine va_get (v := .ref mw) (D := D) (ci := 11) (C := RX11) (T := TX11) (N := 19) hx hb hts in_X11 hown hK hP 1 rfl rfl 0 (by decide) (hts _ kl_RX11_9) (fun _ h9 => h9) rfl dX11_records_106 ?_
      refine lv_iload_n hx hb dX11_records_109 rfl (lv_at hl 0 rfl) ?_
      refine lv_iconst (v := 3) hx hb dX11_records_110 (by decide) ?_
      refine lv_iadd hx hb dX11_records_111 ?_
      refine lv_aload_n hx hb dX11_records_112 rfl (lv_at hl 1 rfl) ?_
      refine va_get (v := .ref mw) (D := D) (ci := 11) (C := RX11) (T := TX11) (N := 19) hx hb hts in_X11 hown hK hP 1 rfl rfl 0 (by decide) (hts _ kl_RX11_9) (fun _ h9 => h9) rfl dX11_records_113 ?_
      refine lv_bipush (v := 8) hx hb dX11_records_116 (by decide) ?_
      refine va_iald hx hb hK hP 0 0 rfl rfl (cm_vin (by decide)) dX11_records_118 ?_
      refine cm_cst (y := (f_98 8)) (by first | rfl | decide +kernel) ?_
      refine va_iast hx hb hK hP hD hS 0 0 rfl rfl (rf_in1 (by have := (rf_nb (a := 568) (b := 5) (A := 568) (B := 5) (N := 29) (k := 3) (K := 3) (by decide) (by decide) (by decide) hL_75 (by decide) (by decide) (by decide) (by decide) (by decide)); omega)) dX11_records_119 (fun H locs hP hD hS => ?_)
      have hP : va_P D vwCl ([(rf_RW ct 0 mw 958 (upd f_98 ((568 + (5 * (f_69 12))) + 3).toNatClampNeg (f_98 8))), (rf_MO mo mw ma mf m0 m1 mu mv u0 u1 iz th mb mn mpt mbg mwr mwk mlf men)] ++ ws_96) H := hP
      have hD : va_D A ([(rf_RW ct 0 mw 958 (upd f_98 ((568 + (5 * (f_69 12))) + 3).toNatClampNeg (f_98 8))), (rf_MO mo mw ma mf m0 m1 mu mv u0 u1 iz th mb mn mpt mbg mwr mwk mlf men)] ++ ws_96) := hD
      have hU_106 : rf_R G cx (upd f_98 ((568 + (5 * (f_69 12))) + 3).toNatClampNeg (f_98 8)) ∧ rf_sm f_98 (upd f_98 ((568 + (5 * (f_69 12))) + 3).toNatClampNeg (f_98 8)) := (rf_free _ hR_100 (Or.inr (rf_ge (rf_nb (a := 568) (b := 5) (A := 568) (B := 5) (N := 29) (k := 3) (K := 3) (by decide) (by decide) (by decide) hL_75 (by decide) (by decide) (by decide) (by decide) (by decide)).1)))
      generalize hf_109 : (upd f_98 ((568 + (5 * (f_69 12))) + 3).toNatClampNeg (f_98 8)) = f_105 at hP hD hU_106
      have hD_110 := rf_du hD_103 hf_109 (by have := rf_ge (rf_nb (a := 568) (b := 5) (A := 568) (B := 5) (N := 29) (k := 3) (K := 3) (by decide) (by decide) (by decide) hL_75 (by decide) (by decide) (by decide) (by decide) (by decide)).1; omega)
      have hR_107 := hU_106.1
      have hM_108 := rf_smt hM_101 hU_106.2
      have hq_111 : f_105 12 = f_69 12 := (rf_u17 hf_109 (rf_ge (rf_nb (a := 568) (b := 5) (A := 568) (B := 5) (N := 29) (k := 3) (K := 3) (by decide) (by decide) (by decide) hL_75 (by decide) (by decide) (by decide) (by decide) (by decide)).1) (by omega)).trans hq_104
      refine lv_aload_n hx hb dX11_records_120 rfl (lv_at hl 1 rfl) ?_
      refine va_get (v := .ref mw) (D := D) (ci := 11) (C := RX11) (T := TX11) (N := 19) hx hb hts in_X11 hown hK hP 1 rfl rfl 0 (by decide) (hts _ kl_RX11_9) (fun _ h9 => h9) rfl dX11_records_121 ?_
      refine lv_iload_n hx hb dX11_records_124 rfl (lv_at hl 0 rfl) ?_
      refine lv_iconst (v := 4) hx hb dX11_records_125 (by decide) ?_
      refine lv_iadd hx hb dX11_records_126 ?_
      refine lv_iload_n hx hb dX11_records_127 rfl (lv_at hl 3 rfl) ?_
      refine lv_if_eq (tgt := 135) hx hb dX11_records_128 (by decide) (fun hc_112 => ?_) (fun hc_112 => ?_)
      · refine lv_iconst (v := 0) hx hb dX11_records_135 (by decide) ?_
        refine va_iast hx hb hK hP hD hS 0 0 rfl rfl (rf_in1 (by have := (rf_nb (a := 568) (b := 5) (A := 568) (B := 5) (N := 29) (k := 4) (K := 4) (by decide) (by decide) (by decide) hL_75 (by decide) (by decide) (by decide) (by decide) (by decide)); omega)) dX11_records_136 (fun H locs hP hD hS => ?_)
        have hP : va_P D vwCl ([(rf_RW ct 0 mw 958 (upd f_105 ((568 + (5 * (f_69 12))) + 4).toNatClampNeg 0)), (rf_MO mo mw ma mf m0 m1 mu mv u0 u1 iz th mb mn mpt mbg mwr mwk mlf men)] ++ ws_96) H := hP
        have hD : va_D A ([(rf_RW ct 0 mw 958 (upd f_105 ((568 + (5 * (f_69 12))) + 4).toNatClampNeg 0)), (rf_MO mo mw ma mf m0 m1 mu mv u0 u1 iz th mb mn mpt mbg mwr mwk mlf men)] ++ ws_96) := hD
        have hU_114 : rf_R G cx (upd f_105 ((568 + (5 * (f_69 12))) + 4).toNatClampNeg 0) ∧ rf_sm f_105 (upd f_105 ((568 + (5 * (f_69 12))) + 4).toNatClampNeg 0) := (rf_free _ hR_107 (Or.inr (rf_ge (rf_nb (a := 568) (b := 5) (A := 568) (B := 5) (N := 29) (k := 4) (K := 4) (by decide) (by decide) (by decide) hL_75 (by decide) (by decide) (by decide) (by decide) (by decide)).1)))
        generalize hf_117 : (upd f_105 ((568 + (5 * (f_69 12))) + 4).toNatClampNeg 0) = f_113 at hP hD hU_114
        have hD_118 := rf_du hD_110 hf_117 (by have := rf_ge (rf_nb (a := 568) (b := 5) (A := 568) (B := 5) (N := 29) (k := 4) (K := 4) (by decide) (by decide) (by decide) hL_75 (by decide) (by decide) (by decide) (by decide) (by decide)).1; omega)
        have hR_115 := hU_114.1
        have hM_116 := rf_smt hM_108 hU_114.2
        have hq_119 : f_113 12 = f_69 12 := (rf_u17 hf_117 (rf_ge (rf_nb (a := 568) (b := 5) (A := 568) (B := 5) (N := 29) (k := 4) (K := 4) (by decide) (by decide) (by decide) hL_75 (by decide) (by decide) (by decide) (by decide) (by decide)).1) (by omega)).trans hq_111
        refine lv_aload_n hx hb dX11_records_137 rfl (lv_at hl 1 rfl) ?_
        refine va_get (v := .ref mw) (D := D) (ci := 11) (C := RX11) (T := TX11) (N := 19) hx hb hts in_X11 hown hK hP 1 rfl rfl 0 (by decide) (hts _ kl_RX11_9) (fun _ h9 => h9) rfl dX11_records_138 ?_
        refine lv_bipush (v := 12) hx hb dX11_records_141 (by decide) ?_
        refine lv_dup2_11 hx hb dX11_records_143 rfl rfl ?_
        refine va_iald hx hb hK hP 0 0 rfl rfl (cm_vin (by decide)) dX11_records_144 ?_
        refine cm_cst (y := (f_113 12)) (by first | rfl | decide +kernel) ?_
        refine lv_iconst (v := 1) hx hb dX11_records_145 (by decide) ?_
        refine lv_iadd hx hb dX11_records_146 ?_
        refine va_iast hx hb hK hP hD hS 0 0 rfl rfl (cm_vin (by decide)) dX11_records_147 (fun H locs hP hD hS => ?_)
        have hP : va_P D vwCl ([(rf_RW ct 0 mw 958 (upd f_113 (12 : Int32).toNatClampNeg ((f_113 12) + 1))), (rf_MO mo mw ma mf m0 m1 mu mv u0 u1 iz th mb mn mpt mbg mwr mwk mlf men)] ++ ws_96) H := hP
        have hD : va_D A ([(rf_RW ct 0 mw 958 (upd f_113 (12 : Int32).toNatClampNeg ((f_113 12) + 1))), (rf_MO mo mw ma mf m0 m1 mu mv u0 u1 iz th mb mn mpt mbg mwr mwk mlf men)] ++ ws_96) := hD
        have hU_121 : rf_R G cx (upd f_113 (12 : Int32).toNatClampNeg ((f_113 12) + 1)) ∧ rf_sm f_113 (upd f_113 (12 : Int32).toNatClampNeg ((f_113 12) + 1)) := (rf_num12 hR_115 (by rw [hq_119]; have := rf_inc9 hL_75 (by omega) (by omega); omega))
        generalize hf_124 : (upd f_113 (12 : Int32).toNatClampNeg ((f_113 12) + 1)) = f_120 at hP hD hU_121
        have hD_125 := rf_du hD_118 hf_124 (by decide)
        have hR_122 := hU_121.1
        have hM_123 := rf_smt hM_116 hU_121.2
        have hP : va_P D vwCl ([(rf_MO mo mw ma mf m0 m1 mu mv u0 u1 iz th mb mn mpt mbg mwr mwk mlf men), (rf_RW ct 0 mw 958 f_120)] ++ ws_96) H := ty_permP hP (ty_ordp (E := [(rf_RW ct 0 mw 958 f_120), (rf_MO mo mw ma mf m0 m1 mu mv u0 u1 iz th mb mn mpt mbg mwr mwk mlf men)]) (E2 := [(rf_MO mo mw ma mf m0 m1 mu mv u0 u1 iz th mb mn mpt mbg mwr mwk mlf men), (rf_RW ct 0 mw 958 f_120)]) (n := 2) [1, 0] rfl rfl (by decide))
        have hD : va_D A ([(rf_MO mo mw ma mf m0 m1 mu mv u0 u1 iz th mb mn mpt mbg mwr mwk mlf men), (rf_RW ct 0 mw 958 f_120)] ++ ws_96) := ty_permD hD (ty_ordp (E := [(rf_RW ct 0 mw 958 f_120), (rf_MO mo mw ma mf m0 m1 mu mv u0 u1 iz th mb mn mpt mbg mwr mwk mlf men)]) (E2 := [(rf_MO mo mw ma mf m0 m1 mu mv u0 u1 iz th mb mn mpt mbg mwr mwk mlf men), (rf_RW ct 0 mw 958 f_120)]) (n := 2) [1, 0] rfl rfl (by decide))
        exact W.vret hx hb hr (fun t ht hW => ⟨⟨(ws_96, f_120), rfl, ⟨hT, ⟨hD_125, hR_122, hM_123⟩⟩, by rw [ht]; exact hP, by rw [hAe]; exact hD⟩, hS.F ht⟩) hS.2.2 dX11_records_148
      · refine lv_iconst (v := 1) hx hb dX11_records_131 (by decide) ?_
        refine lv_goto (tgt := 136) hx hb dX11_records_132 (by decide) ?_
        refine va_iast hx hb hK hP hD hS 0 0 rfl rfl (rf_in1 (by have := (rf_nb (a := 568) (b := 5) (A := 568) (B := 5) (N := 29) (k := 4) (K := 4) (by decide) (by decide) (by decide) hL_75 (by decide) (by decide) (by decide) (by decide) (by decide)); omega)) dX11_records_136 (fun H locs hP hD hS => ?_)
        have hP : va_P D vwCl ([(rf_RW ct 0 mw 958 (upd f_105 ((568 + (5 * (f_69 12))) + 4).toNatClampNeg 1)), (rf_MO mo mw ma mf m0 m1 mu mv u0 u1 iz th mb mn mpt mbg mwr mwk mlf men)] ++ ws_96) H := hP
        have hD : va_D A ([(rf_RW ct 0 mw 958 (upd f_105 ((568 + (5 * (f_69 12))) + 4).toNatClampNeg 1)), (rf_MO mo mw ma mf m0 m1 mu mv u0 u1 iz th mb mn mpt mbg mwr mwk mlf men)] ++ ws_96) := hD
        have hU_127 : rf_R G cx (upd f_105 ((568 + (5 * (f_69 12))) + 4).toNatClampNeg 1) ∧ rf_sm f_105 (upd f_105 ((568 + (5 * (f_69 12))) + 4).toNatClampNeg 1) := (rf_free _ hR_107 (Or.inr (rf_ge (rf_nb (a := 568) (b := 5) (A := 568) (B := 5) (N := 29) (k := 4) (K := 4) (by decide) (by decide) (by decide) hL_75 (by decide) (by decide) (by decide) (by decide) (by decide)).1)))
        generalize hf_130 : (upd f_105 ((568 + (5 * (f_69 12))) + 4).toNatClampNeg 1) = f_126 at hP hD hU_127
        have hD_131 := rf_du hD_110 hf_130 (by have := rf_ge (rf_nb (a := 568) (b := 5) (A := 568) (B := 5) (N := 29) (k := 4) (K := 4) (by decide) (by decide) (by decide) hL_75 (by decide) (by decide) (by decide) (by decide) (by decide)).1; omega)
        have hR_128 := hU_127.1
        have hM_129 := rf_smt hM_108 hU_127.2
        have hq_132 : f_126 12 = f_69 12 := (rf_u17 hf_130 (rf_ge (rf_nb (a := 568) (b := 5) (A := 568) (B := 5) (N := 29) (k := 4) (K := 4) (by decide) (by decide) (by decide) hL_75 (by decide) (by decide) (by decide) (by decide) (by decide)).1) (by omega)).trans hq_111
        refine lv_aload_n hx hb dX11_records_137 rfl (lv_at hl 1 rfl) ?_
        refine va_get (v := .ref mw) (D := D) (ci := 11) (C := RX11) (T := TX11) (N := 19) hx hb hts in_X11 hown hK hP 1 rfl rfl 0 (by decide) (hts _ kl_RX11_9) (fun _ h9 => h9) rfl dX11_records_138 ?_
        refine lv_bipush (v := 12) hx hb dX11_records_141 (by decide) ?_
        refine lv_dup2_11 hx hb dX11_records_143 rfl rfl ?_
        refine va_iald hx hb hK hP 0 0 rfl rfl (cm_vin (by decide)) dX11_records_144 ?_
        refine cm_cst (y := (f_126 12)) (by first | rfl | decide +kernel) ?_
        refine lv_iconst (v := 1) hx hb dX11_records_145 (by decide) ?_
        refine lv_iadd hx hb dX11_records_146 ?_
        refine va_iast hx hb hK hP hD hS 0 0 rfl rfl (cm_vin (by decide)) dX11_records_147 (fun H locs hP hD hS => ?_)
        have hP : va_P D vwCl ([(rf_RW ct 0 mw 958 (upd f_126 (12 : Int32).toNatClampNeg ((f_126 12) + 1))), (rf_MO mo mw ma mf m0 m1 mu mv u0 u1 iz th mb mn mpt mbg mwr mwk mlf men)] ++ ws_96) H := hP
        have hD : va_D A ([(rf_RW ct 0 mw 958 (upd f_126 (12 : Int32).toNatClampNeg ((f_126 12) + 1))), (rf_MO mo mw ma mf m0 m1 mu mv u0 u1 iz th mb mn mpt mbg mwr mwk mlf men)] ++ ws_96) := hD
        have hU_134 : rf_R G cx (upd f_126 (12 : Int32).toNatClampNeg ((f_126 12) + 1)) ∧ rf_sm f_126 (upd f_126 (12 : Int32).toNatClampNeg ((f_126 12) + 1)) := (rf_num12 hR_128 (by rw [hq_132]; have := rf_inc9 hL_75 (by omega) (by omega); omega))
        generalize hf_137 : (upd f_126 (12 : Int32).toNatClampNeg ((f_126 12) + 1)) = f_133 at hP hD hU_134
        have hD_138 := rf_du hD_131 hf_137 (by decide)
        have hR_135 := hU_134.1
        have hM_136 := rf_smt hM_129 hU_134.2
        have hP : va_P D vwCl ([(rf_MO mo mw ma mf m0 m1 mu mv u0 u1 iz th mb mn mpt mbg mwr mwk mlf men), (rf_RW ct 0 mw 958 f_133)] ++ ws_96) H := ty_permP hP (ty_ordp (E := [(rf_RW ct 0 mw 958 f_133), (rf_MO mo mw ma mf m0 m1 mu mv u0 u1 iz th mb mn mpt mbg mwr mwk mlf men)]) (E2 := [(rf_MO mo mw ma mf m0 m1 mu mv u0 u1 iz th mb mn mpt mbg mwr mwk mlf men), (rf_RW ct 0 mw 958 f_133)]) (n := 2) [1, 0] rfl rfl (by decide))
        have hD : va_D A ([(rf_MO mo mw ma mf m0 m1 mu mv u0 u1 iz th mb mn mpt mbg mwr mwk mlf men), (rf_RW ct 0 mw 958 f_133)] ++ ws_96) := ty_permD hD (ty_ordp (E := [(rf_RW ct 0 mw 958 f_133), (rf_MO mo mw ma mf m0 m1 mu mv u0 u1 iz th mb mn mpt mbg mwr mwk mlf men)]) (E2 := [(rf_MO mo mw ma mf m0 m1 mu mv u0 u1 iz th mb mn mpt mbg mwr mwk mlf men), (rf_RW ct 0 mw 958 f_133)]) (n := 2) [1, 0] rfl rfl (by decide))
        exact W.vret hx hb hr (fun t ht hW => ⟨⟨(ws_96, f_133), rfl, ⟨hT, ⟨hD_138, hR_135, hM_136⟩⟩, by rw [ht]; exact hP, by rw [hAe]; exact hD⟩, hS.F ht⟩) hS.2.2 dX11_records_148
    · refine lv_aload_n hx hb dX11_records_23 rfl (lv_at hl 0 rfl) ?_
      refine va_get (v := .ref mw) (D := D) (ci := 11) (C := RX11) (T := TX11) (N := 19) hx hb hts in_X11 hown hK hP 0 rfl rfl 0 (by decide) (hts _ kl_RX11_9) (fun _ h9 => h9) rfl dX11_records_24 ?_
      refine lv_iload_n hx hb dX11_records_27 rfl (lv_at hl 3 rfl) ?_
      refine lv_aload_n hx hb dX11_records_28 rfl (lv_at hl 0 rfl) ?_
      refine va_get (v := .ref mw) (D := D) (ci := 11) (C := RX11) (T := TX11) (N := 19) hx hb hts in_X11 hown hK hP 0 rfl rfl 0 (by decide) (hts _ kl_RX11_9) (fun _ h9 => h9) rfl dX11_records_29 ?_
      refine lv_iload_n hx hb dX11_records_32 rfl (lv_at hl 3 rfl) ?_
      refine lv_iconst (v := 5) hx hb dX11_records_33 (by decide) ?_
      refine lv_iadd hx hb dX11_records_34 ?_
      refine va_iald hx hb hK hP 1 0 rfl rfl (rf_in2 (K := 5) (by decide) (by have := hex_16.1; have := rf_ng (b := 713) (by decide) hc_68; omega)) dX11_records_35 ?_
      refine va_iast hx hb hK hP hD hS 1 0 rfl rfl (rf_in1 (by have := hex_16.1; omega)) dX11_records_36 (fun H locs hP hD hS => ?_)
      have hP : va_P D vwCl ([(rf_MO mo mw ma mf m0 m1 mu mv u0 u1 iz th mb mn mpt mbg mwr mwk mlf men), (rf_RW ct 0 mw 958 (upd f_67 y_66.toNatClampNeg (f_67 (y_66 + 5).toNatClampNeg)))] ++ ws) H := hP
      have hD : va_D A ([(rf_MO mo mw ma mf m0 m1 mu mv u0 u1 iz th mb mn mpt mbg mwr mwk mlf men), (rf_RW ct 0 mw 958 (upd f_67 y_66.toNatClampNeg (f_67 (y_66 + 5).toNatClampNeg)))] ++ ws) := hD
      have hU_140 : rf_R G cx (upd f_67 y_66.toNatClampNeg (f_67 (y_66 + 5).toNatClampNeg)) ∧ rf_sm f_67 (upd f_67 y_66.toNatClampNeg (f_67 (y_66 + 5).toNatClampNeg)) := (rf_free _ hR_16 (Or.inr (rf_ge (by have := hex_16.1; omega))))
      generalize hf_143 : (upd f_67 y_66.toNatClampNeg (f_67 (y_66 + 5).toNatClampNeg)) = f_139 at hP hD hU_140
      have hD_144 := rf_du hD_16 hf_143 (by have q9 := rf_ge (y := y_66) (by have := hex_16.1; omega); omega)
      have hR_141 := hU_140.1
      have hM_142 := rf_smt hM_16 hU_140.2
      refine lv_iinc (v := (y_66 + Int32.ofInt 1)) (lv' := [(3, .int (y_66 + Int32.ofInt 1)), (0, .ref mo), (1, .int p1), (2, .int p2)]) hx hb dX11_records_37 hl (k := 3) rfl rfl (by decide) rfl (fun ls hl => ?_)
      refine lv_goto (tgt := 16) hx hb dX11_records_40 (by decide) ?_
      exact ih_16 _ _ _ _ (ty_inc (cm_lt hc_68)) ⟨ws, (y_66 + Int32.ofInt 1), f_139, rfl, hT, hP, hD, hS, (lv_sub hl [1, 2, 3, 0] rfl), hR_141, hM_142, hD_144, rf_lp (by decide) hex_16.1 hc_68 (by omega) (by omega), (rf_u17 hf_143 (rf_ge (by have := hex_16; omega)) (by omega)).trans hex_16.2⟩
theorem dX11_ends_0 : decode cX11_ends 0 = .ok (.aload_n 0, 1) := by decide +kernel
theorem dX11_ends_1 : decode cX11_ends 1 = .ok (.iload_n 1, 1) := by decide +kernel
theorem dX11_ends_2 : decode cX11_ends 2 = .ok (.iconst 0, 1) := by decide +kernel
theorem dX11_ends_3 : decode cX11_ends 3 = .ok (.invokevirtual 228, 3) := by decide +kernel
theorem dX11_ends_6 : decode cX11_ends 6 = .ok (.istore_n 2, 1) := by decide +kernel
theorem dX11_ends_7 : decode cX11_ends 7 = .ok (.iload_n 2, 1) := by decide +kernel
theorem dX11_ends_8 : decode cX11_ends 8 = .ok (.iconst 1, 1) := by decide +kernel
theorem dX11_ends_9 : decode cX11_ends 9 = .ok (.if_icmp .ne 11, 3) := by decide +kernel
theorem dX11_ends_12 : decode cX11_ends 12 = .ok (.aload_n 0, 1) := by decide +kernel
theorem dX11_ends_13 : decode cX11_ends 13 = .ok (.iload_n 1, 1) := by decide +kernel
theorem dX11_ends_14 : decode cX11_ends 14 = .ok (.bipush 21, 2) := by decide +kernel
theorem dX11_ends_16 : decode cX11_ends 16 = .ok (.iconst 1, 1) := by decide +kernel
theorem dX11_ends_17 : decode cX11_ends 17 = .ok (.invokevirtual 234, 3) := by decide +kernel
theorem dX11_ends_20 : decode cX11_ends 20 = .ok (.iload_n 2, 1) := by decide +kernel
theorem dX11_ends_21 : decode cX11_ends 21 = .ok (.iconst 3, 1) := by decide +kernel
theorem dX11_ends_22 : decode cX11_ends 22 = .ok (.if_icmp .ne 16, 3) := by decide +kernel
theorem dX11_ends_25 : decode cX11_ends 25 = .ok (.aload_n 0, 1) := by decide +kernel
theorem dX11_ends_26 : decode cX11_ends 26 = .ok (.iload_n 1, 1) := by decide +kernel
theorem dX11_ends_27 : decode cX11_ends 27 = .ok (.bipush 19, 2) := by decide +kernel
theorem dX11_ends_29 : decode cX11_ends 29 = .ok (.aload_n 0, 1) := by decide +kernel
theorem dX11_ends_30 : decode cX11_ends 30 = .ok (.iload_n 1, 1) := by decide +kernel
theorem dX11_ends_31 : decode cX11_ends 31 = .ok (.iconst 5, 1) := by decide +kernel
theorem dX11_ends_32 : decode cX11_ends 32 = .ok (.invokevirtual 209, 3) := by decide +kernel
theorem dX11_ends_35 : decode cX11_ends 35 = .ok (.invokevirtual 234, 3) := by decide +kernel
theorem dX11_ends_38 : decode cX11_ends 38 = .ok (.iload_n 2, 1) := by decide +kernel
theorem dX11_ends_39 : decode cX11_ends 39 = .ok (.iconst 2, 1) := by decide +kernel
theorem dX11_ends_40 : decode cX11_ends 40 = .ok (.if_icmp .eq 4, 3) := by decide +kernel
theorem dX11_ends_43 : decode cX11_ends 43 = .ok (.return_, 1) := by decide +kernel
theorem dX11_ends_44 : decode cX11_ends 44 = .ok (.aload_n 0, 1) := by decide +kernel
theorem dX11_ends_45 : decode cX11_ends 45 = .ok (.iload_n 1, 1) := by decide +kernel
theorem dX11_ends_46 : decode cX11_ends 46 = .ok (.bipush 21, 2) := by decide +kernel
theorem dX11_ends_48 : decode cX11_ends 48 = .ok (.invokevirtual 209, 3) := by decide +kernel
theorem dX11_ends_51 : decode cX11_ends 51 = .ok (.iconst 1, 1) := by decide +kernel
theorem dX11_ends_52 : decode cX11_ends 52 = .ok (.if_icmp .ne 22, 3) := by decide +kernel
theorem dX11_ends_55 : decode cX11_ends 55 = .ok (.aload_n 0, 1) := by decide +kernel
theorem dX11_ends_56 : decode cX11_ends 56 = .ok (.iload_n 1, 1) := by decide +kernel
theorem dX11_ends_57 : decode cX11_ends 57 = .ok (.iconst 5, 1) := by decide +kernel
theorem dX11_ends_58 : decode cX11_ends 58 = .ok (.invokevirtual 209, 3) := by decide +kernel
theorem dX11_ends_61 : decode cX11_ends 61 = .ok (.aload_n 0, 1) := by decide +kernel
theorem dX11_ends_62 : decode cX11_ends 62 = .ok (.iload_n 1, 1) := by decide +kernel
theorem dX11_ends_63 : decode cX11_ends 63 = .ok (.iconst 2, 1) := by decide +kernel
theorem dX11_ends_64 : decode cX11_ends 64 = .ok (.invokevirtual 228, 3) := by decide +kernel
theorem dX11_ends_67 : decode cX11_ends 67 = .ok (.if_icmp .gt 7, 3) := by decide +kernel
theorem dX11_ends_70 : decode cX11_ends 70 = .ok (.iconst 1, 1) := by decide +kernel
theorem dX11_ends_71 : decode cX11_ends 71 = .ok (.goto 4, 3) := by decide +kernel
theorem dX11_ends_74 : decode cX11_ends 74 = .ok (.iconst 0, 1) := by decide +kernel
theorem dX11_ends_75 : decode cX11_ends 75 = .ok (.istore_n 3, 1) := by decide +kernel
theorem dX11_ends_76 : decode cX11_ends 76 = .ok (.aload_n 0, 1) := by decide +kernel
theorem dX11_ends_77 : decode cX11_ends 77 = .ok (.iload_n 1, 1) := by decide +kernel
theorem dX11_ends_78 : decode cX11_ends 78 = .ok (.iload_n 3, 1) := by decide +kernel
theorem dX11_ends_79 : decode cX11_ends 79 = .ok (.invokevirtual 268, 3) := by decide +kernel
theorem dX11_ends_82 : decode cX11_ends 82 = .ok (.iload_n 3, 1) := by decide +kernel
theorem dX11_ends_83 : decode cX11_ends 83 = .ok (.ifCond .eq 25, 3) := by decide +kernel
theorem dX11_ends_86 : decode cX11_ends 86 = .ok (.aload_n 0, 1) := by decide +kernel
theorem dX11_ends_87 : decode cX11_ends 87 = .ok (.iload_n 1, 1) := by decide +kernel
theorem dX11_ends_88 : decode cX11_ends 88 = .ok (.bipush 20, 2) := by decide +kernel
theorem dX11_ends_90 : decode cX11_ends 90 = .ok (.aload_n 0, 1) := by decide +kernel
theorem dX11_ends_91 : decode cX11_ends 91 = .ok (.iload_n 1, 1) := by decide +kernel
theorem dX11_ends_92 : decode cX11_ends 92 = .ok (.iconst 1, 1) := by decide +kernel
theorem dX11_ends_93 : decode cX11_ends 93 = .ok (.invokevirtual 261, 3) := by decide +kernel
theorem dX11_ends_96 : decode cX11_ends 96 = .ok (.aload_n 0, 1) := by decide +kernel
theorem dX11_ends_97 : decode cX11_ends 97 = .ok (.iload_n 1, 1) := by decide +kernel
theorem dX11_ends_98 : decode cX11_ends 98 = .ok (.bipush 6, 2) := by decide +kernel
theorem dX11_ends_100 : decode cX11_ends 100 = .ok (.invokevirtual 261, 3) := by decide +kernel
theorem dX11_ends_103 : decode cX11_ends 103 = .ok (.lsub, 1) := by decide +kernel
theorem dX11_ends_104 : decode cX11_ends 104 = .ok (.l2i, 1) := by decide +kernel
theorem dX11_ends_105 : decode cX11_ends 105 = .ok (.invokevirtual 234, 3) := by decide +kernel
theorem dX11_ends_108 : decode cX11_ends 108 = .ok (.aload_n 0, 1) := by decide +kernel
theorem dX11_ends_109 : decode cX11_ends 109 = .ok (.iload_n 1, 1) := by decide +kernel
theorem dX11_ends_110 : decode cX11_ends 110 = .ok (.invokevirtual 272, 3) := by decide +kernel
theorem dX11_ends_113 : decode cX11_ends 113 = .ok (.return_, 1) := by decide +kernel
set_option maxRecDepth 100000 in
set_option maxHeartbeats 4000000 in
theorem m_X11_ends (l : Launch) (D : va_G) (ct : Nat → ClassId) (S : ty_S) (ws : va_W) (ph : va_W → Prop) (xx : Nat → Nat → Nat → Prop) (mo : Nat) (mw : Nat) (ma : Nat) (mf : Nat) (m0 : Nat) (m1 : Nat) (mu : Nat) (mv : Nat) (u0 : Nat) (u1 : Nat) (iz : Nat) (mb : Nat) (th : Int32) (mn : Int32) (mpt : Int32) (mbg : Int32) (mwr : Int32) (mwk : Int32) (mlf : Int32) (men : Int32) (f : Nat → Int32) (G : Nat → Int32) (cx : Int) (p1 : Int32) (sz : Nat) (hT : ty_V ct S ph ws) (h_mu : S mu = some (.inr (1, 42))) (h_mv : S mv = some (.inr (1, 42))) (h_u0 : S u0 = some (.inr (1, 42))) (h_u1 : S u1 = some (.inr (1, 42))) (hph : ty_C ph xx) (hy1 : ty_y1 xx) (hy11 : ty_y0 xx 11) (hR : rf_R G cx f) (hc : 0 ≤ p1.toInt ∧ p1.toInt < (G 9).toInt) (ho : rf_on G f p1) : Met l yX11_ends (ws_ yX11_ends cX11_ends 4 none) ({ frames := 2, cells := 0, slots := 0, locals := 45 } : Room) (va_Pc [.ref mo, .int p1] (cmP D ct sz ([(rf_MO mo mw ma mf m0 m1 mu mv u0 u1 iz th mb mn mpt mbg mwr mwk mlf men), (rf_RW ct 0 mw 958 f)] ++ ws))) (va_Qv (fun (u : va_W × (Nat → Int32)) => match u with | (u9, f1) => ty_V ct S ph u9 ∧ rf_d (f 8) f f1 ∧ rf_R G cx f1 ∧ rf_sm f f1) (cmB D ([(rf_MO mo mw ma mf m0 m1 mu mv u0 u1 iz th mb mn mpt mbg mwr mwk mlf men), (rf_RW ct 0 mw 958 f)] ++ ws) sz (fun (u : va_W × (Nat → Int32)) => match u with | (u9, f1) => ([(rf_MO mo mw ma mf m0 m1 mu mv u0 u1 iz th mb mn mpt mbg mwr mwk mlf men), (rf_RW ct 0 mw 958 f1)] ++ u9))) (va_A ([(rf_MO mo mw ma mf m0 m1 mu mv u0 u1 iz th mb mn mpt mbg mwr mwk mlf men), (rf_RW ct 0 mw 958 f)] ++ ws) sz)) 0 0 (va_A ([(rf_MO mo mw ma mf m0 m1 mu mv u0 u1 iz th mb mn mpt mbg mwr mwk mlf men), (rf_RW ct 0 mw 958 f)] ++ ws) sz) := by
  refine Met.ofW (cc := cX11_ends) (maxL := 4) (ret := none) (by decide) rfl ?_
  intro p e s m args below meth c s₁ B hml hv
  obtain ⟨rfl, hsz, hP, hK, hD0, hX⟩ := hv
  have hx := B.exec
  have hb := B.bytes
  have hr := B.returns
  have hts := ws_all (atoms_spec (ws := ws_ yX11_ends cX11_ends 4 none) B.pre)
  have hown : s.vm.findClass RX11 = some m.cls := findClass_of_methodNamed B.named
  have hlocks := B.notSynchronized
  subst hsz
  have hD := hD0.self (sz := s.heap.size)
  generalize hAe : va_A ([(rf_MO mo mw ma mf m0 m1 mu mv u0 u1 iz th mb mn mpt mbg mwr mwk mlf men), (rf_RW ct 0 mw 958 f)] ++ ws) s.heap.size = A at hD hX ⊢
  have hA : ∀ q : Nat, s.heap.size ≤ q → A q := fun q h => by rw [← hAe]; exact Or.inr h
  have hS : va_S A s.heap s.heap [] := va_S.rf
  have hl := lv_entry ([.ref mo, .int p1]) (n := 4) (Nat.le_of_ble_eq_true rfl)
  rw [lg_entry_eq]
  generalize (lg_sl ([.ref mo, .int p1]) ++ List.replicate (4 - (lg_sl ([.ref mo, .int p1])).length) Slot.unset).toArray = ls at hl ⊢
  have hl : lv_has ls 4 [(0, .ref mo), (1, .int p1)] := hl
  refine lv_aload_n hx hb dX11_ends_0 rfl (lv_at hl 0 rfl) ?_
  refine lv_iload_n hx hb dX11_ends_1 rfl (lv_at hl 1 rfl) ?_
  refine lv_iconst (v := 0) hx hb dX11_ends_2 (by decide) ?_
  refine ty_ki (wr := []) (wc := ([(rf_MO mo mw ma mf m0 m1 mu mv u0 u1 iz th mb mn mpt mbg mwr mwk mlf men), (rf_RW ct 0 mw 958 f)] ++ ws)) (va_runV (As := [.int p1, .int 0]) (rest := []) ⟨hx, hb, hml, hown, hts⟩ (m_step_0 l D ct S ws ph xx mo mw ma mf m0 m1 mu mv u0 u1 iz mb th mn mpt mbg mwr mwk mlf men f G cx p1 _ hT h_mu h_mv h_u0 h_u1 hph hy1 hR hc ho) (cm_V 2 hts kc_X11_step ki_RX11 kl_RX11_228 kv_X11_step kx_X11_step kd_X11_step ⟨Nat.le_of_ble_eq_true rfl, Nat.le_of_ble_eq_true rfl⟩) (ty_preE (wr := []) (wc := ([(rf_MO mo mw ma mf m0 m1 mu mv u0 u1 iz th mb mn mpt mbg mwr mwk mlf men), (rf_RW ct 0 mw 958 f)] ++ ws)) (ci := 11) (q0 := 0) hP hK hD hS hA hX rfl rfl) rfl rfl hl.1 rfl (lv_room (Nat.le_of_ble_eq_true rfl)) dX11_ends_3 ⟨Nat.le_of_ble_eq_true rfl, Nat.le_of_ble_eq_true rfl⟩) hP hD hS hA (fun r_1 u H locs hw_2 hP hD hS => ?_)
  obtain ⟨ws_3, rfl⟩ : ∃ z, z = u := ⟨_, rfl⟩
  obtain ⟨hT, rfl⟩ := hw_2
  have hP : va_P D vwCl ([(rf_MO mo mw ma mf m0 m1 mu mv u0 u1 iz th mb mn mpt mbg mwr mwk mlf men), (rf_RW ct 0 mw 958 f)] ++ ws_3) H := hP
  have hD : va_D A ([(rf_MO mo mw ma mf m0 m1 mu mv u0 u1 iz th mb mn mpt mbg mwr mwk mlf men), (rf_RW ct 0 mw 958 f)] ++ ws_3) := hD
  refine lv_istore_n (lv' := [(2, .int (rf_st3 f p1 0)), (0, .ref mo), (1, .int p1)]) hx hb dX11_ends_6 rfl hl (by decide) rfl (fun ls hl => ?_)
  refine lv_iload_n hx hb dX11_ends_7 rfl (lv_at hl 0 rfl) ?_
  refine lv_iconst (v := 1) hx hb dX11_ends_8 (by decide) ?_
  refine lv_icmp_ne (tgt := 20) hx hb dX11_ends_9 (by decide) (fun hc_4 => ?_) (fun hc_4 => ?_)
  · refine lv_iload_n hx hb dX11_ends_20 rfl (lv_at hl 0 rfl) ?_
    refine lv_iconst (v := 3) hx hb dX11_ends_21 (by decide) ?_
    refine lv_icmp_ne (tgt := 38) hx hb dX11_ends_22 (by decide) (fun hc_5 => ?_) (fun hc_5 => ?_)
    · refine lv_iload_n hx hb dX11_ends_38 rfl (lv_at hl 0 rfl) ?_
      refine lv_iconst (v := 2) hx hb dX11_ends_39 (by decide) ?_
      refine lv_icmp_eq (tgt := 44) hx hb dX11_ends_40 (by decide) (fun hc_6 => ?_) (fun hc_6 => ?_)
      · refine lv_aload_n hx hb dX11_ends_44 rfl (lv_at hl 1 rfl) ?_
        refine lv_iload_n hx hb dX11_ends_45 rfl (lv_at hl 2 rfl) ?_
        refine lv_bipush (v := 21) hx hb dX11_ends_46 (by decide) ?_
        refine ty_ki (wr := []) (wc := ([(rf_MO mo mw ma mf m0 m1 mu mv u0 u1 iz th mb mn mpt mbg mwr mwk mlf men), (rf_RW ct 0 mw 958 f)] ++ ws_3)) (va_runV (As := [.int p1, .int 21]) (rest := []) ⟨hx, hb, hml, hown, hts⟩ (m_of_21 l D ct S ws_3 ph xx mo mw ma mf m0 m1 mu mv u0 u1 iz mb th mn mpt mbg mwr mwk mlf men f G cx p1 _ hT h_mu h_mv h_u0 h_u1 hph hy1 hR hc) (cm_V 2 hts kc_X11_of ki_RX11 kl_RX11_209 kv_X11_of kx_X11_of kd_X11_of ⟨Nat.le_of_ble_eq_true rfl, Nat.le_of_ble_eq_true rfl⟩) (ty_preE (wr := []) (wc := ([(rf_MO mo mw ma mf m0 m1 mu mv u0 u1 iz th mb mn mpt mbg mwr mwk mlf men), (rf_RW ct 0 mw 958 f)] ++ ws_3)) (ci := 11) (q0 := 0) hP hK hD hS hA hX rfl rfl) rfl rfl hl.1 rfl (lv_room (Nat.le_of_ble_eq_true rfl)) dX11_ends_48 ⟨Nat.le_of_ble_eq_true rfl, Nat.le_of_ble_eq_true rfl⟩) hP hD hS hA (fun r_7 u H locs hw_8 hP hD hS => ?_)
        obtain ⟨ws_9, rfl⟩ : ∃ z, z = u := ⟨_, rfl⟩
        obtain ⟨hT, rfl⟩ := hw_8
        have hP : va_P D vwCl ([(rf_MO mo mw ma mf m0 m1 mu mv u0 u1 iz th mb mn mpt mbg mwr mwk mlf men), (rf_RW ct 0 mw 958 f)] ++ ws_9) H := hP
        have hD : va_D A ([(rf_MO mo mw ma mf m0 m1 mu mv u0 u1 iz th mb mn mpt mbg mwr mwk mlf men), (rf_RW ct 0 mw 958 f)] ++ ws_9) := hD
        refine lv_iconst (v := 1) hx hb dX11_ends_51 (by decide) ?_
        refine lv_icmp_ne (tgt := 74) hx hb dX11_ends_52 (by decide) (fun hc_10 => ?_) (fun hc_10 => ?_)
        · refine lv_iconst (v := 0) hx hb dX11_ends_74 (by decide) ?_
          refine lv_istore_n (lv' := [(3, .int 0), (2, .int (rf_st3 f p1 0)), (0, .ref mo), (1, .int p1)]) hx hb dX11_ends_75 rfl hl (by decide) rfl (fun ls hl => ?_)
          refine lv_aload_n hx hb dX11_ends_76 rfl (lv_at hl 2 rfl) ?_
          refine lv_iload_n hx hb dX11_ends_77 rfl (lv_at hl 3 rfl) ?_
          refine lv_iload_n hx hb dX11_ends_78 rfl (lv_at hl 0 rfl) ?_
          refine ty_kv (wr := []) (wc := ([(rf_MO mo mw ma mf m0 m1 mu mv u0 u1 iz th mb mn mpt mbg mwr mwk mlf men), (rf_RW ct 0 mw 958 f)] ++ ws_9)) (va_runV (As := [.int p1, .int 0]) (rest := []) ⟨hx, hb, hml, hown, hts⟩ (m_X11_records l D ct S ws_9 ph xx mo mw ma mf m0 m1 mu mv u0 u1 iz mb th mn mpt mbg mwr mwk mlf men f G cx p1 (0 : Int32) _ hT h_mu h_mv h_u0 h_u1 hph hy1 hR hc) (cm_V 2 hts kc_X11_records ki_RX11 kl_RX11_268 kv_X11_records kx_X11_records kd_X11_records ⟨Nat.le_of_ble_eq_true rfl, Nat.le_of_ble_eq_true rfl⟩) (ty_preE (wr := []) (wc := ([(rf_MO mo mw ma mf m0 m1 mu mv u0 u1 iz th mb mn mpt mbg mwr mwk mlf men), (rf_RW ct 0 mw 958 f)] ++ ws_9)) (ci := 11) (q0 := 0) hP hK hD hS hA hX rfl rfl) rfl rfl hl.1 rfl (lv_room (Nat.le_of_ble_eq_true rfl)) dX11_ends_79 ⟨Nat.le_of_ble_eq_true rfl, Nat.le_of_ble_eq_true rfl⟩) hP hD hS hA (fun u H locs hw_12 hP hD hS => ?_)
          obtain ⟨ws_13, f1_14⟩ := u
          obtain ⟨hT, hp_15⟩ := hw_12
          have hp_15 : rf_d (f 8) f f1_14 ∧ rf_R G cx f1_14 ∧ rf_sm f f1_14 := hp_15
          obtain ⟨hd_16, hq_17⟩ := hp_15
          have hD_18 := rf_dt (rf_dr f) hd_16
          have hR_19 := hq_17.1
          have hM_20 := rf_smt (rf_smr f) hq_17.2
          have ho_21 := rf_ons hR hc hq_17.2 ho
          have hP : va_P D vwCl ([(rf_MO mo mw ma mf m0 m1 mu mv u0 u1 iz th mb mn mpt mbg mwr mwk mlf men), (rf_RW ct 0 mw 958 f1_14)] ++ ws_13) H := hP
          have hD : va_D A ([(rf_MO mo mw ma mf m0 m1 mu mv u0 u1 iz th mb mn mpt mbg mwr mwk mlf men), (rf_RW ct 0 mw 958 f1_14)] ++ ws_13) := hD
          refine lv_iload_n hx hb dX11_ends_82 rfl (lv_at hl 0 rfl) ?_
          refine lv_if_eq (tgt := 108) hx hb dX11_ends_83 (by decide) (fun _ => ?_) (fun hc => absurd (by decide) hc)
          refine lv_aload_n hx hb dX11_ends_108 rfl (lv_at hl 2 rfl) ?_
          refine lv_iload_n hx hb dX11_ends_109 rfl (lv_at hl 3 rfl) ?_
          refine ty_kv (wr := []) (wc := ([(rf_MO mo mw ma mf m0 m1 mu mv u0 u1 iz th mb mn mpt mbg mwr mwk mlf men), (rf_RW ct 0 mw 958 f1_14)] ++ ws_13)) (va_runV (As := [.int p1]) (rest := []) ⟨hx, hb, hml, hown, hts⟩ (m_X11_clears l D ct S ws_13 ph xx mo mw ma mf m0 m1 mu mv u0 u1 iz mb th mn mpt mbg mwr mwk mlf men f1_14 G cx p1 _ hT h_mu h_mv h_u0 h_u1 hph hy1 hy11 hR_19 hc) (cm_V 1 hts kc_X11_clears ki_RX11 kl_RX11_272 kv_X11_clears kx_X11_clears kd_X11_clears ⟨Nat.le_of_ble_eq_true rfl, Nat.le_of_ble_eq_true rfl⟩) (ty_preE (wr := []) (wc := ([(rf_MO mo mw ma mf m0 m1 mu mv u0 u1 iz th mb mn mpt mbg mwr mwk mlf men), (rf_RW ct 0 mw 958 f1_14)] ++ ws_13)) (ci := 11) (q0 := 0) hP hK hD hS hA hX rfl rfl) rfl rfl hl.1 rfl (lv_room (Nat.le_of_ble_eq_true rfl)) dX11_ends_110 ⟨Nat.le_of_ble_eq_true rfl, Nat.le_of_ble_eq_true rfl⟩) hP hD hS hA (fun u H locs hw_23 hP hD hS => ?_)
          obtain ⟨ws_24, f1_25⟩ := u
          obtain ⟨hT, hp_26⟩ := hw_23
          have hp_26 : rf_d (f1_14 8) f1_14 f1_25 ∧ rf_R G cx f1_25 ∧ rf_sm f1_14 f1_25 := hp_26
          obtain ⟨hd_27, hq_28⟩ := hp_26
          have hD_29 := rf_dt hD_18 hd_27
          have hR_30 := hq_28.1
          have hM_31 := rf_smt hM_20 hq_28.2
          have ho_32 := rf_ons hR_19 hc hq_28.2 ho_21
          have hP : va_P D vwCl ([(rf_MO mo mw ma mf m0 m1 mu mv u0 u1 iz th mb mn mpt mbg mwr mwk mlf men), (rf_RW ct 0 mw 958 f1_25)] ++ ws_24) H := hP
          have hD : va_D A ([(rf_MO mo mw ma mf m0 m1 mu mv u0 u1 iz th mb mn mpt mbg mwr mwk mlf men), (rf_RW ct 0 mw 958 f1_25)] ++ ws_24) := hD
          exact W.vret hx hb hr (fun t ht hW => ⟨⟨(ws_24, f1_25), rfl, ⟨hT, ⟨hD_29, hR_30, hM_31⟩⟩, by rw [ht]; exact hP, by rw [hAe]; exact hD⟩, hS.F ht⟩) hS.2.2 dX11_ends_113
        · refine lv_aload_n hx hb dX11_ends_55 rfl (lv_at hl 1 rfl) ?_
          refine lv_iload_n hx hb dX11_ends_56 rfl (lv_at hl 2 rfl) ?_
          refine lv_iconst (v := 5) hx hb dX11_ends_57 (by decide) ?_
          refine ty_ki (wr := []) (wc := ([(rf_MO mo mw ma mf m0 m1 mu mv u0 u1 iz th mb mn mpt mbg mwr mwk mlf men), (rf_RW ct 0 mw 958 f)] ++ ws_9)) (va_runV (As := [.int p1, .int 5]) (rest := []) ⟨hx, hb, hml, hown, hts⟩ (m_of_5 l D ct S ws_9 ph xx mo mw ma mf m0 m1 mu mv u0 u1 iz mb th mn mpt mbg mwr mwk mlf men f G cx p1 _ hT h_mu h_mv h_u0 h_u1 hph hy1 hR hc) (cm_V 2 hts kc_X11_of ki_RX11 kl_RX11_209 kv_X11_of kx_X11_of kd_X11_of ⟨Nat.le_of_ble_eq_true rfl, Nat.le_of_ble_eq_true rfl⟩) (ty_preE (wr := []) (wc := ([(rf_MO mo mw ma mf m0 m1 mu mv u0 u1 iz th mb mn mpt mbg mwr mwk mlf men), (rf_RW ct 0 mw 958 f)] ++ ws_9)) (ci := 11) (q0 := 0) hP hK hD hS hA hX rfl rfl) rfl rfl hl.1 rfl (lv_room (Nat.le_of_ble_eq_true rfl)) dX11_ends_58 ⟨Nat.le_of_ble_eq_true rfl, Nat.le_of_ble_eq_true rfl⟩) hP hD hS hA (fun r_33 u H locs hw_34 hP hD hS => ?_)
          obtain ⟨ws_35, rfl⟩ : ∃ z, z = u := ⟨_, rfl⟩
          obtain ⟨hT, rfl⟩ := hw_34
          have hP : va_P D vwCl ([(rf_MO mo mw ma mf m0 m1 mu mv u0 u1 iz th mb mn mpt mbg mwr mwk mlf men), (rf_RW ct 0 mw 958 f)] ++ ws_35) H := hP
          have hD : va_D A ([(rf_MO mo mw ma mf m0 m1 mu mv u0 u1 iz th mb mn mpt mbg mwr mwk mlf men), (rf_RW ct 0 mw 958 f)] ++ ws_35) := hD
          refine lv_aload_n hx hb dX11_ends_61 rfl (lv_at hl 1 rfl) ?_
          refine lv_iload_n hx hb dX11_ends_62 rfl (lv_at hl 2 rfl) ?_
          refine lv_iconst (v := 2) hx hb dX11_ends_63 (by decide) ?_
          refine ty_ki (wr := []) (wc := ([(rf_MO mo mw ma mf m0 m1 mu mv u0 u1 iz th mb mn mpt mbg mwr mwk mlf men), (rf_RW ct 0 mw 958 f)] ++ ws_35)) (va_runV (As := [.int p1, .int 2]) (rest := [.int (rf_of f p1 5)]) ⟨hx, hb, hml, hown, hts⟩ (m_step_2 l D ct S ws_35 ph xx mo mw ma mf m0 m1 mu mv u0 u1 iz mb th mn mpt mbg mwr mwk mlf men f G cx p1 _ hT h_mu h_mv h_u0 h_u1 hph hy1 hR hc ho) (cm_V 2 hts kc_X11_step ki_RX11 kl_RX11_228 kv_X11_step kx_X11_step kd_X11_step ⟨Nat.le_of_ble_eq_true rfl, Nat.le_of_ble_eq_true rfl⟩) (ty_preE (wr := []) (wc := ([(rf_MO mo mw ma mf m0 m1 mu mv u0 u1 iz th mb mn mpt mbg mwr mwk mlf men), (rf_RW ct 0 mw 958 f)] ++ ws_35)) (ci := 11) (q0 := 0) hP hK hD hS hA hX rfl rfl) rfl rfl hl.1 rfl (lv_room (Nat.le_of_ble_eq_true rfl)) dX11_ends_64 ⟨Nat.le_of_ble_eq_true rfl, Nat.le_of_ble_eq_true rfl⟩) hP hD hS hA (fun r_36 u H locs hw_37 hP hD hS => ?_)
          obtain ⟨ws_38, rfl⟩ : ∃ z, z = u := ⟨_, rfl⟩
          obtain ⟨hT, rfl⟩ := hw_37
          have hP : va_P D vwCl ([(rf_MO mo mw ma mf m0 m1 mu mv u0 u1 iz th mb mn mpt mbg mwr mwk mlf men), (rf_RW ct 0 mw 958 f)] ++ ws_38) H := hP
          have hD : va_D A ([(rf_MO mo mw ma mf m0 m1 mu mv u0 u1 iz th mb mn mpt mbg mwr mwk mlf men), (rf_RW ct 0 mw 958 f)] ++ ws_38) := hD
          refine lv_icmp_gt (tgt := 74) hx hb dX11_ends_67 (by decide) (fun hc_39 => ?_) (fun hc_39 => ?_)
          · refine lv_iconst (v := 0) hx hb dX11_ends_74 (by decide) ?_
            refine lv_istore_n (lv' := [(3, .int 0), (2, .int (rf_st3 f p1 0)), (0, .ref mo), (1, .int p1)]) hx hb dX11_ends_75 rfl hl (by decide) rfl (fun ls hl => ?_)
            refine lv_aload_n hx hb dX11_ends_76 rfl (lv_at hl 2 rfl) ?_
            refine lv_iload_n hx hb dX11_ends_77 rfl (lv_at hl 3 rfl) ?_
            refine lv_iload_n hx hb dX11_ends_78 rfl (lv_at hl 0 rfl) ?_
            refine ty_kv (wr := []) (wc := ([(rf_MO mo mw ma mf m0 m1 mu mv u0 u1 iz th mb mn mpt mbg mwr mwk mlf men), (rf_RW ct 0 mw 958 f)] ++ ws_38)) (va_runV (As := [.int p1, .int 0]) (rest := []) ⟨hx, hb, hml, hown, hts⟩ (m_X11_records l D ct S ws_38 ph xx mo mw ma mf m0 m1 mu mv u0 u1 iz mb th mn mpt mbg mwr mwk mlf men f G cx p1 (0 : Int32) _ hT h_mu h_mv h_u0 h_u1 hph hy1 hR hc) (cm_V 2 hts kc_X11_records ki_RX11 kl_RX11_268 kv_X11_records kx_X11_records kd_X11_records ⟨Nat.le_of_ble_eq_true rfl, Nat.le_of_ble_eq_true rfl⟩) (ty_preE (wr := []) (wc := ([(rf_MO mo mw ma mf m0 m1 mu mv u0 u1 iz th mb mn mpt mbg mwr mwk mlf men), (rf_RW ct 0 mw 958 f)] ++ ws_38)) (ci := 11) (q0 := 0) hP hK hD hS hA hX rfl rfl) rfl rfl hl.1 rfl (lv_room (Nat.le_of_ble_eq_true rfl)) dX11_ends_79 ⟨Nat.le_of_ble_eq_true rfl, Nat.le_of_ble_eq_true rfl⟩) hP hD hS hA (fun u H locs hw_41 hP hD hS => ?_)
            obtain ⟨ws_42, f1_43⟩ := u
            obtain ⟨hT, hp_44⟩ := hw_41
            have hp_44 : rf_d (f 8) f f1_43 ∧ rf_R G cx f1_43 ∧ rf_sm f f1_43 := hp_44
            obtain ⟨hd_45, hq_46⟩ := hp_44
            have hD_47 := rf_dt (rf_dr f) hd_45
            have hR_48 := hq_46.1
            have hM_49 := rf_smt (rf_smr f) hq_46.2
            have ho_50 := rf_ons hR hc hq_46.2 ho
            have hP : va_P D vwCl ([(rf_MO mo mw ma mf m0 m1 mu mv u0 u1 iz th mb mn mpt mbg mwr mwk mlf men), (rf_RW ct 0 mw 958 f1_43)] ++ ws_42) H := hP
            have hD : va_D A ([(rf_MO mo mw ma mf m0 m1 mu mv u0 u1 iz th mb mn mpt mbg mwr mwk mlf men), (rf_RW ct 0 mw 958 f1_43)] ++ ws_42) := hD
            refine lv_iload_n hx hb dX11_ends_82 rfl (lv_at hl 0 rfl) ?_
            refine lv_if_eq (tgt := 108) hx hb dX11_ends_83 (by decide) (fun _ => ?_) (fun hc => absurd (by decide) hc)
            refine lv_aload_n hx hb dX11_ends_108 rfl (lv_at hl 2 rfl) ?_
            refine lv_iload_n hx hb dX11_ends_109 rfl (lv_at hl 3 rfl) ?_
            refine ty_kv (wr := []) (wc := ([(rf_MO mo mw ma mf m0 m1 mu mv u0 u1 iz th mb mn mpt mbg mwr mwk mlf men), (rf_RW ct 0 mw 958 f1_43)] ++ ws_42)) (va_runV (As := [.int p1]) (rest := []) ⟨hx, hb, hml, hown, hts⟩ (m_X11_clears l D ct S ws_42 ph xx mo mw ma mf m0 m1 mu mv u0 u1 iz mb th mn mpt mbg mwr mwk mlf men f1_43 G cx p1 _ hT h_mu h_mv h_u0 h_u1 hph hy1 hy11 hR_48 hc) (cm_V 1 hts kc_X11_clears ki_RX11 kl_RX11_272 kv_X11_clears kx_X11_clears kd_X11_clears ⟨Nat.le_of_ble_eq_true rfl, Nat.le_of_ble_eq_true rfl⟩) (ty_preE (wr := []) (wc := ([(rf_MO mo mw ma mf m0 m1 mu mv u0 u1 iz th mb mn mpt mbg mwr mwk mlf men), (rf_RW ct 0 mw 958 f1_43)] ++ ws_42)) (ci := 11) (q0 := 0) hP hK hD hS hA hX rfl rfl) rfl rfl hl.1 rfl (lv_room (Nat.le_of_ble_eq_true rfl)) dX11_ends_110 ⟨Nat.le_of_ble_eq_true rfl, Nat.le_of_ble_eq_true rfl⟩) hP hD hS hA (fun u H locs hw_52 hP hD hS => ?_)
            obtain ⟨ws_53, f1_54⟩ := u
            obtain ⟨hT, hp_55⟩ := hw_52
            have hp_55 : rf_d (f1_43 8) f1_43 f1_54 ∧ rf_R G cx f1_54 ∧ rf_sm f1_43 f1_54 := hp_55
            obtain ⟨hd_56, hq_57⟩ := hp_55
            have hD_58 := rf_dt hD_47 hd_56
            have hR_59 := hq_57.1
            have hM_60 := rf_smt hM_49 hq_57.2
            have ho_61 := rf_ons hR_48 hc hq_57.2 ho_50
            have hP : va_P D vwCl ([(rf_MO mo mw ma mf m0 m1 mu mv u0 u1 iz th mb mn mpt mbg mwr mwk mlf men), (rf_RW ct 0 mw 958 f1_54)] ++ ws_53) H := hP
            have hD : va_D A ([(rf_MO mo mw ma mf m0 m1 mu mv u0 u1 iz th mb mn mpt mbg mwr mwk mlf men), (rf_RW ct 0 mw 958 f1_54)] ++ ws_53) := hD
            exact W.vret hx hb hr (fun t ht hW => ⟨⟨(ws_53, f1_54), rfl, ⟨hT, ⟨hD_58, hR_59, hM_60⟩⟩, by rw [ht]; exact hP, by rw [hAe]; exact hD⟩, hS.F ht⟩) hS.2.2 dX11_ends_113
          · refine lv_iconst (v := 1) hx hb dX11_ends_70 (by decide) ?_
            refine lv_goto (tgt := 75) hx hb dX11_ends_71 (by decide) ?_
            refine lv_istore_n (lv' := [(3, .int 1), (2, .int (rf_st3 f p1 0)), (0, .ref mo), (1, .int p1)]) hx hb dX11_ends_75 rfl hl (by decide) rfl (fun ls hl => ?_)
            refine lv_aload_n hx hb dX11_ends_76 rfl (lv_at hl 2 rfl) ?_
            refine lv_iload_n hx hb dX11_ends_77 rfl (lv_at hl 3 rfl) ?_
            refine lv_iload_n hx hb dX11_ends_78 rfl (lv_at hl 0 rfl) ?_
            refine ty_kv (wr := []) (wc := ([(rf_MO mo mw ma mf m0 m1 mu mv u0 u1 iz th mb mn mpt mbg mwr mwk mlf men), (rf_RW ct 0 mw 958 f)] ++ ws_38)) (va_runV (As := [.int p1, .int 1]) (rest := []) ⟨hx, hb, hml, hown, hts⟩ (m_X11_records l D ct S ws_38 ph xx mo mw ma mf m0 m1 mu mv u0 u1 iz mb th mn mpt mbg mwr mwk mlf men f G cx p1 (1 : Int32) _ hT h_mu h_mv h_u0 h_u1 hph hy1 hR hc) (cm_V 2 hts kc_X11_records ki_RX11 kl_RX11_268 kv_X11_records kx_X11_records kd_X11_records ⟨Nat.le_of_ble_eq_true rfl, Nat.le_of_ble_eq_true rfl⟩) (ty_preE (wr := []) (wc := ([(rf_MO mo mw ma mf m0 m1 mu mv u0 u1 iz th mb mn mpt mbg mwr mwk mlf men), (rf_RW ct 0 mw 958 f)] ++ ws_38)) (ci := 11) (q0 := 0) hP hK hD hS hA hX rfl rfl) rfl rfl hl.1 rfl (lv_room (Nat.le_of_ble_eq_true rfl)) dX11_ends_79 ⟨Nat.le_of_ble_eq_true rfl, Nat.le_of_ble_eq_true rfl⟩) hP hD hS hA (fun u H locs hw_63 hP hD hS => ?_)
            obtain ⟨ws_64, f1_65⟩ := u
            obtain ⟨hT, hp_66⟩ := hw_63
            have hp_66 : rf_d (f 8) f f1_65 ∧ rf_R G cx f1_65 ∧ rf_sm f f1_65 := hp_66
            obtain ⟨hd_67, hq_68⟩ := hp_66
            have hD_69 := rf_dt (rf_dr f) hd_67
            have hR_70 := hq_68.1
            have hM_71 := rf_smt (rf_smr f) hq_68.2
            have ho_72 := rf_ons hR hc hq_68.2 ho
            have hP : va_P D vwCl ([(rf_MO mo mw ma mf m0 m1 mu mv u0 u1 iz th mb mn mpt mbg mwr mwk mlf men), (rf_RW ct 0 mw 958 f1_65)] ++ ws_64) H := hP
            have hD : va_D A ([(rf_MO mo mw ma mf m0 m1 mu mv u0 u1 iz th mb mn mpt mbg mwr mwk mlf men), (rf_RW ct 0 mw 958 f1_65)] ++ ws_64) := hD
            refine lv_iload_n hx hb dX11_ends_82 rfl (lv_at hl 0 rfl) ?_
            refine lv_if_eq (tgt := 108) hx hb dX11_ends_83 (by decide) (fun hc => absurd hc (by decide)) (fun _ => ?_)
            refine lv_aload_n hx hb dX11_ends_86 rfl (lv_at hl 2 rfl) ?_
            refine lv_iload_n hx hb dX11_ends_87 rfl (lv_at hl 3 rfl) ?_
            refine lv_bipush (v := 20) hx hb dX11_ends_88 (by decide) ?_
            refine lv_aload_n hx hb dX11_ends_90 rfl (lv_at hl 2 rfl) ?_
            refine lv_iload_n hx hb dX11_ends_91 rfl (lv_at hl 3 rfl) ?_
            refine lv_iconst (v := 1) hx hb dX11_ends_92 (by decide) ?_
            have hP : va_P D vwCl ([(rf_RW ct 0 mw 958 f1_65), (rf_MO mo mw ma mf m0 m1 mu mv u0 u1 iz th mb mn mpt mbg mwr mwk mlf men)] ++ ws_64) H := ty_permP hP (ty_ordp (E := [(rf_MO mo mw ma mf m0 m1 mu mv u0 u1 iz th mb mn mpt mbg mwr mwk mlf men), (rf_RW ct 0 mw 958 f1_65)]) (E2 := [(rf_RW ct 0 mw 958 f1_65), (rf_MO mo mw ma mf m0 m1 mu mv u0 u1 iz th mb mn mpt mbg mwr mwk mlf men)]) (n := 2) [1, 0] rfl rfl (by decide))
            have hD : va_D A ([(rf_RW ct 0 mw 958 f1_65), (rf_MO mo mw ma mf m0 m1 mu mv u0 u1 iz th mb mn mpt mbg mwr mwk mlf men)] ++ ws_64) := ty_permD hD (ty_ordp (E := [(rf_MO mo mw ma mf m0 m1 mu mv u0 u1 iz th mb mn mpt mbg mwr mwk mlf men), (rf_RW ct 0 mw 958 f1_65)]) (E2 := [(rf_RW ct 0 mw 958 f1_65), (rf_MO mo mw ma mf m0 m1 mu mv u0 u1 iz th mb mn mpt mbg mwr mwk mlf men)]) (n := 2) [1, 0] rfl rfl (by decide))
            refine ty_kl (wr := [(rf_RW ct 0 mw 958 f1_65)]) (wc := ([(rf_MO mo mw ma mf m0 m1 mu mv u0 u1 iz th mb mn mpt mbg mwr mwk mlf men)] ++ ws_64)) (va_runV (As := [.int p1, .int 1]) (rest := [.int 20, .int p1, .ref mo]) ⟨hx, hb, hml, hown, hts⟩ (m_X11_sum l D ct S ws_64 ph xx mo mw ma mf m0 m1 mu mv u0 u1 iz mb th mn mpt mbg mwr mwk mlf men p1 (1 : Int32) _ hT h_mu h_mv h_u0 h_u1 hph hy1 (rf_c6 hR_70 hc) (by decide)) (cm_V 2 hts kc_X11_sum ki_RX11 kl_RX11_261 kv_X11_sum kx_X11_sum kd_X11_sum ⟨Nat.le_of_ble_eq_true rfl, Nat.le_of_ble_eq_true rfl⟩) (ty_preE (wr := [(rf_RW ct 0 mw 958 f1_65)]) (wc := ([(rf_MO mo mw ma mf m0 m1 mu mv u0 u1 iz th mb mn mpt mbg mwr mwk mlf men)] ++ ws_64)) (ci := 11) (q0 := 1) hP hK hD hS hA hX rfl rfl) rfl rfl hl.1 rfl (lv_room (Nat.le_of_ble_eq_true rfl)) dX11_ends_93 ⟨Nat.le_of_ble_eq_true rfl, Nat.le_of_ble_eq_true rfl⟩) hP hD hS hA (fun r_73 u H locs hw_74 hP hD hS => ?_)
            obtain ⟨ws_75, rfl⟩ : ∃ z, z = u := ⟨_, rfl⟩
            have hT := hw_74
            have hP : va_P D vwCl ([(rf_RW ct 0 mw 958 f1_65), (rf_MO mo mw ma mf m0 m1 mu mv u0 u1 iz th mb mn mpt mbg mwr mwk mlf men)] ++ ws_75) H := hP
            have hD : va_D A ([(rf_RW ct 0 mw 958 f1_65), (rf_MO mo mw ma mf m0 m1 mu mv u0 u1 iz th mb mn mpt mbg mwr mwk mlf men)] ++ ws_75) := hD
            refine lv_aload_n hx hb dX11_ends_96 rfl (lv_at hl 2 rfl) ?_
            refine lv_iload_n hx hb dX11_ends_97 rfl (lv_at hl 3 rfl) ?_
            refine lv_bipush (v := 6) hx hb dX11_ends_98 (by decide) ?_
            refine ty_kl (wr := [(rf_RW ct 0 mw 958 f1_65)]) (wc := ([(rf_MO mo mw ma mf m0 m1 mu mv u0 u1 iz th mb mn mpt mbg mwr mwk mlf men)] ++ ws_75)) (va_runV (As := [.int p1, .int 6]) (rest := [.long r_73, .int 20, .int p1, .ref mo]) ⟨hx, hb, hml, hown, hts⟩ (m_X11_sum l D ct S ws_75 ph xx mo mw ma mf m0 m1 mu mv u0 u1 iz mb th mn mpt mbg mwr mwk mlf men p1 (6 : Int32) _ hT h_mu h_mv h_u0 h_u1 hph hy1 (rf_c6 hR_70 hc) (by decide)) (cm_V 2 hts kc_X11_sum ki_RX11 kl_RX11_261 kv_X11_sum kx_X11_sum kd_X11_sum ⟨Nat.le_of_ble_eq_true rfl, Nat.le_of_ble_eq_true rfl⟩) (ty_preE (wr := [(rf_RW ct 0 mw 958 f1_65)]) (wc := ([(rf_MO mo mw ma mf m0 m1 mu mv u0 u1 iz th mb mn mpt mbg mwr mwk mlf men)] ++ ws_75)) (ci := 11) (q0 := 1) hP hK hD hS hA hX rfl rfl) rfl rfl hl.1 rfl (lv_room (Nat.le_of_ble_eq_true rfl)) dX11_ends_100 ⟨Nat.le_of_ble_eq_true rfl, Nat.le_of_ble_eq_true rfl⟩) hP hD hS hA (fun r_76 u H locs hw_77 hP hD hS => ?_)
            obtain ⟨ws_78, rfl⟩ : ∃ z, z = u := ⟨_, rfl⟩
            have hT := hw_77
            have hP : va_P D vwCl ([(rf_RW ct 0 mw 958 f1_65), (rf_MO mo mw ma mf m0 m1 mu mv u0 u1 iz th mb mn mpt mbg mwr mwk mlf men)] ++ ws_78) H := hP
            have hD : va_D A ([(rf_RW ct 0 mw 958 f1_65), (rf_MO mo mw ma mf m0 m1 mu mv u0 u1 iz th mb mn mpt mbg mwr mwk mlf men)] ++ ws_78) := hD
            refine lv_lsub hx hb dX11_ends_103 ?_
            refine lv_topl (fun x_79 _ => ?_)
            refine lv_l2i hx hb dX11_ends_104 rfl ?_
            refine lv_topi (fun x_80 _ => ?_)
            have hP : va_P D vwCl ([(rf_MO mo mw ma mf m0 m1 mu mv u0 u1 iz th mb mn mpt mbg mwr mwk mlf men), (rf_RW ct 0 mw 958 f1_65)] ++ ws_78) H := ty_permP hP (ty_ordp (E := [(rf_RW ct 0 mw 958 f1_65), (rf_MO mo mw ma mf m0 m1 mu mv u0 u1 iz th mb mn mpt mbg mwr mwk mlf men)]) (E2 := [(rf_MO mo mw ma mf m0 m1 mu mv u0 u1 iz th mb mn mpt mbg mwr mwk mlf men), (rf_RW ct 0 mw 958 f1_65)]) (n := 2) [1, 0] rfl rfl (by decide))
            have hD : va_D A ([(rf_MO mo mw ma mf m0 m1 mu mv u0 u1 iz th mb mn mpt mbg mwr mwk mlf men), (rf_RW ct 0 mw 958 f1_65)] ++ ws_78) := ty_permD hD (ty_ordp (E := [(rf_RW ct 0 mw 958 f1_65), (rf_MO mo mw ma mf m0 m1 mu mv u0 u1 iz th mb mn mpt mbg mwr mwk mlf men)]) (E2 := [(rf_MO mo mw ma mf m0 m1 mu mv u0 u1 iz th mb mn mpt mbg mwr mwk mlf men), (rf_RW ct 0 mw 958 f1_65)]) (n := 2) [1, 0] rfl rfl (by decide))
            refine ty_kv (wr := []) (wc := ([(rf_MO mo mw ma mf m0 m1 mu mv u0 u1 iz th mb mn mpt mbg mwr mwk mlf men), (rf_RW ct 0 mw 958 f1_65)] ++ ws_78)) (va_runV (As := [.int p1, .int 20, .int x_80]) (rest := []) ⟨hx, hb, hml, hown, hts⟩ (m_put_20 l D ct S ws_78 ph xx mo mw ma mf m0 m1 mu mv u0 u1 iz mb th mn mpt mbg mwr mwk mlf men f1_65 G cx p1 x_80 _ hT h_mu h_mv h_u0 h_u1 hph hy1 hR_70 hc) (cm_V 3 hts kc_X11_put ki_RX11 kl_RX11_234 kv_X11_put kx_X11_put kd_X11_put ⟨Nat.le_of_ble_eq_true rfl, Nat.le_of_ble_eq_true rfl⟩) (ty_preE (wr := []) (wc := ([(rf_MO mo mw ma mf m0 m1 mu mv u0 u1 iz th mb mn mpt mbg mwr mwk mlf men), (rf_RW ct 0 mw 958 f1_65)] ++ ws_78)) (ci := 11) (q0 := 0) hP hK hD hS hA hX rfl rfl) rfl rfl hl.1 rfl (lv_room (Nat.le_of_ble_eq_true rfl)) dX11_ends_105 ⟨Nat.le_of_ble_eq_true rfl, Nat.le_of_ble_eq_true rfl⟩) hP hD hS hA (fun u H locs hw_82 hP hD hS => ?_)
            obtain ⟨ws_83, f1_84⟩ := u
            obtain ⟨hT, hp_85⟩ := hw_82
            have hp_85 : rf_d (f1_65 8) f1_65 f1_84 ∧ rf_R G cx f1_84 ∧ rf_sm f1_65 f1_84 ∧ f1_84 = upd f1_65 (244 + 54 * p1.toInt.toNat + 20) x_80 := hp_85
            obtain ⟨hd_86, hq_87⟩ := hp_85
            have hD_88 := rf_dt hD_69 hd_86
            have hR_89 := hq_87.1
            have hM_90 := rf_smt hM_71 hq_87.2.1
            have ho_91 := rf_ons hR_70 hc hq_87.2.1 ho_72
            have hP : va_P D vwCl ([(rf_MO mo mw ma mf m0 m1 mu mv u0 u1 iz th mb mn mpt mbg mwr mwk mlf men), (rf_RW ct 0 mw 958 f1_84)] ++ ws_83) H := hP
            have hD : va_D A ([(rf_MO mo mw ma mf m0 m1 mu mv u0 u1 iz th mb mn mpt mbg mwr mwk mlf men), (rf_RW ct 0 mw 958 f1_84)] ++ ws_83) := hD
            refine lv_aload_n hx hb dX11_ends_108 rfl (lv_at hl 2 rfl) ?_
            refine lv_iload_n hx hb dX11_ends_109 rfl (lv_at hl 3 rfl) ?_
            refine ty_kv (wr := []) (wc := ([(rf_MO mo mw ma mf m0 m1 mu mv u0 u1 iz th mb mn mpt mbg mwr mwk mlf men), (rf_RW ct 0 mw 958 f1_84)] ++ ws_83)) (va_runV (As := [.int p1]) (rest := []) ⟨hx, hb, hml, hown, hts⟩ (m_X11_clears l D ct S ws_83 ph xx mo mw ma mf m0 m1 mu mv u0 u1 iz mb th mn mpt mbg mwr mwk mlf men f1_84 G cx p1 _ hT h_mu h_mv h_u0 h_u1 hph hy1 hy11 hR_89 hc) (cm_V 1 hts kc_X11_clears ki_RX11 kl_RX11_272 kv_X11_clears kx_X11_clears kd_X11_clears ⟨Nat.le_of_ble_eq_true rfl, Nat.le_of_ble_eq_true rfl⟩) (ty_preE (wr := []) (wc := ([(rf_MO mo mw ma mf m0 m1 mu mv u0 u1 iz th mb mn mpt mbg mwr mwk mlf men), (rf_RW ct 0 mw 958 f1_84)] ++ ws_83)) (ci := 11) (q0 := 0) hP hK hD hS hA hX rfl rfl) rfl rfl hl.1 rfl (lv_room (Nat.le_of_ble_eq_true rfl)) dX11_ends_110 ⟨Nat.le_of_ble_eq_true rfl, Nat.le_of_ble_eq_true rfl⟩) hP hD hS hA (fun u H locs hw_93 hP hD hS => ?_)
            obtain ⟨ws_94, f1_95⟩ := u
            obtain ⟨hT, hp_96⟩ := hw_93
            have hp_96 : rf_d (f1_84 8) f1_84 f1_95 ∧ rf_R G cx f1_95 ∧ rf_sm f1_84 f1_95 := hp_96
            obtain ⟨hd_97, hq_98⟩ := hp_96
            have hD_99 := rf_dt hD_88 hd_97
            have hR_100 := hq_98.1
            have hM_101 := rf_smt hM_90 hq_98.2
            have ho_102 := rf_ons hR_89 hc hq_98.2 ho_91
            have hP : va_P D vwCl ([(rf_MO mo mw ma mf m0 m1 mu mv u0 u1 iz th mb mn mpt mbg mwr mwk mlf men), (rf_RW ct 0 mw 958 f1_95)] ++ ws_94) H := hP
            have hD : va_D A ([(rf_MO mo mw ma mf m0 m1 mu mv u0 u1 iz th mb mn mpt mbg mwr mwk mlf men), (rf_RW ct 0 mw 958 f1_95)] ++ ws_94) := hD
            exact W.vret hx hb hr (fun t ht hW => ⟨⟨(ws_94, f1_95), rfl, ⟨hT, ⟨hD_99, hR_100, hM_101⟩⟩, by rw [ht]; exact hP, by rw [hAe]; exact hD⟩, hS.F ht⟩) hS.2.2 dX11_ends_113
      · exact W.vret hx hb hr (fun t ht hW => ⟨⟨(ws_3, f), rfl, ⟨hT, ⟨(rf_dr f), hR, (rf_smr f)⟩⟩, by rw [ht]; exact hP, by rw [hAe]; exact hD⟩, hS.F ht⟩) hS.2.2 dX11_ends_43
    · refine lv_aload_n hx hb dX11_ends_25 rfl (lv_at hl 1 rfl) ?_
      refine lv_iload_n hx hb dX11_ends_26 rfl (lv_at hl 2 rfl) ?_
      refine lv_bipush (v := 19) hx hb dX11_ends_27 (by decide) ?_
      refine lv_aload_n hx hb dX11_ends_29 rfl (lv_at hl 1 rfl) ?_
      refine lv_iload_n hx hb dX11_ends_30 rfl (lv_at hl 2 rfl) ?_
      refine lv_iconst (v := 5) hx hb dX11_ends_31 (by decide) ?_
      refine ty_ki (wr := []) (wc := ([(rf_MO mo mw ma mf m0 m1 mu mv u0 u1 iz th mb mn mpt mbg mwr mwk mlf men), (rf_RW ct 0 mw 958 f)] ++ ws_3)) (va_runV (As := [.int p1, .int 5]) (rest := [.int 19, .int p1, .ref mo]) ⟨hx, hb, hml, hown, hts⟩ (m_of_5 l D ct S ws_3 ph xx mo mw ma mf m0 m1 mu mv u0 u1 iz mb th mn mpt mbg mwr mwk mlf men f G cx p1 _ hT h_mu h_mv h_u0 h_u1 hph hy1 hR hc) (cm_V 2 hts kc_X11_of ki_RX11 kl_RX11_209 kv_X11_of kx_X11_of kd_X11_of ⟨Nat.le_of_ble_eq_true rfl, Nat.le_of_ble_eq_true rfl⟩) (ty_preE (wr := []) (wc := ([(rf_MO mo mw ma mf m0 m1 mu mv u0 u1 iz th mb mn mpt mbg mwr mwk mlf men), (rf_RW ct 0 mw 958 f)] ++ ws_3)) (ci := 11) (q0 := 0) hP hK hD hS hA hX rfl rfl) rfl rfl hl.1 rfl (lv_room (Nat.le_of_ble_eq_true rfl)) dX11_ends_32 ⟨Nat.le_of_ble_eq_true rfl, Nat.le_of_ble_eq_true rfl⟩) hP hD hS hA (fun r_103 u H locs hw_104 hP hD hS => ?_)
      obtain ⟨ws_105, rfl⟩ : ∃ z, z = u := ⟨_, rfl⟩
      obtain ⟨hT, rfl⟩ := hw_104
      have hP : va_P D vwCl ([(rf_MO mo mw ma mf m0 m1 mu mv u0 u1 iz th mb mn mpt mbg mwr mwk mlf men), (rf_RW ct 0 mw 958 f)] ++ ws_105) H := hP
      have hD : va_D A ([(rf_MO mo mw ma mf m0 m1 mu mv u0 u1 iz th mb mn mpt mbg mwr mwk mlf men), (rf_RW ct 0 mw 958 f)] ++ ws_105) := hD
      refine ty_kv (wr := []) (wc := ([(rf_MO mo mw ma mf m0 m1 mu mv u0 u1 iz th mb mn mpt mbg mwr mwk mlf men), (rf_RW ct 0 mw 958 f)] ++ ws_105)) (va_runV (As := [.int p1, .int 19, .int (rf_of f p1 5)]) (rest := []) ⟨hx, hb, hml, hown, hts⟩ (m_put_19 l D ct S ws_105 ph xx mo mw ma mf m0 m1 mu mv u0 u1 iz mb th mn mpt mbg mwr mwk mlf men f G cx p1 (rf_of f p1 5) _ hT h_mu h_mv h_u0 h_u1 hph hy1 hR hc) (cm_V 3 hts kc_X11_put ki_RX11 kl_RX11_234 kv_X11_put kx_X11_put kd_X11_put ⟨Nat.le_of_ble_eq_true rfl, Nat.le_of_ble_eq_true rfl⟩) (ty_preE (wr := []) (wc := ([(rf_MO mo mw ma mf m0 m1 mu mv u0 u1 iz th mb mn mpt mbg mwr mwk mlf men), (rf_RW ct 0 mw 958 f)] ++ ws_105)) (ci := 11) (q0 := 0) hP hK hD hS hA hX rfl rfl) rfl rfl hl.1 rfl (lv_room (Nat.le_of_ble_eq_true rfl)) dX11_ends_35 ⟨Nat.le_of_ble_eq_true rfl, Nat.le_of_ble_eq_true rfl⟩) hP hD hS hA (fun u H locs hw_107 hP hD hS => ?_)
      obtain ⟨ws_108, f1_109⟩ := u
      obtain ⟨hT, hp_110⟩ := hw_107
      have hp_110 : rf_d (f 8) f f1_109 ∧ rf_R G cx f1_109 ∧ rf_sm f f1_109 ∧ f1_109 = upd f (244 + 54 * p1.toInt.toNat + 19) (rf_of f p1 5) := hp_110
      obtain ⟨hd_111, hq_112⟩ := hp_110
      have hD_113 := rf_dt (rf_dr f) hd_111
      have hR_114 := hq_112.1
      have hM_115 := rf_smt (rf_smr f) hq_112.2.1
      have ho_116 := rf_ons hR hc hq_112.2.1 ho
      have hP : va_P D vwCl ([(rf_MO mo mw ma mf m0 m1 mu mv u0 u1 iz th mb mn mpt mbg mwr mwk mlf men), (rf_RW ct 0 mw 958 f1_109)] ++ ws_108) H := hP
      have hD : va_D A ([(rf_MO mo mw ma mf m0 m1 mu mv u0 u1 iz th mb mn mpt mbg mwr mwk mlf men), (rf_RW ct 0 mw 958 f1_109)] ++ ws_108) := hD
      refine lv_iload_n hx hb dX11_ends_38 rfl (lv_at hl 0 rfl) ?_
      refine lv_iconst (v := 2) hx hb dX11_ends_39 (by decide) ?_
      refine lv_icmp_eq (tgt := 44) hx hb dX11_ends_40 (by decide) (fun hc_117 => ?_) (fun hc_117 => ?_)
      · refine lv_aload_n hx hb dX11_ends_44 rfl (lv_at hl 1 rfl) ?_
        refine lv_iload_n hx hb dX11_ends_45 rfl (lv_at hl 2 rfl) ?_
        refine lv_bipush (v := 21) hx hb dX11_ends_46 (by decide) ?_
        refine ty_ki (wr := []) (wc := ([(rf_MO mo mw ma mf m0 m1 mu mv u0 u1 iz th mb mn mpt mbg mwr mwk mlf men), (rf_RW ct 0 mw 958 f1_109)] ++ ws_108)) (va_runV (As := [.int p1, .int 21]) (rest := []) ⟨hx, hb, hml, hown, hts⟩ (m_of_21 l D ct S ws_108 ph xx mo mw ma mf m0 m1 mu mv u0 u1 iz mb th mn mpt mbg mwr mwk mlf men f1_109 G cx p1 _ hT h_mu h_mv h_u0 h_u1 hph hy1 hR_114 hc) (cm_V 2 hts kc_X11_of ki_RX11 kl_RX11_209 kv_X11_of kx_X11_of kd_X11_of ⟨Nat.le_of_ble_eq_true rfl, Nat.le_of_ble_eq_true rfl⟩) (ty_preE (wr := []) (wc := ([(rf_MO mo mw ma mf m0 m1 mu mv u0 u1 iz th mb mn mpt mbg mwr mwk mlf men), (rf_RW ct 0 mw 958 f1_109)] ++ ws_108)) (ci := 11) (q0 := 0) hP hK hD hS hA hX rfl rfl) rfl rfl hl.1 rfl (lv_room (Nat.le_of_ble_eq_true rfl)) dX11_ends_48 ⟨Nat.le_of_ble_eq_true rfl, Nat.le_of_ble_eq_true rfl⟩) hP hD hS hA (fun r_118 u H locs hw_119 hP hD hS => ?_)
        obtain ⟨ws_120, rfl⟩ : ∃ z, z = u := ⟨_, rfl⟩
        obtain ⟨hT, rfl⟩ := hw_119
        have hP : va_P D vwCl ([(rf_MO mo mw ma mf m0 m1 mu mv u0 u1 iz th mb mn mpt mbg mwr mwk mlf men), (rf_RW ct 0 mw 958 f1_109)] ++ ws_120) H := hP
        have hD : va_D A ([(rf_MO mo mw ma mf m0 m1 mu mv u0 u1 iz th mb mn mpt mbg mwr mwk mlf men), (rf_RW ct 0 mw 958 f1_109)] ++ ws_120) := hD
        refine lv_iconst (v := 1) hx hb dX11_ends_51 (by decide) ?_
        refine lv_icmp_ne (tgt := 74) hx hb dX11_ends_52 (by decide) (fun hc_121 => ?_) (fun hc_121 => ?_)
        · refine lv_iconst (v := 0) hx hb dX11_ends_74 (by decide) ?_
          refine lv_istore_n (lv' := [(3, .int 0), (2, .int (rf_st3 f p1 0)), (0, .ref mo), (1, .int p1)]) hx hb dX11_ends_75 rfl hl (by decide) rfl (fun ls hl => ?_)
          refine lv_aload_n hx hb dX11_ends_76 rfl (lv_at hl 2 rfl) ?_
          refine lv_iload_n hx hb dX11_ends_77 rfl (lv_at hl 3 rfl) ?_
          refine lv_iload_n hx hb dX11_ends_78 rfl (lv_at hl 0 rfl) ?_
          refine ty_kv (wr := []) (wc := ([(rf_MO mo mw ma mf m0 m1 mu mv u0 u1 iz th mb mn mpt mbg mwr mwk mlf men), (rf_RW ct 0 mw 958 f1_109)] ++ ws_120)) (va_runV (As := [.int p1, .int 0]) (rest := []) ⟨hx, hb, hml, hown, hts⟩ (m_X11_records l D ct S ws_120 ph xx mo mw ma mf m0 m1 mu mv u0 u1 iz mb th mn mpt mbg mwr mwk mlf men f1_109 G cx p1 (0 : Int32) _ hT h_mu h_mv h_u0 h_u1 hph hy1 hR_114 hc) (cm_V 2 hts kc_X11_records ki_RX11 kl_RX11_268 kv_X11_records kx_X11_records kd_X11_records ⟨Nat.le_of_ble_eq_true rfl, Nat.le_of_ble_eq_true rfl⟩) (ty_preE (wr := []) (wc := ([(rf_MO mo mw ma mf m0 m1 mu mv u0 u1 iz th mb mn mpt mbg mwr mwk mlf men), (rf_RW ct 0 mw 958 f1_109)] ++ ws_120)) (ci := 11) (q0 := 0) hP hK hD hS hA hX rfl rfl) rfl rfl hl.1 rfl (lv_room (Nat.le_of_ble_eq_true rfl)) dX11_ends_79 ⟨Nat.le_of_ble_eq_true rfl, Nat.le_of_ble_eq_true rfl⟩) hP hD hS hA (fun u H locs hw_123 hP hD hS => ?_)
          obtain ⟨ws_124, f1_125⟩ := u
          obtain ⟨hT, hp_126⟩ := hw_123
          have hp_126 : rf_d (f1_109 8) f1_109 f1_125 ∧ rf_R G cx f1_125 ∧ rf_sm f1_109 f1_125 := hp_126
          obtain ⟨hd_127, hq_128⟩ := hp_126
          have hD_129 := rf_dt hD_113 hd_127
          have hR_130 := hq_128.1
          have hM_131 := rf_smt hM_115 hq_128.2
          have ho_132 := rf_ons hR_114 hc hq_128.2 ho_116
          have hP : va_P D vwCl ([(rf_MO mo mw ma mf m0 m1 mu mv u0 u1 iz th mb mn mpt mbg mwr mwk mlf men), (rf_RW ct 0 mw 958 f1_125)] ++ ws_124) H := hP
          have hD : va_D A ([(rf_MO mo mw ma mf m0 m1 mu mv u0 u1 iz th mb mn mpt mbg mwr mwk mlf men), (rf_RW ct 0 mw 958 f1_125)] ++ ws_124) := hD
          refine lv_iload_n hx hb dX11_ends_82 rfl (lv_at hl 0 rfl) ?_
          refine lv_if_eq (tgt := 108) hx hb dX11_ends_83 (by decide) (fun _ => ?_) (fun hc => absurd (by decide) hc)
          refine lv_aload_n hx hb dX11_ends_108 rfl (lv_at hl 2 rfl) ?_
          refine lv_iload_n hx hb dX11_ends_109 rfl (lv_at hl 3 rfl) ?_
          refine ty_kv (wr := []) (wc := ([(rf_MO mo mw ma mf m0 m1 mu mv u0 u1 iz th mb mn mpt mbg mwr mwk mlf men), (rf_RW ct 0 mw 958 f1_125)] ++ ws_124)) (va_runV (As := [.int p1]) (rest := []) ⟨hx, hb, hml, hown, hts⟩ (m_X11_clears l D ct S ws_124 ph xx mo mw ma mf m0 m1 mu mv u0 u1 iz mb th mn mpt mbg mwr mwk mlf men f1_125 G cx p1 _ hT h_mu h_mv h_u0 h_u1 hph hy1 hy11 hR_130 hc) (cm_V 1 hts kc_X11_clears ki_RX11 kl_RX11_272 kv_X11_clears kx_X11_clears kd_X11_clears ⟨Nat.le_of_ble_eq_true rfl, Nat.le_of_ble_eq_true rfl⟩) (ty_preE (wr := []) (wc := ([(rf_MO mo mw ma mf m0 m1 mu mv u0 u1 iz th mb mn mpt mbg mwr mwk mlf men), (rf_RW ct 0 mw 958 f1_125)] ++ ws_124)) (ci := 11) (q0 := 0) hP hK hD hS hA hX rfl rfl) rfl rfl hl.1 rfl (lv_room (Nat.le_of_ble_eq_true rfl)) dX11_ends_110 ⟨Nat.le_of_ble_eq_true rfl, Nat.le_of_ble_eq_true rfl⟩) hP hD hS hA (fun u H locs hw_134 hP hD hS => ?_)
          obtain ⟨ws_135, f1_136⟩ := u
          obtain ⟨hT, hp_137⟩ := hw_134
          have hp_137 : rf_d (f1_125 8) f1_125 f1_136 ∧ rf_R G cx f1_136 ∧ rf_sm f1_125 f1_136 := hp_137
          obtain ⟨hd_138, hq_139⟩ := hp_137
          have hD_140 := rf_dt hD_129 hd_138
          have hR_141 := hq_139.1
          have hM_142 := rf_smt hM_131 hq_139.2
          have ho_143 := rf_ons hR_130 hc hq_139.2 ho_132
          have hP : va_P D vwCl ([(rf_MO mo mw ma mf m0 m1 mu mv u0 u1 iz th mb mn mpt mbg mwr mwk mlf men), (rf_RW ct 0 mw 958 f1_136)] ++ ws_135) H := hP
          have hD : va_D A ([(rf_MO mo mw ma mf m0 m1 mu mv u0 u1 iz th mb mn mpt mbg mwr mwk mlf men), (rf_RW ct 0 mw 958 f1_136)] ++ ws_135) := hD
          exact W.vret hx hb hr (fun t ht hW => ⟨⟨(ws_135, f1_136), rfl, ⟨hT, ⟨hD_140, hR_141, hM_142⟩⟩, by rw [ht]; exact hP, by rw [hAe]; exact hD⟩, hS.F ht⟩) hS.2.2 dX11_ends_113
        · refine lv_aload_n hx hb dX11_ends_55 rfl (lv_at hl 1 rfl) ?_
          refine lv_iload_n hx hb dX11_ends_56 rfl (lv_at hl 2 rfl) ?_
          refine lv_iconst (v := 5) hx hb dX11_ends_57 (by decide) ?_
          refine ty_ki (wr := []) (wc := ([(rf_MO mo mw ma mf m0 m1 mu mv u0 u1 iz th mb mn mpt mbg mwr mwk mlf men), (rf_RW ct 0 mw 958 f1_109)] ++ ws_120)) (va_runV (As := [.int p1, .int 5]) (rest := []) ⟨hx, hb, hml, hown, hts⟩ (m_of_5 l D ct S ws_120 ph xx mo mw ma mf m0 m1 mu mv u0 u1 iz mb th mn mpt mbg mwr mwk mlf men f1_109 G cx p1 _ hT h_mu h_mv h_u0 h_u1 hph hy1 hR_114 hc) (cm_V 2 hts kc_X11_of ki_RX11 kl_RX11_209 kv_X11_of kx_X11_of kd_X11_of ⟨Nat.le_of_ble_eq_true rfl, Nat.le_of_ble_eq_true rfl⟩) (ty_preE (wr := []) (wc := ([(rf_MO mo mw ma mf m0 m1 mu mv u0 u1 iz th mb mn mpt mbg mwr mwk mlf men), (rf_RW ct 0 mw 958 f1_109)] ++ ws_120)) (ci := 11) (q0 := 0) hP hK hD hS hA hX rfl rfl) rfl rfl hl.1 rfl (lv_room (Nat.le_of_ble_eq_true rfl)) dX11_ends_58 ⟨Nat.le_of_ble_eq_true rfl, Nat.le_of_ble_eq_true rfl⟩) hP hD hS hA (fun r_144 u H locs hw_145 hP hD hS => ?_)
          obtain ⟨ws_146, rfl⟩ : ∃ z, z = u := ⟨_, rfl⟩
          obtain ⟨hT, rfl⟩ := hw_145
          have hP : va_P D vwCl ([(rf_MO mo mw ma mf m0 m1 mu mv u0 u1 iz th mb mn mpt mbg mwr mwk mlf men), (rf_RW ct 0 mw 958 f1_109)] ++ ws_146) H := hP
          have hD : va_D A ([(rf_MO mo mw ma mf m0 m1 mu mv u0 u1 iz th mb mn mpt mbg mwr mwk mlf men), (rf_RW ct 0 mw 958 f1_109)] ++ ws_146) := hD
          refine lv_aload_n hx hb dX11_ends_61 rfl (lv_at hl 1 rfl) ?_
          refine lv_iload_n hx hb dX11_ends_62 rfl (lv_at hl 2 rfl) ?_
          refine lv_iconst (v := 2) hx hb dX11_ends_63 (by decide) ?_
          refine ty_ki (wr := []) (wc := ([(rf_MO mo mw ma mf m0 m1 mu mv u0 u1 iz th mb mn mpt mbg mwr mwk mlf men), (rf_RW ct 0 mw 958 f1_109)] ++ ws_146)) (va_runV (As := [.int p1, .int 2]) (rest := [.int (rf_of f1_109 p1 5)]) ⟨hx, hb, hml, hown, hts⟩ (m_step_2 l D ct S ws_146 ph xx mo mw ma mf m0 m1 mu mv u0 u1 iz mb th mn mpt mbg mwr mwk mlf men f1_109 G cx p1 _ hT h_mu h_mv h_u0 h_u1 hph hy1 hR_114 hc ho_116) (cm_V 2 hts kc_X11_step ki_RX11 kl_RX11_228 kv_X11_step kx_X11_step kd_X11_step ⟨Nat.le_of_ble_eq_true rfl, Nat.le_of_ble_eq_true rfl⟩) (ty_preE (wr := []) (wc := ([(rf_MO mo mw ma mf m0 m1 mu mv u0 u1 iz th mb mn mpt mbg mwr mwk mlf men), (rf_RW ct 0 mw 958 f1_109)] ++ ws_146)) (ci := 11) (q0 := 0) hP hK hD hS hA hX rfl rfl) rfl rfl hl.1 rfl (lv_room (Nat.le_of_ble_eq_true rfl)) dX11_ends_64 ⟨Nat.le_of_ble_eq_true rfl, Nat.le_of_ble_eq_true rfl⟩) hP hD hS hA (fun r_147 u H locs hw_148 hP hD hS => ?_)
          obtain ⟨ws_149, rfl⟩ : ∃ z, z = u := ⟨_, rfl⟩
          obtain ⟨hT, rfl⟩ := hw_148
          have hP : va_P D vwCl ([(rf_MO mo mw ma mf m0 m1 mu mv u0 u1 iz th mb mn mpt mbg mwr mwk mlf men), (rf_RW ct 0 mw 958 f1_109)] ++ ws_149) H := hP
          have hD : va_D A ([(rf_MO mo mw ma mf m0 m1 mu mv u0 u1 iz th mb mn mpt mbg mwr mwk mlf men), (rf_RW ct 0 mw 958 f1_109)] ++ ws_149) := hD
          refine lv_icmp_gt (tgt := 74) hx hb dX11_ends_67 (by decide) (fun hc_150 => ?_) (fun hc_150 => ?_)
          · refine lv_iconst (v := 0) hx hb dX11_ends_74 (by decide) ?_
            refine lv_istore_n (lv' := [(3, .int 0), (2, .int (rf_st3 f p1 0)), (0, .ref mo), (1, .int p1)]) hx hb dX11_ends_75 rfl hl (by decide) rfl (fun ls hl => ?_)
            refine lv_aload_n hx hb dX11_ends_76 rfl (lv_at hl 2 rfl) ?_
            refine lv_iload_n hx hb dX11_ends_77 rfl (lv_at hl 3 rfl) ?_
            refine lv_iload_n hx hb dX11_ends_78 rfl (lv_at hl 0 rfl) ?_
            refine ty_kv (wr := []) (wc := ([(rf_MO mo mw ma mf m0 m1 mu mv u0 u1 iz th mb mn mpt mbg mwr mwk mlf men), (rf_RW ct 0 mw 958 f1_109)] ++ ws_149)) (va_runV (As := [.int p1, .int 0]) (rest := []) ⟨hx, hb, hml, hown, hts⟩ (m_X11_records l D ct S ws_149 ph xx mo mw ma mf m0 m1 mu mv u0 u1 iz mb th mn mpt mbg mwr mwk mlf men f1_109 G cx p1 (0 : Int32) _ hT h_mu h_mv h_u0 h_u1 hph hy1 hR_114 hc) (cm_V 2 hts kc_X11_records ki_RX11 kl_RX11_268 kv_X11_records kx_X11_records kd_X11_records ⟨Nat.le_of_ble_eq_true rfl, Nat.le_of_ble_eq_true rfl⟩) (ty_preE (wr := []) (wc := ([(rf_MO mo mw ma mf m0 m1 mu mv u0 u1 iz th mb mn mpt mbg mwr mwk mlf men), (rf_RW ct 0 mw 958 f1_109)] ++ ws_149)) (ci := 11) (q0 := 0) hP hK hD hS hA hX rfl rfl) rfl rfl hl.1 rfl (lv_room (Nat.le_of_ble_eq_true rfl)) dX11_ends_79 ⟨Nat.le_of_ble_eq_true rfl, Nat.le_of_ble_eq_true rfl⟩) hP hD hS hA (fun u H locs hw_152 hP hD hS => ?_)
            obtain ⟨ws_153, f1_154⟩ := u
            obtain ⟨hT, hp_155⟩ := hw_152
            have hp_155 : rf_d (f1_109 8) f1_109 f1_154 ∧ rf_R G cx f1_154 ∧ rf_sm f1_109 f1_154 := hp_155
            obtain ⟨hd_156, hq_157⟩ := hp_155
            have hD_158 := rf_dt hD_113 hd_156
            have hR_159 := hq_157.1
            have hM_160 := rf_smt hM_115 hq_157.2
            have ho_161 := rf_ons hR_114 hc hq_157.2 ho_116
            have hP : va_P D vwCl ([(rf_MO mo mw ma mf m0 m1 mu mv u0 u1 iz th mb mn mpt mbg mwr mwk mlf men), (rf_RW ct 0 mw 958 f1_154)] ++ ws_153) H := hP
            have hD : va_D A ([(rf_MO mo mw ma mf m0 m1 mu mv u0 u1 iz th mb mn mpt mbg mwr mwk mlf men), (rf_RW ct 0 mw 958 f1_154)] ++ ws_153) := hD
            refine lv_iload_n hx hb dX11_ends_82 rfl (lv_at hl 0 rfl) ?_
            refine lv_if_eq (tgt := 108) hx hb dX11_ends_83 (by decide) (fun _ => ?_) (fun hc => absurd (by decide) hc)
            refine lv_aload_n hx hb dX11_ends_108 rfl (lv_at hl 2 rfl) ?_
            refine lv_iload_n hx hb dX11_ends_109 rfl (lv_at hl 3 rfl) ?_
            refine ty_kv (wr := []) (wc := ([(rf_MO mo mw ma mf m0 m1 mu mv u0 u1 iz th mb mn mpt mbg mwr mwk mlf men), (rf_RW ct 0 mw 958 f1_154)] ++ ws_153)) (va_runV (As := [.int p1]) (rest := []) ⟨hx, hb, hml, hown, hts⟩ (m_X11_clears l D ct S ws_153 ph xx mo mw ma mf m0 m1 mu mv u0 u1 iz mb th mn mpt mbg mwr mwk mlf men f1_154 G cx p1 _ hT h_mu h_mv h_u0 h_u1 hph hy1 hy11 hR_159 hc) (cm_V 1 hts kc_X11_clears ki_RX11 kl_RX11_272 kv_X11_clears kx_X11_clears kd_X11_clears ⟨Nat.le_of_ble_eq_true rfl, Nat.le_of_ble_eq_true rfl⟩) (ty_preE (wr := []) (wc := ([(rf_MO mo mw ma mf m0 m1 mu mv u0 u1 iz th mb mn mpt mbg mwr mwk mlf men), (rf_RW ct 0 mw 958 f1_154)] ++ ws_153)) (ci := 11) (q0 := 0) hP hK hD hS hA hX rfl rfl) rfl rfl hl.1 rfl (lv_room (Nat.le_of_ble_eq_true rfl)) dX11_ends_110 ⟨Nat.le_of_ble_eq_true rfl, Nat.le_of_ble_eq_true rfl⟩) hP hD hS hA (fun u H locs hw_163 hP hD hS => ?_)
            obtain ⟨ws_164, f1_165⟩ := u
            obtain ⟨hT, hp_166⟩ := hw_163
            have hp_166 : rf_d (f1_154 8) f1_154 f1_165 ∧ rf_R G cx f1_165 ∧ rf_sm f1_154 f1_165 := hp_166
            obtain ⟨hd_167, hq_168⟩ := hp_166
            have hD_169 := rf_dt hD_158 hd_167
            have hR_170 := hq_168.1
            have hM_171 := rf_smt hM_160 hq_168.2
            have ho_172 := rf_ons hR_159 hc hq_168.2 ho_161
            have hP : va_P D vwCl ([(rf_MO mo mw ma mf m0 m1 mu mv u0 u1 iz th mb mn mpt mbg mwr mwk mlf men), (rf_RW ct 0 mw 958 f1_165)] ++ ws_164) H := hP
            have hD : va_D A ([(rf_MO mo mw ma mf m0 m1 mu mv u0 u1 iz th mb mn mpt mbg mwr mwk mlf men), (rf_RW ct 0 mw 958 f1_165)] ++ ws_164) := hD
            exact W.vret hx hb hr (fun t ht hW => ⟨⟨(ws_164, f1_165), rfl, ⟨hT, ⟨hD_169, hR_170, hM_171⟩⟩, by rw [ht]; exact hP, by rw [hAe]; exact hD⟩, hS.F ht⟩) hS.2.2 dX11_ends_113
          · refine lv_iconst (v := 1) hx hb dX11_ends_70 (by decide) ?_
            refine lv_goto (tgt := 75) hx hb dX11_ends_71 (by decide) ?_
            refine lv_istore_n (lv' := [(3, .int 1), (2, .int (rf_st3 f p1 0)), (0, .ref mo), (1, .int p1)]) hx hb dX11_ends_75 rfl hl (by decide) rfl (fun ls hl => ?_)
            refine lv_aload_n hx hb dX11_ends_76 rfl (lv_at hl 2 rfl) ?_
            refine lv_iload_n hx hb dX11_ends_77 rfl (lv_at hl 3 rfl) ?_
            refine lv_iload_n hx hb dX11_ends_78 rfl (lv_at hl 0 rfl) ?_
            refine ty_kv (wr := []) (wc := ([(rf_MO mo mw ma mf m0 m1 mu mv u0 u1 iz th mb mn mpt mbg mwr mwk mlf men), (rf_RW ct 0 mw 958 f1_109)] ++ ws_149)) (va_runV (As := [.int p1, .int 1]) (rest := []) ⟨hx, hb, hml, hown, hts⟩ (m_X11_records l D ct S ws_149 ph xx mo mw ma mf m0 m1 mu mv u0 u1 iz mb th mn mpt mbg mwr mwk mlf men f1_109 G cx p1 (1 : Int32) _ hT h_mu h_mv h_u0 h_u1 hph hy1 hR_114 hc) (cm_V 2 hts kc_X11_records ki_RX11 kl_RX11_268 kv_X11_records kx_X11_records kd_X11_records ⟨Nat.le_of_ble_eq_true rfl, Nat.le_of_ble_eq_true rfl⟩) (ty_preE (wr := []) (wc := ([(rf_MO mo mw ma mf m0 m1 mu mv u0 u1 iz th mb mn mpt mbg mwr mwk mlf men), (rf_RW ct 0 mw 958 f1_109)] ++ ws_149)) (ci := 11) (q0 := 0) hP hK hD hS hA hX rfl rfl) rfl rfl hl.1 rfl (lv_room (Nat.le_of_ble_eq_true rfl)) dX11_ends_79 ⟨Nat.le_of_ble_eq_true rfl, Nat.le_of_ble_eq_true rfl⟩) hP hD hS hA (fun u H locs hw_174 hP hD hS => ?_)
            obtain ⟨ws_175, f1_176⟩ := u
            obtain ⟨hT, hp_177⟩ := hw_174
            have hp_177 : rf_d (f1_109 8) f1_109 f1_176 ∧ rf_R G cx f1_176 ∧ rf_sm f1_109 f1_176 := hp_177
            obtain ⟨hd_178, hq_179⟩ := hp_177
            have hD_180 := rf_dt hD_113 hd_178
            have hR_181 := hq_179.1
            have hM_182 := rf_smt hM_115 hq_179.2
            have ho_183 := rf_ons hR_114 hc hq_179.2 ho_116
            have hP : va_P D vwCl ([(rf_MO mo mw ma mf m0 m1 mu mv u0 u1 iz th mb mn mpt mbg mwr mwk mlf men), (rf_RW ct 0 mw 958 f1_176)] ++ ws_175) H := hP
            have hD : va_D A ([(rf_MO mo mw ma mf m0 m1 mu mv u0 u1 iz th mb mn mpt mbg mwr mwk mlf men), (rf_RW ct 0 mw 958 f1_176)] ++ ws_175) := hD
            refine lv_iload_n hx hb dX11_ends_82 rfl (lv_at hl 0 rfl) ?_
            refine lv_if_eq (tgt := 108) hx hb dX11_ends_83 (by decide) (fun hc => absurd hc (by decide)) (fun _ => ?_)
            refine lv_aload_n hx hb dX11_ends_86 rfl (lv_at hl 2 rfl) ?_
            refine lv_iload_n hx hb dX11_ends_87 rfl (lv_at hl 3 rfl) ?_
            refine lv_bipush (v := 20) hx hb dX11_ends_88 (by decide) ?_
            refine lv_aload_n hx hb dX11_ends_90 rfl (lv_at hl 2 rfl) ?_
            refine lv_iload_n hx hb dX11_ends_91 rfl (lv_at hl 3 rfl) ?_
            refine lv_iconst (v := 1) hx hb dX11_ends_92 (by decide) ?_
            have hP : va_P D vwCl ([(rf_RW ct 0 mw 958 f1_176), (rf_MO mo mw ma mf m0 m1 mu mv u0 u1 iz th mb mn mpt mbg mwr mwk mlf men)] ++ ws_175) H := ty_permP hP (ty_ordp (E := [(rf_MO mo mw ma mf m0 m1 mu mv u0 u1 iz th mb mn mpt mbg mwr mwk mlf men), (rf_RW ct 0 mw 958 f1_176)]) (E2 := [(rf_RW ct 0 mw 958 f1_176), (rf_MO mo mw ma mf m0 m1 mu mv u0 u1 iz th mb mn mpt mbg mwr mwk mlf men)]) (n := 2) [1, 0] rfl rfl (by decide))
            have hD : va_D A ([(rf_RW ct 0 mw 958 f1_176), (rf_MO mo mw ma mf m0 m1 mu mv u0 u1 iz th mb mn mpt mbg mwr mwk mlf men)] ++ ws_175) := ty_permD hD (ty_ordp (E := [(rf_MO mo mw ma mf m0 m1 mu mv u0 u1 iz th mb mn mpt mbg mwr mwk mlf men), (rf_RW ct 0 mw 958 f1_176)]) (E2 := [(rf_RW ct 0 mw 958 f1_176), (rf_MO mo mw ma mf m0 m1 mu mv u0 u1 iz th mb mn mpt mbg mwr mwk mlf men)]) (n := 2) [1, 0] rfl rfl (by decide))
            refine ty_kl (wr := [(rf_RW ct 0 mw 958 f1_176)]) (wc := ([(rf_MO mo mw ma mf m0 m1 mu mv u0 u1 iz th mb mn mpt mbg mwr mwk mlf men)] ++ ws_175)) (va_runV (As := [.int p1, .int 1]) (rest := [.int 20, .int p1, .ref mo]) ⟨hx, hb, hml, hown, hts⟩ (m_X11_sum l D ct S ws_175 ph xx mo mw ma mf m0 m1 mu mv u0 u1 iz mb th mn mpt mbg mwr mwk mlf men p1 (1 : Int32) _ hT h_mu h_mv h_u0 h_u1 hph hy1 (rf_c6 hR_181 hc) (by decide)) (cm_V 2 hts kc_X11_sum ki_RX11 kl_RX11_261 kv_X11_sum kx_X11_sum kd_X11_sum ⟨Nat.le_of_ble_eq_true rfl, Nat.le_of_ble_eq_true rfl⟩) (ty_preE (wr := [(rf_RW ct 0 mw 958 f1_176)]) (wc := ([(rf_MO mo mw ma mf m0 m1 mu mv u0 u1 iz th mb mn mpt mbg mwr mwk mlf men)] ++ ws_175)) (ci := 11) (q0 := 1) hP hK hD hS hA hX rfl rfl) rfl rfl hl.1 rfl (lv_room (Nat.le_of_ble_eq_true rfl)) dX11_ends_93 ⟨Nat.le_of_ble_eq_true rfl, Nat.le_of_ble_eq_true rfl⟩) hP hD hS hA (fun r_184 u H locs hw_185 hP hD hS => ?_)
            obtain ⟨ws_186, rfl⟩ : ∃ z, z = u := ⟨_, rfl⟩
            have hT := hw_185
            have hP : va_P D vwCl ([(rf_RW ct 0 mw 958 f1_176), (rf_MO mo mw ma mf m0 m1 mu mv u0 u1 iz th mb mn mpt mbg mwr mwk mlf men)] ++ ws_186) H := hP
            have hD : va_D A ([(rf_RW ct 0 mw 958 f1_176), (rf_MO mo mw ma mf m0 m1 mu mv u0 u1 iz th mb mn mpt mbg mwr mwk mlf men)] ++ ws_186) := hD
            refine lv_aload_n hx hb dX11_ends_96 rfl (lv_at hl 2 rfl) ?_
            refine lv_iload_n hx hb dX11_ends_97 rfl (lv_at hl 3 rfl) ?_
            refine lv_bipush (v := 6) hx hb dX11_ends_98 (by decide) ?_
            refine ty_kl (wr := [(rf_RW ct 0 mw 958 f1_176)]) (wc := ([(rf_MO mo mw ma mf m0 m1 mu mv u0 u1 iz th mb mn mpt mbg mwr mwk mlf men)] ++ ws_186)) (va_runV (As := [.int p1, .int 6]) (rest := [.long r_184, .int 20, .int p1, .ref mo]) ⟨hx, hb, hml, hown, hts⟩ (m_X11_sum l D ct S ws_186 ph xx mo mw ma mf m0 m1 mu mv u0 u1 iz mb th mn mpt mbg mwr mwk mlf men p1 (6 : Int32) _ hT h_mu h_mv h_u0 h_u1 hph hy1 (rf_c6 hR_181 hc) (by decide)) (cm_V 2 hts kc_X11_sum ki_RX11 kl_RX11_261 kv_X11_sum kx_X11_sum kd_X11_sum ⟨Nat.le_of_ble_eq_true rfl, Nat.le_of_ble_eq_true rfl⟩) (ty_preE (wr := [(rf_RW ct 0 mw 958 f1_176)]) (wc := ([(rf_MO mo mw ma mf m0 m1 mu mv u0 u1 iz th mb mn mpt mbg mwr mwk mlf men)] ++ ws_186)) (ci := 11) (q0 := 1) hP hK hD hS hA hX rfl rfl) rfl rfl hl.1 rfl (lv_room (Nat.le_of_ble_eq_true rfl)) dX11_ends_100 ⟨Nat.le_of_ble_eq_true rfl, Nat.le_of_ble_eq_true rfl⟩) hP hD hS hA (fun r_187 u H locs hw_188 hP hD hS => ?_)
            obtain ⟨ws_189, rfl⟩ : ∃ z, z = u := ⟨_, rfl⟩
            have hT := hw_188
            have hP : va_P D vwCl ([(rf_RW ct 0 mw 958 f1_176), (rf_MO mo mw ma mf m0 m1 mu mv u0 u1 iz th mb mn mpt mbg mwr mwk mlf men)] ++ ws_189) H := hP
            have hD : va_D A ([(rf_RW ct 0 mw 958 f1_176), (rf_MO mo mw ma mf m0 m1 mu mv u0 u1 iz th mb mn mpt mbg mwr mwk mlf men)] ++ ws_189) := hD
            refine lv_lsub hx hb dX11_ends_103 ?_
            refine lv_topl (fun x_190 _ => ?_)
            refine lv_l2i hx hb dX11_ends_104 rfl ?_
            refine lv_topi (fun x_191 _ => ?_)
            have hP : va_P D vwCl ([(rf_MO mo mw ma mf m0 m1 mu mv u0 u1 iz th mb mn mpt mbg mwr mwk mlf men), (rf_RW ct 0 mw 958 f1_176)] ++ ws_189) H := ty_permP hP (ty_ordp (E := [(rf_RW ct 0 mw 958 f1_176), (rf_MO mo mw ma mf m0 m1 mu mv u0 u1 iz th mb mn mpt mbg mwr mwk mlf men)]) (E2 := [(rf_MO mo mw ma mf m0 m1 mu mv u0 u1 iz th mb mn mpt mbg mwr mwk mlf men), (rf_RW ct 0 mw 958 f1_176)]) (n := 2) [1, 0] rfl rfl (by decide))
            have hD : va_D A ([(rf_MO mo mw ma mf m0 m1 mu mv u0 u1 iz th mb mn mpt mbg mwr mwk mlf men), (rf_RW ct 0 mw 958 f1_176)] ++ ws_189) := ty_permD hD (ty_ordp (E := [(rf_RW ct 0 mw 958 f1_176), (rf_MO mo mw ma mf m0 m1 mu mv u0 u1 iz th mb mn mpt mbg mwr mwk mlf men)]) (E2 := [(rf_MO mo mw ma mf m0 m1 mu mv u0 u1 iz th mb mn mpt mbg mwr mwk mlf men), (rf_RW ct 0 mw 958 f1_176)]) (n := 2) [1, 0] rfl rfl (by decide))
            refine ty_kv (wr := []) (wc := ([(rf_MO mo mw ma mf m0 m1 mu mv u0 u1 iz th mb mn mpt mbg mwr mwk mlf men), (rf_RW ct 0 mw 958 f1_176)] ++ ws_189)) (va_runV (As := [.int p1, .int 20, .int x_191]) (rest := []) ⟨hx, hb, hml, hown, hts⟩ (m_put_20 l D ct S ws_189 ph xx mo mw ma mf m0 m1 mu mv u0 u1 iz mb th mn mpt mbg mwr mwk mlf men f1_176 G cx p1 x_191 _ hT h_mu h_mv h_u0 h_u1 hph hy1 hR_181 hc) (cm_V 3 hts kc_X11_put ki_RX11 kl_RX11_234 kv_X11_put kx_X11_put kd_X11_put ⟨Nat.le_of_ble_eq_true rfl, Nat.le_of_ble_eq_true rfl⟩) (ty_preE (wr := []) (wc := ([(rf_MO mo mw ma mf m0 m1 mu mv u0 u1 iz th mb mn mpt mbg mwr mwk mlf men), (rf_RW ct 0 mw 958 f1_176)] ++ ws_189)) (ci := 11) (q0 := 0) hP hK hD hS hA hX rfl rfl) rfl rfl hl.1 rfl (lv_room (Nat.le_of_ble_eq_true rfl)) dX11_ends_105 ⟨Nat.le_of_ble_eq_true rfl, Nat.le_of_ble_eq_true rfl⟩) hP hD hS hA (fun u H locs hw_193 hP hD hS => ?_)
            obtain ⟨ws_194, f1_195⟩ := u
            obtain ⟨hT, hp_196⟩ := hw_193
            have hp_196 : rf_d (f1_176 8) f1_176 f1_195 ∧ rf_R G cx f1_195 ∧ rf_sm f1_176 f1_195 ∧ f1_195 = upd f1_176 (244 + 54 * p1.toInt.toNat + 20) x_191 := hp_196
            obtain ⟨hd_197, hq_198⟩ := hp_196
            have hD_199 := rf_dt hD_180 hd_197
            have hR_200 := hq_198.1
            have hM_201 := rf_smt hM_182 hq_198.2.1
            have ho_202 := rf_ons hR_181 hc hq_198.2.1 ho_183
            have hP : va_P D vwCl ([(rf_MO mo mw ma mf m0 m1 mu mv u0 u1 iz th mb mn mpt mbg mwr mwk mlf men), (rf_RW ct 0 mw 958 f1_195)] ++ ws_194) H := hP
            have hD : va_D A ([(rf_MO mo mw ma mf m0 m1 mu mv u0 u1 iz th mb mn mpt mbg mwr mwk mlf men), (rf_RW ct 0 mw 958 f1_195)] ++ ws_194) := hD
            refine lv_aload_n hx hb dX11_ends_108 rfl (lv_at hl 2 rfl) ?_
            refine lv_iload_n hx hb dX11_ends_109 rfl (lv_at hl 3 rfl) ?_
            refine ty_kv (wr := []) (wc := ([(rf_MO mo mw ma mf m0 m1 mu mv u0 u1 iz th mb mn mpt mbg mwr mwk mlf men), (rf_RW ct 0 mw 958 f1_195)] ++ ws_194)) (va_runV (As := [.int p1]) (rest := []) ⟨hx, hb, hml, hown, hts⟩ (m_X11_clears l D ct S ws_194 ph xx mo mw ma mf m0 m1 mu mv u0 u1 iz mb th mn mpt mbg mwr mwk mlf men f1_195 G cx p1 _ hT h_mu h_mv h_u0 h_u1 hph hy1 hy11 hR_200 hc) (cm_V 1 hts kc_X11_clears ki_RX11 kl_RX11_272 kv_X11_clears kx_X11_clears kd_X11_clears ⟨Nat.le_of_ble_eq_true rfl, Nat.le_of_ble_eq_true rfl⟩) (ty_preE (wr := []) (wc := ([(rf_MO mo mw ma mf m0 m1 mu mv u0 u1 iz th mb mn mpt mbg mwr mwk mlf men), (rf_RW ct 0 mw 958 f1_195)] ++ ws_194)) (ci := 11) (q0 := 0) hP hK hD hS hA hX rfl rfl) rfl rfl hl.1 rfl (lv_room (Nat.le_of_ble_eq_true rfl)) dX11_ends_110 ⟨Nat.le_of_ble_eq_true rfl, Nat.le_of_ble_eq_true rfl⟩) hP hD hS hA (fun u H locs hw_204 hP hD hS => ?_)
            obtain ⟨ws_205, f1_206⟩ := u
            obtain ⟨hT, hp_207⟩ := hw_204
            have hp_207 : rf_d (f1_195 8) f1_195 f1_206 ∧ rf_R G cx f1_206 ∧ rf_sm f1_195 f1_206 := hp_207
            obtain ⟨hd_208, hq_209⟩ := hp_207
            have hD_210 := rf_dt hD_199 hd_208
            have hR_211 := hq_209.1
            have hM_212 := rf_smt hM_201 hq_209.2
            have ho_213 := rf_ons hR_200 hc hq_209.2 ho_202
            have hP : va_P D vwCl ([(rf_MO mo mw ma mf m0 m1 mu mv u0 u1 iz th mb mn mpt mbg mwr mwk mlf men), (rf_RW ct 0 mw 958 f1_206)] ++ ws_205) H := hP
            have hD : va_D A ([(rf_MO mo mw ma mf m0 m1 mu mv u0 u1 iz th mb mn mpt mbg mwr mwk mlf men), (rf_RW ct 0 mw 958 f1_206)] ++ ws_205) := hD
            exact W.vret hx hb hr (fun t ht hW => ⟨⟨(ws_205, f1_206), rfl, ⟨hT, ⟨hD_210, hR_211, hM_212⟩⟩, by rw [ht]; exact hP, by rw [hAe]; exact hD⟩, hS.F ht⟩) hS.2.2 dX11_ends_113
      · exact W.vret hx hb hr (fun t ht hW => ⟨⟨(ws_108, f1_109), rfl, ⟨hT, ⟨hD_113, hR_114, hM_115⟩⟩, by rw [ht]; exact hP, by rw [hAe]; exact hD⟩, hS.F ht⟩) hS.2.2 dX11_ends_43
  · refine lv_aload_n hx hb dX11_ends_12 rfl (lv_at hl 1 rfl) ?_
    refine lv_iload_n hx hb dX11_ends_13 rfl (lv_at hl 2 rfl) ?_
    refine lv_bipush (v := 21) hx hb dX11_ends_14 (by decide) ?_
    refine lv_iconst (v := 1) hx hb dX11_ends_16 (by decide) ?_
    refine ty_kv (wr := []) (wc := ([(rf_MO mo mw ma mf m0 m1 mu mv u0 u1 iz th mb mn mpt mbg mwr mwk mlf men), (rf_RW ct 0 mw 958 f)] ++ ws_3)) (va_runV (As := [.int p1, .int 21, .int 1]) (rest := []) ⟨hx, hb, hml, hown, hts⟩ (m_put_21 l D ct S ws_3 ph xx mo mw ma mf m0 m1 mu mv u0 u1 iz mb th mn mpt mbg mwr mwk mlf men f G cx p1 (1 : Int32) _ hT h_mu h_mv h_u0 h_u1 hph hy1 hR hc) (cm_V 3 hts kc_X11_put ki_RX11 kl_RX11_234 kv_X11_put kx_X11_put kd_X11_put ⟨Nat.le_of_ble_eq_true rfl, Nat.le_of_ble_eq_true rfl⟩) (ty_preE (wr := []) (wc := ([(rf_MO mo mw ma mf m0 m1 mu mv u0 u1 iz th mb mn mpt mbg mwr mwk mlf men), (rf_RW ct 0 mw 958 f)] ++ ws_3)) (ci := 11) (q0 := 0) hP hK hD hS hA hX rfl rfl) rfl rfl hl.1 rfl (lv_room (Nat.le_of_ble_eq_true rfl)) dX11_ends_17 ⟨Nat.le_of_ble_eq_true rfl, Nat.le_of_ble_eq_true rfl⟩) hP hD hS hA (fun u H locs hw_215 hP hD hS => ?_)
    obtain ⟨ws_216, f1_217⟩ := u
    obtain ⟨hT, hp_218⟩ := hw_215
    have hp_218 : rf_d (f 8) f f1_217 ∧ rf_R G cx f1_217 ∧ rf_sm f f1_217 ∧ f1_217 = upd f (244 + 54 * p1.toInt.toNat + 21) (1 : Int32) := hp_218
    obtain ⟨hd_219, hq_220⟩ := hp_218
    have hD_221 := rf_dt (rf_dr f) hd_219
    have hR_222 := hq_220.1
    have hM_223 := rf_smt (rf_smr f) hq_220.2.1
    have ho_224 := rf_ons hR hc hq_220.2.1 ho
    have hP : va_P D vwCl ([(rf_MO mo mw ma mf m0 m1 mu mv u0 u1 iz th mb mn mpt mbg mwr mwk mlf men), (rf_RW ct 0 mw 958 f1_217)] ++ ws_216) H := hP
    have hD : va_D A ([(rf_MO mo mw ma mf m0 m1 mu mv u0 u1 iz th mb mn mpt mbg mwr mwk mlf men), (rf_RW ct 0 mw 958 f1_217)] ++ ws_216) := hD
    refine lv_iload_n hx hb dX11_ends_20 rfl (lv_at hl 0 rfl) ?_
    refine lv_iconst (v := 3) hx hb dX11_ends_21 (by decide) ?_
    refine lv_icmp_ne (tgt := 38) hx hb dX11_ends_22 (by decide) (fun hc_225 => ?_) (fun hc_225 => ?_)
    · refine lv_iload_n hx hb dX11_ends_38 rfl (lv_at hl 0 rfl) ?_
      refine lv_iconst (v := 2) hx hb dX11_ends_39 (by decide) ?_
      refine lv_icmp_eq (tgt := 44) hx hb dX11_ends_40 (by decide) (fun hc_226 => ?_) (fun hc_226 => ?_)
      · refine lv_aload_n hx hb dX11_ends_44 rfl (lv_at hl 1 rfl) ?_
        refine lv_iload_n hx hb dX11_ends_45 rfl (lv_at hl 2 rfl) ?_
        refine lv_bipush (v := 21) hx hb dX11_ends_46 (by decide) ?_
        refine ty_ki (wr := []) (wc := ([(rf_MO mo mw ma mf m0 m1 mu mv u0 u1 iz th mb mn mpt mbg mwr mwk mlf men), (rf_RW ct 0 mw 958 f1_217)] ++ ws_216)) (va_runV (As := [.int p1, .int 21]) (rest := []) ⟨hx, hb, hml, hown, hts⟩ (m_of_21 l D ct S ws_216 ph xx mo mw ma mf m0 m1 mu mv u0 u1 iz mb th mn mpt mbg mwr mwk mlf men f1_217 G cx p1 _ hT h_mu h_mv h_u0 h_u1 hph hy1 hR_222 hc) (cm_V 2 hts kc_X11_of ki_RX11 kl_RX11_209 kv_X11_of kx_X11_of kd_X11_of ⟨Nat.le_of_ble_eq_true rfl, Nat.le_of_ble_eq_true rfl⟩) (ty_preE (wr := []) (wc := ([(rf_MO mo mw ma mf m0 m1 mu mv u0 u1 iz th mb mn mpt mbg mwr mwk mlf men), (rf_RW ct 0 mw 958 f1_217)] ++ ws_216)) (ci := 11) (q0 := 0) hP hK hD hS hA hX rfl rfl) rfl rfl hl.1 rfl (lv_room (Nat.le_of_ble_eq_true rfl)) dX11_ends_48 ⟨Nat.le_of_ble_eq_true rfl, Nat.le_of_ble_eq_true rfl⟩) hP hD hS hA (fun r_227 u H locs hw_228 hP hD hS => ?_)
        obtain ⟨ws_229, rfl⟩ : ∃ z, z = u := ⟨_, rfl⟩
        obtain ⟨hT, rfl⟩ := hw_228
        have hP : va_P D vwCl ([(rf_MO mo mw ma mf m0 m1 mu mv u0 u1 iz th mb mn mpt mbg mwr mwk mlf men), (rf_RW ct 0 mw 958 f1_217)] ++ ws_229) H := hP
        have hD : va_D A ([(rf_MO mo mw ma mf m0 m1 mu mv u0 u1 iz th mb mn mpt mbg mwr mwk mlf men), (rf_RW ct 0 mw 958 f1_217)] ++ ws_229) := hD
        refine lv_iconst (v := 1) hx hb dX11_ends_51 (by decide) ?_
        refine lv_icmp_ne (tgt := 74) hx hb dX11_ends_52 (by decide) (fun hc_230 => ?_) (fun hc_230 => ?_)
        · refine lv_iconst (v := 0) hx hb dX11_ends_74 (by decide) ?_
          refine lv_istore_n (lv' := [(3, .int 0), (2, .int (rf_st3 f p1 0)), (0, .ref mo), (1, .int p1)]) hx hb dX11_ends_75 rfl hl (by decide) rfl (fun ls hl => ?_)
          refine lv_aload_n hx hb dX11_ends_76 rfl (lv_at hl 2 rfl) ?_
          refine lv_iload_n hx hb dX11_ends_77 rfl (lv_at hl 3 rfl) ?_
          refine lv_iload_n hx hb dX11_ends_78 rfl (lv_at hl 0 rfl) ?_
          refine ty_kv (wr := []) (wc := ([(rf_MO mo mw ma mf m0 m1 mu mv u0 u1 iz th mb mn mpt mbg mwr mwk mlf men), (rf_RW ct 0 mw 958 f1_217)] ++ ws_229)) (va_runV (As := [.int p1, .int 0]) (rest := []) ⟨hx, hb, hml, hown, hts⟩ (m_X11_records l D ct S ws_229 ph xx mo mw ma mf m0 m1 mu mv u0 u1 iz mb th mn mpt mbg mwr mwk mlf men f1_217 G cx p1 (0 : Int32) _ hT h_mu h_mv h_u0 h_u1 hph hy1 hR_222 hc) (cm_V 2 hts kc_X11_records ki_RX11 kl_RX11_268 kv_X11_records kx_X11_records kd_X11_records ⟨Nat.le_of_ble_eq_true rfl, Nat.le_of_ble_eq_true rfl⟩) (ty_preE (wr := []) (wc := ([(rf_MO mo mw ma mf m0 m1 mu mv u0 u1 iz th mb mn mpt mbg mwr mwk mlf men), (rf_RW ct 0 mw 958 f1_217)] ++ ws_229)) (ci := 11) (q0 := 0) hP hK hD hS hA hX rfl rfl) rfl rfl hl.1 rfl (lv_room (Nat.le_of_ble_eq_true rfl)) dX11_ends_79 ⟨Nat.le_of_ble_eq_true rfl, Nat.le_of_ble_eq_true rfl⟩) hP hD hS hA (fun u H locs hw_232 hP hD hS => ?_)
          obtain ⟨ws_233, f1_234⟩ := u
          obtain ⟨hT, hp_235⟩ := hw_232
          have hp_235 : rf_d (f1_217 8) f1_217 f1_234 ∧ rf_R G cx f1_234 ∧ rf_sm f1_217 f1_234 := hp_235
          obtain ⟨hd_236, hq_237⟩ := hp_235
          have hD_238 := rf_dt hD_221 hd_236
          have hR_239 := hq_237.1
          have hM_240 := rf_smt hM_223 hq_237.2
          have ho_241 := rf_ons hR_222 hc hq_237.2 ho_224
          have hP : va_P D vwCl ([(rf_MO mo mw ma mf m0 m1 mu mv u0 u1 iz th mb mn mpt mbg mwr mwk mlf men), (rf_RW ct 0 mw 958 f1_234)] ++ ws_233) H := hP
          have hD : va_D A ([(rf_MO mo mw ma mf m0 m1 mu mv u0 u1 iz th mb mn mpt mbg mwr mwk mlf men), (rf_RW ct 0 mw 958 f1_234)] ++ ws_233) := hD
          refine lv_iload_n hx hb dX11_ends_82 rfl (lv_at hl 0 rfl) ?_
          refine lv_if_eq (tgt := 108) hx hb dX11_ends_83 (by decide) (fun _ => ?_) (fun hc => absurd (by decide) hc)
          refine lv_aload_n hx hb dX11_ends_108 rfl (lv_at hl 2 rfl) ?_
          refine lv_iload_n hx hb dX11_ends_109 rfl (lv_at hl 3 rfl) ?_
          refine ty_kv (wr := []) (wc := ([(rf_MO mo mw ma mf m0 m1 mu mv u0 u1 iz th mb mn mpt mbg mwr mwk mlf men), (rf_RW ct 0 mw 958 f1_234)] ++ ws_233)) (va_runV (As := [.int p1]) (rest := []) ⟨hx, hb, hml, hown, hts⟩ (m_X11_clears l D ct S ws_233 ph xx mo mw ma mf m0 m1 mu mv u0 u1 iz mb th mn mpt mbg mwr mwk mlf men f1_234 G cx p1 _ hT h_mu h_mv h_u0 h_u1 hph hy1 hy11 hR_239 hc) (cm_V 1 hts kc_X11_clears ki_RX11 kl_RX11_272 kv_X11_clears kx_X11_clears kd_X11_clears ⟨Nat.le_of_ble_eq_true rfl, Nat.le_of_ble_eq_true rfl⟩) (ty_preE (wr := []) (wc := ([(rf_MO mo mw ma mf m0 m1 mu mv u0 u1 iz th mb mn mpt mbg mwr mwk mlf men), (rf_RW ct 0 mw 958 f1_234)] ++ ws_233)) (ci := 11) (q0 := 0) hP hK hD hS hA hX rfl rfl) rfl rfl hl.1 rfl (lv_room (Nat.le_of_ble_eq_true rfl)) dX11_ends_110 ⟨Nat.le_of_ble_eq_true rfl, Nat.le_of_ble_eq_true rfl⟩) hP hD hS hA (fun u H locs hw_243 hP hD hS => ?_)
          obtain ⟨ws_244, f1_245⟩ := u
          obtain ⟨hT, hp_246⟩ := hw_243
          have hp_246 : rf_d (f1_234 8) f1_234 f1_245 ∧ rf_R G cx f1_245 ∧ rf_sm f1_234 f1_245 := hp_246
          obtain ⟨hd_247, hq_248⟩ := hp_246
          have hD_249 := rf_dt hD_238 hd_247
          have hR_250 := hq_248.1
          have hM_251 := rf_smt hM_240 hq_248.2
          have ho_252 := rf_ons hR_239 hc hq_248.2 ho_241
          have hP : va_P D vwCl ([(rf_MO mo mw ma mf m0 m1 mu mv u0 u1 iz th mb mn mpt mbg mwr mwk mlf men), (rf_RW ct 0 mw 958 f1_245)] ++ ws_244) H := hP
          have hD : va_D A ([(rf_MO mo mw ma mf m0 m1 mu mv u0 u1 iz th mb mn mpt mbg mwr mwk mlf men), (rf_RW ct 0 mw 958 f1_245)] ++ ws_244) := hD
          exact W.vret hx hb hr (fun t ht hW => ⟨⟨(ws_244, f1_245), rfl, ⟨hT, ⟨hD_249, hR_250, hM_251⟩⟩, by rw [ht]; exact hP, by rw [hAe]; exact hD⟩, hS.F ht⟩) hS.2.2 dX11_ends_113
        · refine lv_aload_n hx hb dX11_ends_55 rfl (lv_at hl 1 rfl) ?_
          refine lv_iload_n hx hb dX11_ends_56 rfl (lv_at hl 2 rfl) ?_
          refine lv_iconst (v := 5) hx hb dX11_ends_57 (by decide) ?_
          refine ty_ki (wr := []) (wc := ([(rf_MO mo mw ma mf m0 m1 mu mv u0 u1 iz th mb mn mpt mbg mwr mwk mlf men), (rf_RW ct 0 mw 958 f1_217)] ++ ws_229)) (va_runV (As := [.int p1, .int 5]) (rest := []) ⟨hx, hb, hml, hown, hts⟩ (m_of_5 l D ct S ws_229 ph xx mo mw ma mf m0 m1 mu mv u0 u1 iz mb th mn mpt mbg mwr mwk mlf men f1_217 G cx p1 _ hT h_mu h_mv h_u0 h_u1 hph hy1 hR_222 hc) (cm_V 2 hts kc_X11_of ki_RX11 kl_RX11_209 kv_X11_of kx_X11_of kd_X11_of ⟨Nat.le_of_ble_eq_true rfl, Nat.le_of_ble_eq_true rfl⟩) (ty_preE (wr := []) (wc := ([(rf_MO mo mw ma mf m0 m1 mu mv u0 u1 iz th mb mn mpt mbg mwr mwk mlf men), (rf_RW ct 0 mw 958 f1_217)] ++ ws_229)) (ci := 11) (q0 := 0) hP hK hD hS hA hX rfl rfl) rfl rfl hl.1 rfl (lv_room (Nat.le_of_ble_eq_true rfl)) dX11_ends_58 ⟨Nat.le_of_ble_eq_true rfl, Nat.le_of_ble_eq_true rfl⟩) hP hD hS hA (fun r_253 u H locs hw_254 hP hD hS => ?_)
          obtain ⟨ws_255, rfl⟩ : ∃ z, z = u := ⟨_, rfl⟩
          obtain ⟨hT, rfl⟩ := hw_254
          have hP : va_P D vwCl ([(rf_MO mo mw ma mf m0 m1 mu mv u0 u1 iz th mb mn mpt mbg mwr mwk mlf men), (rf_RW ct 0 mw 958 f1_217)] ++ ws_255) H := hP
          have hD : va_D A ([(rf_MO mo mw ma mf m0 m1 mu mv u0 u1 iz th mb mn mpt mbg mwr mwk mlf men), (rf_RW ct 0 mw 958 f1_217)] ++ ws_255) := hD
          refine lv_aload_n hx hb dX11_ends_61 rfl (lv_at hl 1 rfl) ?_
          refine lv_iload_n hx hb dX11_ends_62 rfl (lv_at hl 2 rfl) ?_
          refine lv_iconst (v := 2) hx hb dX11_ends_63 (by decide) ?_
          refine ty_ki (wr := []) (wc := ([(rf_MO mo mw ma mf m0 m1 mu mv u0 u1 iz th mb mn mpt mbg mwr mwk mlf men), (rf_RW ct 0 mw 958 f1_217)] ++ ws_255)) (va_runV (As := [.int p1, .int 2]) (rest := [.int (rf_of f1_217 p1 5)]) ⟨hx, hb, hml, hown, hts⟩ (m_step_2 l D ct S ws_255 ph xx mo mw ma mf m0 m1 mu mv u0 u1 iz mb th mn mpt mbg mwr mwk mlf men f1_217 G cx p1 _ hT h_mu h_mv h_u0 h_u1 hph hy1 hR_222 hc ho_224) (cm_V 2 hts kc_X11_step ki_RX11 kl_RX11_228 kv_X11_step kx_X11_step kd_X11_step ⟨Nat.le_of_ble_eq_true rfl, Nat.le_of_ble_eq_true rfl⟩) (ty_preE (wr := []) (wc := ([(rf_MO mo mw ma mf m0 m1 mu mv u0 u1 iz th mb mn mpt mbg mwr mwk mlf men), (rf_RW ct 0 mw 958 f1_217)] ++ ws_255)) (ci := 11) (q0 := 0) hP hK hD hS hA hX rfl rfl) rfl rfl hl.1 rfl (lv_room (Nat.le_of_ble_eq_true rfl)) dX11_ends_64 ⟨Nat.le_of_ble_eq_true rfl, Nat.le_of_ble_eq_true rfl⟩) hP hD hS hA (fun r_256 u H locs hw_257 hP hD hS => ?_)
          obtain ⟨ws_258, rfl⟩ : ∃ z, z = u := ⟨_, rfl⟩
          obtain ⟨hT, rfl⟩ := hw_257
          have hP : va_P D vwCl ([(rf_MO mo mw ma mf m0 m1 mu mv u0 u1 iz th mb mn mpt mbg mwr mwk mlf men), (rf_RW ct 0 mw 958 f1_217)] ++ ws_258) H := hP
          have hD : va_D A ([(rf_MO mo mw ma mf m0 m1 mu mv u0 u1 iz th mb mn mpt mbg mwr mwk mlf men), (rf_RW ct 0 mw 958 f1_217)] ++ ws_258) := hD
          refine lv_icmp_gt (tgt := 74) hx hb dX11_ends_67 (by decide) (fun hc_259 => ?_) (fun hc_259 => ?_)
          · refine lv_iconst (v := 0) hx hb dX11_ends_74 (by decide) ?_
            refine lv_istore_n (lv' := [(3, .int 0), (2, .int (rf_st3 f p1 0)), (0, .ref mo), (1, .int p1)]) hx hb dX11_ends_75 rfl hl (by decide) rfl (fun ls hl => ?_)
            refine lv_aload_n hx hb dX11_ends_76 rfl (lv_at hl 2 rfl) ?_
            refine lv_iload_n hx hb dX11_ends_77 rfl (lv_at hl 3 rfl) ?_
            refine lv_iload_n hx hb dX11_ends_78 rfl (lv_at hl 0 rfl) ?_
            refine ty_kv (wr := []) (wc := ([(rf_MO mo mw ma mf m0 m1 mu mv u0 u1 iz th mb mn mpt mbg mwr mwk mlf men), (rf_RW ct 0 mw 958 f1_217)] ++ ws_258)) (va_runV (As := [.int p1, .int 0]) (rest := []) ⟨hx, hb, hml, hown, hts⟩ (m_X11_records l D ct S ws_258 ph xx mo mw ma mf m0 m1 mu mv u0 u1 iz mb th mn mpt mbg mwr mwk mlf men f1_217 G cx p1 (0 : Int32) _ hT h_mu h_mv h_u0 h_u1 hph hy1 hR_222 hc) (cm_V 2 hts kc_X11_records ki_RX11 kl_RX11_268 kv_X11_records kx_X11_records kd_X11_records ⟨Nat.le_of_ble_eq_true rfl, Nat.le_of_ble_eq_true rfl⟩) (ty_preE (wr := []) (wc := ([(rf_MO mo mw ma mf m0 m1 mu mv u0 u1 iz th mb mn mpt mbg mwr mwk mlf men), (rf_RW ct 0 mw 958 f1_217)] ++ ws_258)) (ci := 11) (q0 := 0) hP hK hD hS hA hX rfl rfl) rfl rfl hl.1 rfl (lv_room (Nat.le_of_ble_eq_true rfl)) dX11_ends_79 ⟨Nat.le_of_ble_eq_true rfl, Nat.le_of_ble_eq_true rfl⟩) hP hD hS hA (fun u H locs hw_261 hP hD hS => ?_)
            obtain ⟨ws_262, f1_263⟩ := u
            obtain ⟨hT, hp_264⟩ := hw_261
            have hp_264 : rf_d (f1_217 8) f1_217 f1_263 ∧ rf_R G cx f1_263 ∧ rf_sm f1_217 f1_263 := hp_264
            obtain ⟨hd_265, hq_266⟩ := hp_264
            have hD_267 := rf_dt hD_221 hd_265
            have hR_268 := hq_266.1
            have hM_269 := rf_smt hM_223 hq_266.2
            have ho_270 := rf_ons hR_222 hc hq_266.2 ho_224
            have hP : va_P D vwCl ([(rf_MO mo mw ma mf m0 m1 mu mv u0 u1 iz th mb mn mpt mbg mwr mwk mlf men), (rf_RW ct 0 mw 958 f1_263)] ++ ws_262) H := hP
            have hD : va_D A ([(rf_MO mo mw ma mf m0 m1 mu mv u0 u1 iz th mb mn mpt mbg mwr mwk mlf men), (rf_RW ct 0 mw 958 f1_263)] ++ ws_262) := hD
            refine lv_iload_n hx hb dX11_ends_82 rfl (lv_at hl 0 rfl) ?_
            refine lv_if_eq (tgt := 108) hx hb dX11_ends_83 (by decide) (fun _ => ?_) (fun hc => absurd (by decide) hc)
            refine lv_aload_n hx hb dX11_ends_108 rfl (lv_at hl 2 rfl) ?_
            refine lv_iload_n hx hb dX11_ends_109 rfl (lv_at hl 3 rfl) ?_
            refine ty_kv (wr := []) (wc := ([(rf_MO mo mw ma mf m0 m1 mu mv u0 u1 iz th mb mn mpt mbg mwr mwk mlf men), (rf_RW ct 0 mw 958 f1_263)] ++ ws_262)) (va_runV (As := [.int p1]) (rest := []) ⟨hx, hb, hml, hown, hts⟩ (m_X11_clears l D ct S ws_262 ph xx mo mw ma mf m0 m1 mu mv u0 u1 iz mb th mn mpt mbg mwr mwk mlf men f1_263 G cx p1 _ hT h_mu h_mv h_u0 h_u1 hph hy1 hy11 hR_268 hc) (cm_V 1 hts kc_X11_clears ki_RX11 kl_RX11_272 kv_X11_clears kx_X11_clears kd_X11_clears ⟨Nat.le_of_ble_eq_true rfl, Nat.le_of_ble_eq_true rfl⟩) (ty_preE (wr := []) (wc := ([(rf_MO mo mw ma mf m0 m1 mu mv u0 u1 iz th mb mn mpt mbg mwr mwk mlf men), (rf_RW ct 0 mw 958 f1_263)] ++ ws_262)) (ci := 11) (q0 := 0) hP hK hD hS hA hX rfl rfl) rfl rfl hl.1 rfl (lv_room (Nat.le_of_ble_eq_true rfl)) dX11_ends_110 ⟨Nat.le_of_ble_eq_true rfl, Nat.le_of_ble_eq_true rfl⟩) hP hD hS hA (fun u H locs hw_272 hP hD hS => ?_)
            obtain ⟨ws_273, f1_274⟩ := u
            obtain ⟨hT, hp_275⟩ := hw_272
            have hp_275 : rf_d (f1_263 8) f1_263 f1_274 ∧ rf_R G cx f1_274 ∧ rf_sm f1_263 f1_274 := hp_275
            obtain ⟨hd_276, hq_277⟩ := hp_275
            have hD_278 := rf_dt hD_267 hd_276
            have hR_279 := hq_277.1
            have hM_280 := rf_smt hM_269 hq_277.2
            have ho_281 := rf_ons hR_268 hc hq_277.2 ho_270
            have hP : va_P D vwCl ([(rf_MO mo mw ma mf m0 m1 mu mv u0 u1 iz th mb mn mpt mbg mwr mwk mlf men), (rf_RW ct 0 mw 958 f1_274)] ++ ws_273) H := hP
            have hD : va_D A ([(rf_MO mo mw ma mf m0 m1 mu mv u0 u1 iz th mb mn mpt mbg mwr mwk mlf men), (rf_RW ct 0 mw 958 f1_274)] ++ ws_273) := hD
            exact W.vret hx hb hr (fun t ht hW => ⟨⟨(ws_273, f1_274), rfl, ⟨hT, ⟨hD_278, hR_279, hM_280⟩⟩, by rw [ht]; exact hP, by rw [hAe]; exact hD⟩, hS.F ht⟩) hS.2.2 dX11_ends_113
          · refine lv_iconst (v := 1) hx hb dX11_ends_70 (by decide) ?_
            refine lv_goto (tgt := 75) hx hb dX11_ends_71 (by decide) ?_
            refine lv_istore_n (lv' := [(3, .int 1), (2, .int (rf_st3 f p1 0)), (0, .ref mo), (1, .int p1)]) hx hb dX11_ends_75 rfl hl (by decide) rfl (fun ls hl => ?_)
            refine lv_aload_n hx hb dX11_ends_76 rfl (lv_at hl 2 rfl) ?_
            refine lv_iload_n hx hb dX11_ends_77 rfl (lv_at hl 3 rfl) ?_
            refine lv_iload_n hx hb dX11_ends_78 rfl (lv_at hl 0 rfl) ?_
            refine ty_kv (wr := []) (wc := ([(rf_MO mo mw ma mf m0 m1 mu mv u0 u1 iz th mb mn mpt mbg mwr mwk mlf men), (rf_RW ct 0 mw 958 f1_217)] ++ ws_258)) (va_runV (As := [.int p1, .int 1]) (rest := []) ⟨hx, hb, hml, hown, hts⟩ (m_X11_records l D ct S ws_258 ph xx mo mw ma mf m0 m1 mu mv u0 u1 iz mb th mn mpt mbg mwr mwk mlf men f1_217 G cx p1 (1 : Int32) _ hT h_mu h_mv h_u0 h_u1 hph hy1 hR_222 hc) (cm_V 2 hts kc_X11_records ki_RX11 kl_RX11_268 kv_X11_records kx_X11_records kd_X11_records ⟨Nat.le_of_ble_eq_true rfl, Nat.le_of_ble_eq_true rfl⟩) (ty_preE (wr := []) (wc := ([(rf_MO mo mw ma mf m0 m1 mu mv u0 u1 iz th mb mn mpt mbg mwr mwk mlf men), (rf_RW ct 0 mw 958 f1_217)] ++ ws_258)) (ci := 11) (q0 := 0) hP hK hD hS hA hX rfl rfl) rfl rfl hl.1 rfl (lv_room (Nat.le_of_ble_eq_true rfl)) dX11_ends_79 ⟨Nat.le_of_ble_eq_true rfl, Nat.le_of_ble_eq_true rfl⟩) hP hD hS hA (fun u H locs hw_283 hP hD hS => ?_)
            obtain ⟨ws_284, f1_285⟩ := u
            obtain ⟨hT, hp_286⟩ := hw_283
            have hp_286 : rf_d (f1_217 8) f1_217 f1_285 ∧ rf_R G cx f1_285 ∧ rf_sm f1_217 f1_285 := hp_286
            obtain ⟨hd_287, hq_288⟩ := hp_286
            have hD_289 := rf_dt hD_221 hd_287
            have hR_290 := hq_288.1
            have hM_291 := rf_smt hM_223 hq_288.2
            have ho_292 := rf_ons hR_222 hc hq_288.2 ho_224
            have hP : va_P D vwCl ([(rf_MO mo mw ma mf m0 m1 mu mv u0 u1 iz th mb mn mpt mbg mwr mwk mlf men), (rf_RW ct 0 mw 958 f1_285)] ++ ws_284) H := hP
            have hD : va_D A ([(rf_MO mo mw ma mf m0 m1 mu mv u0 u1 iz th mb mn mpt mbg mwr mwk mlf men), (rf_RW ct 0 mw 958 f1_285)] ++ ws_284) := hD
            refine lv_iload_n hx hb dX11_ends_82 rfl (lv_at hl 0 rfl) ?_
            refine lv_if_eq (tgt := 108) hx hb dX11_ends_83 (by decide) (fun hc => absurd hc (by decide)) (fun _ => ?_)
            refine lv_aload_n hx hb dX11_ends_86 rfl (lv_at hl 2 rfl) ?_
            refine lv_iload_n hx hb dX11_ends_87 rfl (lv_at hl 3 rfl) ?_
            refine lv_bipush (v := 20) hx hb dX11_ends_88 (by decide) ?_
            refine lv_aload_n hx hb dX11_ends_90 rfl (lv_at hl 2 rfl) ?_
            refine lv_iload_n hx hb dX11_ends_91 rfl (lv_at hl 3 rfl) ?_
            refine lv_iconst (v := 1) hx hb dX11_ends_92 (by decide) ?_
            have hP : va_P D vwCl ([(rf_RW ct 0 mw 958 f1_285), (rf_MO mo mw ma mf m0 m1 mu mv u0 u1 iz th mb mn mpt mbg mwr mwk mlf men)] ++ ws_284) H := ty_permP hP (ty_ordp (E := [(rf_MO mo mw ma mf m0 m1 mu mv u0 u1 iz th mb mn mpt mbg mwr mwk mlf men), (rf_RW ct 0 mw 958 f1_285)]) (E2 := [(rf_RW ct 0 mw 958 f1_285), (rf_MO mo mw ma mf m0 m1 mu mv u0 u1 iz th mb mn mpt mbg mwr mwk mlf men)]) (n := 2) [1, 0] rfl rfl (by decide))
            have hD : va_D A ([(rf_RW ct 0 mw 958 f1_285), (rf_MO mo mw ma mf m0 m1 mu mv u0 u1 iz th mb mn mpt mbg mwr mwk mlf men)] ++ ws_284) := ty_permD hD (ty_ordp (E := [(rf_MO mo mw ma mf m0 m1 mu mv u0 u1 iz th mb mn mpt mbg mwr mwk mlf men), (rf_RW ct 0 mw 958 f1_285)]) (E2 := [(rf_RW ct 0 mw 958 f1_285), (rf_MO mo mw ma mf m0 m1 mu mv u0 u1 iz th mb mn mpt mbg mwr mwk mlf men)]) (n := 2) [1, 0] rfl rfl (by decide))
            refine ty_kl (wr := [(rf_RW ct 0 mw 958 f1_285)]) (wc := ([(rf_MO mo mw ma mf m0 m1 mu mv u0 u1 iz th mb mn mpt mbg mwr mwk mlf men)] ++ ws_284)) (va_runV (As := [.int p1, .int 1]) (rest := [.int 20, .int p1, .ref mo]) ⟨hx, hb, hml, hown, hts⟩ (m_X11_sum l D ct S ws_284 ph xx mo mw ma mf m0 m1 mu mv u0 u1 iz mb th mn mpt mbg mwr mwk mlf men p1 (1 : Int32) _ hT h_mu h_mv h_u0 h_u1 hph hy1 (rf_c6 hR_290 hc) (by decide)) (cm_V 2 hts kc_X11_sum ki_RX11 kl_RX11_261 kv_X11_sum kx_X11_sum kd_X11_sum ⟨Nat.le_of_ble_eq_true rfl, Nat.le_of_ble_eq_true rfl⟩) (ty_preE (wr := [(rf_RW ct 0 mw 958 f1_285)]) (wc := ([(rf_MO mo mw ma mf m0 m1 mu mv u0 u1 iz th mb mn mpt mbg mwr mwk mlf men)] ++ ws_284)) (ci := 11) (q0 := 1) hP hK hD hS hA hX rfl rfl) rfl rfl hl.1 rfl (lv_room (Nat.le_of_ble_eq_true rfl)) dX11_ends_93 ⟨Nat.le_of_ble_eq_true rfl, Nat.le_of_ble_eq_true rfl⟩) hP hD hS hA (fun r_293 u H locs hw_294 hP hD hS => ?_)
            obtain ⟨ws_295, rfl⟩ : ∃ z, z = u := ⟨_, rfl⟩
            have hT := hw_294
            have hP : va_P D vwCl ([(rf_RW ct 0 mw 958 f1_285), (rf_MO mo mw ma mf m0 m1 mu mv u0 u1 iz th mb mn mpt mbg mwr mwk mlf men)] ++ ws_295) H := hP
            have hD : va_D A ([(rf_RW ct 0 mw 958 f1_285), (rf_MO mo mw ma mf m0 m1 mu mv u0 u1 iz th mb mn mpt mbg mwr mwk mlf men)] ++ ws_295) := hD
            refine lv_aload_n hx hb dX11_ends_96 rfl (lv_at hl 2 rfl) ?_
            refine lv_iload_n hx hb dX11_ends_97 rfl (lv_at hl 3 rfl) ?_
            refine lv_bipush (v := 6) hx hb dX11_ends_98 (by decide) ?_
            refine ty_kl (wr := [(rf_RW ct 0 mw 958 f1_285)]) (wc := ([(rf_MO mo mw ma mf m0 m1 mu mv u0 u1 iz th mb mn mpt mbg mwr mwk mlf men)] ++ ws_295)) (va_runV (As := [.int p1, .int 6]) (rest := [.long r_293, .int 20, .int p1, .ref mo]) ⟨hx, hb, hml, hown, hts⟩ (m_X11_sum l D ct S ws_295 ph xx mo mw ma mf m0 m1 mu mv u0 u1 iz mb th mn mpt mbg mwr mwk mlf men p1 (6 : Int32) _ hT h_mu h_mv h_u0 h_u1 hph hy1 (rf_c6 hR_290 hc) (by decide)) (cm_V 2 hts kc_X11_sum ki_RX11 kl_RX11_261 kv_X11_sum kx_X11_sum kd_X11_sum ⟨Nat.le_of_ble_eq_true rfl, Nat.le_of_ble_eq_true rfl⟩) (ty_preE (wr := [(rf_RW ct 0 mw 958 f1_285)]) (wc := ([(rf_MO mo mw ma mf m0 m1 mu mv u0 u1 iz th mb mn mpt mbg mwr mwk mlf men)] ++ ws_295)) (ci := 11) (q0 := 1) hP hK hD hS hA hX rfl rfl) rfl rfl hl.1 rfl (lv_room (Nat.le_of_ble_eq_true rfl)) dX11_ends_100 ⟨Nat.le_of_ble_eq_true rfl, Nat.le_of_ble_eq_true rfl⟩) hP hD hS hA (fun r_296 u H locs hw_297 hP hD hS => ?_)
            obtain ⟨ws_298, rfl⟩ : ∃ z, z = u := ⟨_, rfl⟩
            have hT := hw_297
            have hP : va_P D vwCl ([(rf_RW ct 0 mw 958 f1_285), (rf_MO mo mw ma mf m0 m1 mu mv u0 u1 iz th mb mn mpt mbg mwr mwk mlf men)] ++ ws_298) H := hP
            have hD : va_D A ([(rf_RW ct 0 mw 958 f1_285), (rf_MO mo mw ma mf m0 m1 mu mv u0 u1 iz th mb mn mpt mbg mwr mwk mlf men)] ++ ws_298) := hD
            refine lv_lsub hx hb dX11_ends_103 ?_
            refine lv_topl (fun x_299 _ => ?_)
            refine lv_l2i hx hb dX11_ends_104 rfl ?_
            refine lv_topi (fun x_300 _ => ?_)
            have hP : va_P D vwCl ([(rf_MO mo mw ma mf m0 m1 mu mv u0 u1 iz th mb mn mpt mbg mwr mwk mlf men), (rf_RW ct 0 mw 958 f1_285)] ++ ws_298) H := ty_permP hP (ty_ordp (E := [(rf_RW ct 0 mw 958 f1_285), (rf_MO mo mw ma mf m0 m1 mu mv u0 u1 iz th mb mn mpt mbg mwr mwk mlf men)]) (E2 := [(rf_MO mo mw ma mf m0 m1 mu mv u0 u1 iz th mb mn mpt mbg mwr mwk mlf men), (rf_RW ct 0 mw 958 f1_285)]) (n := 2) [1, 0] rfl rfl (by decide))
            have hD : va_D A ([(rf_MO mo mw ma mf m0 m1 mu mv u0 u1 iz th mb mn mpt mbg mwr mwk mlf men), (rf_RW ct 0 mw 958 f1_285)] ++ ws_298) := ty_permD hD (ty_ordp (E := [(rf_RW ct 0 mw 958 f1_285), (rf_MO mo mw ma mf m0 m1 mu mv u0 u1 iz th mb mn mpt mbg mwr mwk mlf men)]) (E2 := [(rf_MO mo mw ma mf m0 m1 mu mv u0 u1 iz th mb mn mpt mbg mwr mwk mlf men), (rf_RW ct 0 mw 958 f1_285)]) (n := 2) [1, 0] rfl rfl (by decide))
            refine ty_kv (wr := []) (wc := ([(rf_MO mo mw ma mf m0 m1 mu mv u0 u1 iz th mb mn mpt mbg mwr mwk mlf men), (rf_RW ct 0 mw 958 f1_285)] ++ ws_298)) (va_runV (As := [.int p1, .int 20, .int x_300]) (rest := []) ⟨hx, hb, hml, hown, hts⟩ (m_put_20 l D ct S ws_298 ph xx mo mw ma mf m0 m1 mu mv u0 u1 iz mb th mn mpt mbg mwr mwk mlf men f1_285 G cx p1 x_300 _ hT h_mu h_mv h_u0 h_u1 hph hy1 hR_290 hc) (cm_V 3 hts kc_X11_put ki_RX11 kl_RX11_234 kv_X11_put kx_X11_put kd_X11_put ⟨Nat.le_of_ble_eq_true rfl, Nat.le_of_ble_eq_true rfl⟩) (ty_preE (wr := []) (wc := ([(rf_MO mo mw ma mf m0 m1 mu mv u0 u1 iz th mb mn mpt mbg mwr mwk mlf men), (rf_RW ct 0 mw 958 f1_285)] ++ ws_298)) (ci := 11) (q0 := 0) hP hK hD hS hA hX rfl rfl) rfl rfl hl.1 rfl (lv_room (Nat.le_of_ble_eq_true rfl)) dX11_ends_105 ⟨Nat.le_of_ble_eq_true rfl, Nat.le_of_ble_eq_true rfl⟩) hP hD hS hA (fun u H locs hw_302 hP hD hS => ?_)
            obtain ⟨ws_303, f1_304⟩ := u
            obtain ⟨hT, hp_305⟩ := hw_302
            have hp_305 : rf_d (f1_285 8) f1_285 f1_304 ∧ rf_R G cx f1_304 ∧ rf_sm f1_285 f1_304 ∧ f1_304 = upd f1_285 (244 + 54 * p1.toInt.toNat + 20) x_300 := hp_305
            obtain ⟨hd_306, hq_307⟩ := hp_305
            have hD_308 := rf_dt hD_289 hd_306
            have hR_309 := hq_307.1
            have hM_310 := rf_smt hM_291 hq_307.2.1
            have ho_311 := rf_ons hR_290 hc hq_307.2.1 ho_292
            have hP : va_P D vwCl ([(rf_MO mo mw ma mf m0 m1 mu mv u0 u1 iz th mb mn mpt mbg mwr mwk mlf men), (rf_RW ct 0 mw 958 f1_304)] ++ ws_303) H := hP
            have hD : va_D A ([(rf_MO mo mw ma mf m0 m1 mu mv u0 u1 iz th mb mn mpt mbg mwr mwk mlf men), (rf_RW ct 0 mw 958 f1_304)] ++ ws_303) := hD
            refine lv_aload_n hx hb dX11_ends_108 rfl (lv_at hl 2 rfl) ?_
            refine lv_iload_n hx hb dX11_ends_109 rfl (lv_at hl 3 rfl) ?_
            refine ty_kv (wr := []) (wc := ([(rf_MO mo mw ma mf m0 m1 mu mv u0 u1 iz th mb mn mpt mbg mwr mwk mlf men), (rf_RW ct 0 mw 958 f1_304)] ++ ws_303)) (va_runV (As := [.int p1]) (rest := []) ⟨hx, hb, hml, hown, hts⟩ (m_X11_clears l D ct S ws_303 ph xx mo mw ma mf m0 m1 mu mv u0 u1 iz mb th mn mpt mbg mwr mwk mlf men f1_304 G cx p1 _ hT h_mu h_mv h_u0 h_u1 hph hy1 hy11 hR_309 hc) (cm_V 1 hts kc_X11_clears ki_RX11 kl_RX11_272 kv_X11_clears kx_X11_clears kd_X11_clears ⟨Nat.le_of_ble_eq_true rfl, Nat.le_of_ble_eq_true rfl⟩) (ty_preE (wr := []) (wc := ([(rf_MO mo mw ma mf m0 m1 mu mv u0 u1 iz th mb mn mpt mbg mwr mwk mlf men), (rf_RW ct 0 mw 958 f1_304)] ++ ws_303)) (ci := 11) (q0 := 0) hP hK hD hS hA hX rfl rfl) rfl rfl hl.1 rfl (lv_room (Nat.le_of_ble_eq_true rfl)) dX11_ends_110 ⟨Nat.le_of_ble_eq_true rfl, Nat.le_of_ble_eq_true rfl⟩) hP hD hS hA (fun u H locs hw_313 hP hD hS => ?_)
            obtain ⟨ws_314, f1_315⟩ := u
            obtain ⟨hT, hp_316⟩ := hw_313
            have hp_316 : rf_d (f1_304 8) f1_304 f1_315 ∧ rf_R G cx f1_315 ∧ rf_sm f1_304 f1_315 := hp_316
            obtain ⟨hd_317, hq_318⟩ := hp_316
            have hD_319 := rf_dt hD_308 hd_317
            have hR_320 := hq_318.1
            have hM_321 := rf_smt hM_310 hq_318.2
            have ho_322 := rf_ons hR_309 hc hq_318.2 ho_311
            have hP : va_P D vwCl ([(rf_MO mo mw ma mf m0 m1 mu mv u0 u1 iz th mb mn mpt mbg mwr mwk mlf men), (rf_RW ct 0 mw 958 f1_315)] ++ ws_314) H := hP
            have hD : va_D A ([(rf_MO mo mw ma mf m0 m1 mu mv u0 u1 iz th mb mn mpt mbg mwr mwk mlf men), (rf_RW ct 0 mw 958 f1_315)] ++ ws_314) := hD
            exact W.vret hx hb hr (fun t ht hW => ⟨⟨(ws_314, f1_315), rfl, ⟨hT, ⟨hD_319, hR_320, hM_321⟩⟩, by rw [ht]; exact hP, by rw [hAe]; exact hD⟩, hS.F ht⟩) hS.2.2 dX11_ends_113
      · exact W.vret hx hb hr (fun t ht hW => ⟨⟨(ws_216, f1_217), rfl, ⟨hT, ⟨hD_221, hR_222, hM_223⟩⟩, by rw [ht]; exact hP, by rw [hAe]; exact hD⟩, hS.F ht⟩) hS.2.2 dX11_ends_43
    · refine lv_aload_n hx hb dX11_ends_25 rfl (lv_at hl 1 rfl) ?_
      refine lv_iload_n hx hb dX11_ends_26 rfl (lv_at hl 2 rfl) ?_
      refine lv_bipush (v := 19) hx hb dX11_ends_27 (by decide) ?_
      refine lv_aload_n hx hb dX11_ends_29 rfl (lv_at hl 1 rfl) ?_
      refine lv_iload_n hx hb dX11_ends_30 rfl (lv_at hl 2 rfl) ?_
      refine lv_iconst (v := 5) hx hb dX11_ends_31 (by decide) ?_
      refine ty_ki (wr := []) (wc := ([(rf_MO mo mw ma mf m0 m1 mu mv u0 u1 iz th mb mn mpt mbg mwr mwk mlf men), (rf_RW ct 0 mw 958 f1_217)] ++ ws_216)) (va_runV (As := [.int p1, .int 5]) (rest := [.int 19, .int p1, .ref mo]) ⟨hx, hb, hml, hown, hts⟩ (m_of_5 l D ct S ws_216 ph xx mo mw ma mf m0 m1 mu mv u0 u1 iz mb th mn mpt mbg mwr mwk mlf men f1_217 G cx p1 _ hT h_mu h_mv h_u0 h_u1 hph hy1 hR_222 hc) (cm_V 2 hts kc_X11_of ki_RX11 kl_RX11_209 kv_X11_of kx_X11_of kd_X11_of ⟨Nat.le_of_ble_eq_true rfl, Nat.le_of_ble_eq_true rfl⟩) (ty_preE (wr := []) (wc := ([(rf_MO mo mw ma mf m0 m1 mu mv u0 u1 iz th mb mn mpt mbg mwr mwk mlf men), (rf_RW ct 0 mw 958 f1_217)] ++ ws_216)) (ci := 11) (q0 := 0) hP hK hD hS hA hX rfl rfl) rfl rfl hl.1 rfl (lv_room (Nat.le_of_ble_eq_true rfl)) dX11_ends_32 ⟨Nat.le_of_ble_eq_true rfl, Nat.le_of_ble_eq_true rfl⟩) hP hD hS hA (fun r_323 u H locs hw_324 hP hD hS => ?_)
      obtain ⟨ws_325, rfl⟩ : ∃ z, z = u := ⟨_, rfl⟩
      obtain ⟨hT, rfl⟩ := hw_324
      have hP : va_P D vwCl ([(rf_MO mo mw ma mf m0 m1 mu mv u0 u1 iz th mb mn mpt mbg mwr mwk mlf men), (rf_RW ct 0 mw 958 f1_217)] ++ ws_325) H := hP
      have hD : va_D A ([(rf_MO mo mw ma mf m0 m1 mu mv u0 u1 iz th mb mn mpt mbg mwr mwk mlf men), (rf_RW ct 0 mw 958 f1_217)] ++ ws_325) := hD
      refine ty_kv (wr := []) (wc := ([(rf_MO mo mw ma mf m0 m1 mu mv u0 u1 iz th mb mn mpt mbg mwr mwk mlf men), (rf_RW ct 0 mw 958 f1_217)] ++ ws_325)) (va_runV (As := [.int p1, .int 19, .int (rf_of f1_217 p1 5)]) (rest := []) ⟨hx, hb, hml, hown, hts⟩ (m_put_19 l D ct S ws_325 ph xx mo mw ma mf m0 m1 mu mv u0 u1 iz mb th mn mpt mbg mwr mwk mlf men f1_217 G cx p1 (rf_of f1_217 p1 5) _ hT h_mu h_mv h_u0 h_u1 hph hy1 hR_222 hc) (cm_V 3 hts kc_X11_put ki_RX11 kl_RX11_234 kv_X11_put kx_X11_put kd_X11_put ⟨Nat.le_of_ble_eq_true rfl, Nat.le_of_ble_eq_true rfl⟩) (ty_preE (wr := []) (wc := ([(rf_MO mo mw ma mf m0 m1 mu mv u0 u1 iz th mb mn mpt mbg mwr mwk mlf men), (rf_RW ct 0 mw 958 f1_217)] ++ ws_325)) (ci := 11) (q0 := 0) hP hK hD hS hA hX rfl rfl) rfl rfl hl.1 rfl (lv_room (Nat.le_of_ble_eq_true rfl)) dX11_ends_35 ⟨Nat.le_of_ble_eq_true rfl, Nat.le_of_ble_eq_true rfl⟩) hP hD hS hA (fun u H locs hw_327 hP hD hS => ?_)
      obtain ⟨ws_328, f1_329⟩ := u
      obtain ⟨hT, hp_330⟩ := hw_327
      have hp_330 : rf_d (f1_217 8) f1_217 f1_329 ∧ rf_R G cx f1_329 ∧ rf_sm f1_217 f1_329 ∧ f1_329 = upd f1_217 (244 + 54 * p1.toInt.toNat + 19) (rf_of f1_217 p1 5) := hp_330
      obtain ⟨hd_331, hq_332⟩ := hp_330
      have hD_333 := rf_dt hD_221 hd_331
      have hR_334 := hq_332.1
      have hM_335 := rf_smt hM_223 hq_332.2.1
      have ho_336 := rf_ons hR_222 hc hq_332.2.1 ho_224
      have hP : va_P D vwCl ([(rf_MO mo mw ma mf m0 m1 mu mv u0 u1 iz th mb mn mpt mbg mwr mwk mlf men), (rf_RW ct 0 mw 958 f1_329)] ++ ws_328) H := hP
      have hD : va_D A ([(rf_MO mo mw ma mf m0 m1 mu mv u0 u1 iz th mb mn mpt mbg mwr mwk mlf men), (rf_RW ct 0 mw 958 f1_329)] ++ ws_328) := hD
      refine lv_iload_n hx hb dX11_ends_38 rfl (lv_at hl 0 rfl) ?_
      refine lv_iconst (v := 2) hx hb dX11_ends_39 (by decide) ?_
      refine lv_icmp_eq (tgt := 44) hx hb dX11_ends_40 (by decide) (fun hc_337 => ?_) (fun hc_337 => ?_)
      · refine lv_aload_n hx hb dX11_ends_44 rfl (lv_at hl 1 rfl) ?_
        refine lv_iload_n hx hb dX11_ends_45 rfl (lv_at hl 2 rfl) ?_
        refine lv_bipush (v := 21) hx hb dX11_ends_46 (by decide) ?_
        refine ty_ki (wr := []) (wc := ([(rf_MO mo mw ma mf m0 m1 mu mv u0 u1 iz th mb mn mpt mbg mwr mwk mlf men), (rf_RW ct 0 mw 958 f1_329)] ++ ws_328)) (va_runV (As := [.int p1, .int 21]) (rest := []) ⟨hx, hb, hml, hown, hts⟩ (m_of_21 l D ct S ws_328 ph xx mo mw ma mf m0 m1 mu mv u0 u1 iz mb th mn mpt mbg mwr mwk mlf men f1_329 G cx p1 _ hT h_mu h_mv h_u0 h_u1 hph hy1 hR_334 hc) (cm_V 2 hts kc_X11_of ki_RX11 kl_RX11_209 kv_X11_of kx_X11_of kd_X11_of ⟨Nat.le_of_ble_eq_true rfl, Nat.le_of_ble_eq_true rfl⟩) (ty_preE (wr := []) (wc := ([(rf_MO mo mw ma mf m0 m1 mu mv u0 u1 iz th mb mn mpt mbg mwr mwk mlf men), (rf_RW ct 0 mw 958 f1_329)] ++ ws_328)) (ci := 11) (q0 := 0) hP hK hD hS hA hX rfl rfl) rfl rfl hl.1 rfl (lv_room (Nat.le_of_ble_eq_true rfl)) dX11_ends_48 ⟨Nat.le_of_ble_eq_true rfl, Nat.le_of_ble_eq_true rfl⟩) hP hD hS hA (fun r_338 u H locs hw_339 hP hD hS => ?_)
        obtain ⟨ws_340, rfl⟩ : ∃ z, z = u := ⟨_, rfl⟩
        obtain ⟨hT, rfl⟩ := hw_339
        have hP : va_P D vwCl ([(rf_MO mo mw ma mf m0 m1 mu mv u0 u1 iz th mb mn mpt mbg mwr mwk mlf men), (rf_RW ct 0 mw 958 f1_329)] ++ ws_340) H := hP
        have hD : va_D A ([(rf_MO mo mw ma mf m0 m1 mu mv u0 u1 iz th mb mn mpt mbg mwr mwk mlf men), (rf_RW ct 0 mw 958 f1_329)] ++ ws_340) := hD
        refine lv_iconst (v := 1) hx hb dX11_ends_51 (by decide) ?_
        refine lv_icmp_ne (tgt := 74) hx hb dX11_ends_52 (by decide) (fun hc_341 => ?_) (fun hc_341 => ?_)
        · refine lv_iconst (v := 0) hx hb dX11_ends_74 (by decide) ?_
          refine lv_istore_n (lv' := [(3, .int 0), (2, .int (rf_st3 f p1 0)), (0, .ref mo), (1, .int p1)]) hx hb dX11_ends_75 rfl hl (by decide) rfl (fun ls hl => ?_)
          refine lv_aload_n hx hb dX11_ends_76 rfl (lv_at hl 2 rfl) ?_
          refine lv_iload_n hx hb dX11_ends_77 rfl (lv_at hl 3 rfl) ?_
          refine lv_iload_n hx hb dX11_ends_78 rfl (lv_at hl 0 rfl) ?_
          refine ty_kv (wr := []) (wc := ([(rf_MO mo mw ma mf m0 m1 mu mv u0 u1 iz th mb mn mpt mbg mwr mwk mlf men), (rf_RW ct 0 mw 958 f1_329)] ++ ws_340)) (va_runV (As := [.int p1, .int 0]) (rest := []) ⟨hx, hb, hml, hown, hts⟩ (m_X11_records l D ct S ws_340 ph xx mo mw ma mf m0 m1 mu mv u0 u1 iz mb th mn mpt mbg mwr mwk mlf men f1_329 G cx p1 (0 : Int32) _ hT h_mu h_mv h_u0 h_u1 hph hy1 hR_334 hc) (cm_V 2 hts kc_X11_records ki_RX11 kl_RX11_268 kv_X11_records kx_X11_records kd_X11_records ⟨Nat.le_of_ble_eq_true rfl, Nat.le_of_ble_eq_true rfl⟩) (ty_preE (wr := []) (wc := ([(rf_MO mo mw ma mf m0 m1 mu mv u0 u1 iz th mb mn mpt mbg mwr mwk mlf men), (rf_RW ct 0 mw 958 f1_329)] ++ ws_340)) (ci := 11) (q0 := 0) hP hK hD hS hA hX rfl rfl) rfl rfl hl.1 rfl (lv_room (Nat.le_of_ble_eq_true rfl)) dX11_ends_79 ⟨Nat.le_of_ble_eq_true rfl, Nat.le_of_ble_eq_true rfl⟩) hP hD hS hA (fun u H locs hw_343 hP hD hS => ?_)
          obtain ⟨ws_344, f1_345⟩ := u
          obtain ⟨hT, hp_346⟩ := hw_343
          have hp_346 : rf_d (f1_329 8) f1_329 f1_345 ∧ rf_R G cx f1_345 ∧ rf_sm f1_329 f1_345 := hp_346
          obtain ⟨hd_347, hq_348⟩ := hp_346
          have hD_349 := rf_dt hD_333 hd_347
          have hR_350 := hq_348.1
          have hM_351 := rf_smt hM_335 hq_348.2
          have ho_352 := rf_ons hR_334 hc hq_348.2 ho_336
          have hP : va_P D vwCl ([(rf_MO mo mw ma mf m0 m1 mu mv u0 u1 iz th mb mn mpt mbg mwr mwk mlf men), (rf_RW ct 0 mw 958 f1_345)] ++ ws_344) H := hP
          have hD : va_D A ([(rf_MO mo mw ma mf m0 m1 mu mv u0 u1 iz th mb mn mpt mbg mwr mwk mlf men), (rf_RW ct 0 mw 958 f1_345)] ++ ws_344) := hD
          refine lv_iload_n hx hb dX11_ends_82 rfl (lv_at hl 0 rfl) ?_
          refine lv_if_eq (tgt := 108) hx hb dX11_ends_83 (by decide) (fun _ => ?_) (fun hc => absurd (by decide) hc)
          refine lv_aload_n hx hb dX11_ends_108 rfl (lv_at hl 2 rfl) ?_
          refine lv_iload_n hx hb dX11_ends_109 rfl (lv_at hl 3 rfl) ?_
          refine ty_kv (wr := []) (wc := ([(rf_MO mo mw ma mf m0 m1 mu mv u0 u1 iz th mb mn mpt mbg mwr mwk mlf men), (rf_RW ct 0 mw 958 f1_345)] ++ ws_344)) (va_runV (As := [.int p1]) (rest := []) ⟨hx, hb, hml, hown, hts⟩ (m_X11_clears l D ct S ws_344 ph xx mo mw ma mf m0 m1 mu mv u0 u1 iz mb th mn mpt mbg mwr mwk mlf men f1_345 G cx p1 _ hT h_mu h_mv h_u0 h_u1 hph hy1 hy11 hR_350 hc) (cm_V 1 hts kc_X11_clears ki_RX11 kl_RX11_272 kv_X11_clears kx_X11_clears kd_X11_clears ⟨Nat.le_of_ble_eq_true rfl, Nat.le_of_ble_eq_true rfl⟩) (ty_preE (wr := []) (wc := ([(rf_MO mo mw ma mf m0 m1 mu mv u0 u1 iz th mb mn mpt mbg mwr mwk mlf men), (rf_RW ct 0 mw 958 f1_345)] ++ ws_344)) (ci := 11) (q0 := 0) hP hK hD hS hA hX rfl rfl) rfl rfl hl.1 rfl (lv_room (Nat.le_of_ble_eq_true rfl)) dX11_ends_110 ⟨Nat.le_of_ble_eq_true rfl, Nat.le_of_ble_eq_true rfl⟩) hP hD hS hA (fun u H locs hw_354 hP hD hS => ?_)
          obtain ⟨ws_355, f1_356⟩ := u
          obtain ⟨hT, hp_357⟩ := hw_354
          have hp_357 : rf_d (f1_345 8) f1_345 f1_356 ∧ rf_R G cx f1_356 ∧ rf_sm f1_345 f1_356 := hp_357
          obtain ⟨hd_358, hq_359⟩ := hp_357
          have hD_360 := rf_dt hD_349 hd_358
          have hR_361 := hq_359.1
          have hM_362 := rf_smt hM_351 hq_359.2
          have ho_363 := rf_ons hR_350 hc hq_359.2 ho_352
          have hP : va_P D vwCl ([(rf_MO mo mw ma mf m0 m1 mu mv u0 u1 iz th mb mn mpt mbg mwr mwk mlf men), (rf_RW ct 0 mw 958 f1_356)] ++ ws_355) H := hP
          have hD : va_D A ([(rf_MO mo mw ma mf m0 m1 mu mv u0 u1 iz th mb mn mpt mbg mwr mwk mlf men), (rf_RW ct 0 mw 958 f1_356)] ++ ws_355) := hD
          exact W.vret hx hb hr (fun t ht hW => ⟨⟨(ws_355, f1_356), rfl, ⟨hT, ⟨hD_360, hR_361, hM_362⟩⟩, by rw [ht]; exact hP, by rw [hAe]; exact hD⟩, hS.F ht⟩) hS.2.2 dX11_ends_113
        · refine lv_aload_n hx hb dX11_ends_55 rfl (lv_at hl 1 rfl) ?_
          refine lv_iload_n hx hb dX11_ends_56 rfl (lv_at hl 2 rfl) ?_
          refine lv_iconst (v := 5) hx hb dX11_ends_57 (by decide) ?_
          refine ty_ki (wr := []) (wc := ([(rf_MO mo mw ma mf m0 m1 mu mv u0 u1 iz th mb mn mpt mbg mwr mwk mlf men), (rf_RW ct 0 mw 958 f1_329)] ++ ws_340)) (va_runV (As := [.int p1, .int 5]) (rest := []) ⟨hx, hb, hml, hown, hts⟩ (m_of_5 l D ct S ws_340 ph xx mo mw ma mf m0 m1 mu mv u0 u1 iz mb th mn mpt mbg mwr mwk mlf men f1_329 G cx p1 _ hT h_mu h_mv h_u0 h_u1 hph hy1 hR_334 hc) (cm_V 2 hts kc_X11_of ki_RX11 kl_RX11_209 kv_X11_of kx_X11_of kd_X11_of ⟨Nat.le_of_ble_eq_true rfl, Nat.le_of_ble_eq_true rfl⟩) (ty_preE (wr := []) (wc := ([(rf_MO mo mw ma mf m0 m1 mu mv u0 u1 iz th mb mn mpt mbg mwr mwk mlf men), (rf_RW ct 0 mw 958 f1_329)] ++ ws_340)) (ci := 11) (q0 := 0) hP hK hD hS hA hX rfl rfl) rfl rfl hl.1 rfl (lv_room (Nat.le_of_ble_eq_true rfl)) dX11_ends_58 ⟨Nat.le_of_ble_eq_true rfl, Nat.le_of_ble_eq_true rfl⟩) hP hD hS hA (fun r_364 u H locs hw_365 hP hD hS => ?_)
          obtain ⟨ws_366, rfl⟩ : ∃ z, z = u := ⟨_, rfl⟩
          obtain ⟨hT, rfl⟩ := hw_365
          have hP : va_P D vwCl ([(rf_MO mo mw ma mf m0 m1 mu mv u0 u1 iz th mb mn mpt mbg mwr mwk mlf men), (rf_RW ct 0 mw 958 f1_329)] ++ ws_366) H := hP
          have hD : va_D A ([(rf_MO mo mw ma mf m0 m1 mu mv u0 u1 iz th mb mn mpt mbg mwr mwk mlf men), (rf_RW ct 0 mw 958 f1_329)] ++ ws_366) := hD
          refine lv_aload_n hx hb dX11_ends_61 rfl (lv_at hl 1 rfl) ?_
          refine lv_iload_n hx hb dX11_ends_62 rfl (lv_at hl 2 rfl) ?_
          refine lv_iconst (v := 2) hx hb dX11_ends_63 (by decide) ?_
          refine ty_ki (wr := []) (wc := ([(rf_MO mo mw ma mf m0 m1 mu mv u0 u1 iz th mb mn mpt mbg mwr mwk mlf men), (rf_RW ct 0 mw 958 f1_329)] ++ ws_366)) (va_runV (As := [.int p1, .int 2]) (rest := [.int (rf_of f1_329 p1 5)]) ⟨hx, hb, hml, hown, hts⟩ (m_step_2 l D ct S ws_366 ph xx mo mw ma mf m0 m1 mu mv u0 u1 iz mb th mn mpt mbg mwr mwk mlf men f1_329 G cx p1 _ hT h_mu h_mv h_u0 h_u1 hph hy1 hR_334 hc ho_336) (cm_V 2 hts kc_X11_step ki_RX11 kl_RX11_228 kv_X11_step kx_X11_step kd_X11_step ⟨Nat.le_of_ble_eq_true rfl, Nat.le_of_ble_eq_true rfl⟩) (ty_preE (wr := []) (wc := ([(rf_MO mo mw ma mf m0 m1 mu mv u0 u1 iz th mb mn mpt mbg mwr mwk mlf men), (rf_RW ct 0 mw 958 f1_329)] ++ ws_366)) (ci := 11) (q0 := 0) hP hK hD hS hA hX rfl rfl) rfl rfl hl.1 rfl (lv_room (Nat.le_of_ble_eq_true rfl)) dX11_ends_64 ⟨Nat.le_of_ble_eq_true rfl, Nat.le_of_ble_eq_true rfl⟩) hP hD hS hA (fun r_367 u H locs hw_368 hP hD hS => ?_)
          obtain ⟨ws_369, rfl⟩ : ∃ z, z = u := ⟨_, rfl⟩
          obtain ⟨hT, rfl⟩ := hw_368
          have hP : va_P D vwCl ([(rf_MO mo mw ma mf m0 m1 mu mv u0 u1 iz th mb mn mpt mbg mwr mwk mlf men), (rf_RW ct 0 mw 958 f1_329)] ++ ws_369) H := hP
          have hD : va_D A ([(rf_MO mo mw ma mf m0 m1 mu mv u0 u1 iz th mb mn mpt mbg mwr mwk mlf men), (rf_RW ct 0 mw 958 f1_329)] ++ ws_369) := hD
          refine lv_icmp_gt (tgt := 74) hx hb dX11_ends_67 (by decide) (fun hc_370 => ?_) (fun hc_370 => ?_)
          · refine lv_iconst (v := 0) hx hb dX11_ends_74 (by decide) ?_
            refine lv_istore_n (lv' := [(3, .int 0), (2, .int (rf_st3 f p1 0)), (0, .ref mo), (1, .int p1)]) hx hb dX11_ends_75 rfl hl (by decide) rfl (fun ls hl => ?_)
            refine lv_aload_n hx hb dX11_ends_76 rfl (lv_at hl 2 rfl) ?_
            refine lv_iload_n hx hb dX11_ends_77 rfl (lv_at hl 3 rfl) ?_
            refine lv_iload_n hx hb dX11_ends_78 rfl (lv_at hl 0 rfl) ?_
            refine ty_kv (wr := []) (wc := ([(rf_MO mo mw ma mf m0 m1 mu mv u0 u1 iz th mb mn mpt mbg mwr mwk mlf men), (rf_RW ct 0 mw 958 f1_329)] ++ ws_369)) (va_runV (As := [.int p1, .int 0]) (rest := []) ⟨hx, hb, hml, hown, hts⟩ (m_X11_records l D ct S ws_369 ph xx mo mw ma mf m0 m1 mu mv u0 u1 iz mb th mn mpt mbg mwr mwk mlf men f1_329 G cx p1 (0 : Int32) _ hT h_mu h_mv h_u0 h_u1 hph hy1 hR_334 hc) (cm_V 2 hts kc_X11_records ki_RX11 kl_RX11_268 kv_X11_records kx_X11_records kd_X11_records ⟨Nat.le_of_ble_eq_true rfl, Nat.le_of_ble_eq_true rfl⟩) (ty_preE (wr := []) (wc := ([(rf_MO mo mw ma mf m0 m1 mu mv u0 u1 iz th mb mn mpt mbg mwr mwk mlf men), (rf_RW ct 0 mw 958 f1_329)] ++ ws_369)) (ci := 11) (q0 := 0) hP hK hD hS hA hX rfl rfl) rfl rfl hl.1 rfl (lv_room (Nat.le_of_ble_eq_true rfl)) dX11_ends_79 ⟨Nat.le_of_ble_eq_true rfl, Nat.le_of_ble_eq_true rfl⟩) hP hD hS hA (fun u H locs hw_372 hP hD hS => ?_)
            obtain ⟨ws_373, f1_374⟩ := u
            obtain ⟨hT, hp_375⟩ := hw_372
            have hp_375 : rf_d (f1_329 8) f1_329 f1_374 ∧ rf_R G cx f1_374 ∧ rf_sm f1_329 f1_374 := hp_375
            obtain ⟨hd_376, hq_377⟩ := hp_375
            have hD_378 := rf_dt hD_333 hd_376
            have hR_379 := hq_377.1
            have hM_380 := rf_smt hM_335 hq_377.2
            have ho_381 := rf_ons hR_334 hc hq_377.2 ho_336
            have hP : va_P D vwCl ([(rf_MO mo mw ma mf m0 m1 mu mv u0 u1 iz th mb mn mpt mbg mwr mwk mlf men), (rf_RW ct 0 mw 958 f1_374)] ++ ws_373) H := hP
            have hD : va_D A ([(rf_MO mo mw ma mf m0 m1 mu mv u0 u1 iz th mb mn mpt mbg mwr mwk mlf men), (rf_RW ct 0 mw 958 f1_374)] ++ ws_373) := hD
            refine lv_iload_n hx hb dX11_ends_82 rfl (lv_at hl 0 rfl) ?_
            refine lv_if_eq (tgt := 108) hx hb dX11_ends_83 (by decide) (fun _ => ?_) (fun hc => absurd (by decide) hc)
            refine lv_aload_n hx hb dX11_ends_108 rfl (lv_at hl 2 rfl) ?_
            refine lv_iload_n hx hb dX11_ends_109 rfl (lv_at hl 3 rfl) ?_
            refine ty_kv (wr := []) (wc := ([(rf_MO mo mw ma mf m0 m1 mu mv u0 u1 iz th mb mn mpt mbg mwr mwk mlf men), (rf_RW ct 0 mw 958 f1_374)] ++ ws_373)) (va_runV (As := [.int p1]) (rest := []) ⟨hx, hb, hml, hown, hts⟩ (m_X11_clears l D ct S ws_373 ph xx mo mw ma mf m0 m1 mu mv u0 u1 iz mb th mn mpt mbg mwr mwk mlf men f1_374 G cx p1 _ hT h_mu h_mv h_u0 h_u1 hph hy1 hy11 hR_379 hc) (cm_V 1 hts kc_X11_clears ki_RX11 kl_RX11_272 kv_X11_clears kx_X11_clears kd_X11_clears ⟨Nat.le_of_ble_eq_true rfl, Nat.le_of_ble_eq_true rfl⟩) (ty_preE (wr := []) (wc := ([(rf_MO mo mw ma mf m0 m1 mu mv u0 u1 iz th mb mn mpt mbg mwr mwk mlf men), (rf_RW ct 0 mw 958 f1_374)] ++ ws_373)) (ci := 11) (q0 := 0) hP hK hD hS hA hX rfl rfl) rfl rfl hl.1 rfl (lv_room (Nat.le_of_ble_eq_true rfl)) dX11_ends_110 ⟨Nat.le_of_ble_eq_true rfl, Nat.le_of_ble_eq_true rfl⟩) hP hD hS hA (fun u H locs hw_383 hP hD hS => ?_)
            obtain ⟨ws_384, f1_385⟩ := u
            obtain ⟨hT, hp_386⟩ := hw_383
            have hp_386 : rf_d (f1_374 8) f1_374 f1_385 ∧ rf_R G cx f1_385 ∧ rf_sm f1_374 f1_385 := hp_386
            obtain ⟨hd_387, hq_388⟩ := hp_386
            have hD_389 := rf_dt hD_378 hd_387
            have hR_390 := hq_388.1
            have hM_391 := rf_smt hM_380 hq_388.2
            have ho_392 := rf_ons hR_379 hc hq_388.2 ho_381
            have hP : va_P D vwCl ([(rf_MO mo mw ma mf m0 m1 mu mv u0 u1 iz th mb mn mpt mbg mwr mwk mlf men), (rf_RW ct 0 mw 958 f1_385)] ++ ws_384) H := hP
            have hD : va_D A ([(rf_MO mo mw ma mf m0 m1 mu mv u0 u1 iz th mb mn mpt mbg mwr mwk mlf men), (rf_RW ct 0 mw 958 f1_385)] ++ ws_384) := hD
            exact W.vret hx hb hr (fun t ht hW => ⟨⟨(ws_384, f1_385), rfl, ⟨hT, ⟨hD_389, hR_390, hM_391⟩⟩, by rw [ht]; exact hP, by rw [hAe]; exact hD⟩, hS.F ht⟩) hS.2.2 dX11_ends_113
          · refine lv_iconst (v := 1) hx hb dX11_ends_70 (by decide) ?_
            refine lv_goto (tgt := 75) hx hb dX11_ends_71 (by decide) ?_
            refine lv_istore_n (lv' := [(3, .int 1), (2, .int (rf_st3 f p1 0)), (0, .ref mo), (1, .int p1)]) hx hb dX11_ends_75 rfl hl (by decide) rfl (fun ls hl => ?_)
            refine lv_aload_n hx hb dX11_ends_76 rfl (lv_at hl 2 rfl) ?_
            refine lv_iload_n hx hb dX11_ends_77 rfl (lv_at hl 3 rfl) ?_
            refine lv_iload_n hx hb dX11_ends_78 rfl (lv_at hl 0 rfl) ?_
            refine ty_kv (wr := []) (wc := ([(rf_MO mo mw ma mf m0 m1 mu mv u0 u1 iz th mb mn mpt mbg mwr mwk mlf men), (rf_RW ct 0 mw 958 f1_329)] ++ ws_369)) (va_runV (As := [.int p1, .int 1]) (rest := []) ⟨hx, hb, hml, hown, hts⟩ (m_X11_records l D ct S ws_369 ph xx mo mw ma mf m0 m1 mu mv u0 u1 iz mb th mn mpt mbg mwr mwk mlf men f1_329 G cx p1 (1 : Int32) _ hT h_mu h_mv h_u0 h_u1 hph hy1 hR_334 hc) (cm_V 2 hts kc_X11_records ki_RX11 kl_RX11_268 kv_X11_records kx_X11_records kd_X11_records ⟨Nat.le_of_ble_eq_true rfl, Nat.le_of_ble_eq_true rfl⟩) (ty_preE (wr := []) (wc := ([(rf_MO mo mw ma mf m0 m1 mu mv u0 u1 iz th mb mn mpt mbg mwr mwk mlf men), (rf_RW ct 0 mw 958 f1_329)] ++ ws_369)) (ci := 11) (q0 := 0) hP hK hD hS hA hX rfl rfl) rfl rfl hl.1 rfl (lv_room (Nat.le_of_ble_eq_true rfl)) dX11_ends_79 ⟨Nat.le_of_ble_eq_true rfl, Nat.le_of_ble_eq_true rfl⟩) hP hD hS hA (fun u H locs hw_394 hP hD hS => ?_)
            obtain ⟨ws_395, f1_396⟩ := u
            obtain ⟨hT, hp_397⟩ := hw_394
            have hp_397 : rf_d (f1_329 8) f1_329 f1_396 ∧ rf_R G cx f1_396 ∧ rf_sm f1_329 f1_396 := hp_397
            obtain ⟨hd_398, hq_399⟩ := hp_397
            have hD_400 := rf_dt hD_333 hd_398
            have hR_401 := hq_399.1
            have hM_402 := rf_smt hM_335 hq_399.2
            have ho_403 := rf_ons hR_334 hc hq_399.2 ho_336
            have hP : va_P D vwCl ([(rf_MO mo mw ma mf m0 m1 mu mv u0 u1 iz th mb mn mpt mbg mwr mwk mlf men), (rf_RW ct 0 mw 958 f1_396)] ++ ws_395) H := hP
            have hD : va_D A ([(rf_MO mo mw ma mf m0 m1 mu mv u0 u1 iz th mb mn mpt mbg mwr mwk mlf men), (rf_RW ct 0 mw 958 f1_396)] ++ ws_395) := hD
            refine lv_iload_n hx hb dX11_ends_82 rfl (lv_at hl 0 rfl) ?_
            refine lv_if_eq (tgt := 108) hx hb dX11_ends_83 (by decide) (fun hc => absurd hc (by decide)) (fun _ => ?_)
            refine lv_aload_n hx hb dX11_ends_86 rfl (lv_at hl 2 rfl) ?_
            refine lv_iload_n hx hb dX11_ends_87 rfl (lv_at hl 3 rfl) ?_
            refine lv_bipush (v := 20) hx hb dX11_ends_88 (by decide) ?_
            refine lv_aload_n hx hb dX11_ends_90 rfl (lv_at hl 2 rfl) ?_
            refine lv_iload_n hx hb dX11_ends_91 rfl (lv_at hl 3 rfl) ?_
            refine lv_iconst (v := 1) hx hb dX11_ends_92 (by decide) ?_
            have hP : va_P D vwCl ([(rf_RW ct 0 mw 958 f1_396), (rf_MO mo mw ma mf m0 m1 mu mv u0 u1 iz th mb mn mpt mbg mwr mwk mlf men)] ++ ws_395) H := ty_permP hP (ty_ordp (E := [(rf_MO mo mw ma mf m0 m1 mu mv u0 u1 iz th mb mn mpt mbg mwr mwk mlf men), (rf_RW ct 0 mw 958 f1_396)]) (E2 := [(rf_RW ct 0 mw 958 f1_396), (rf_MO mo mw ma mf m0 m1 mu mv u0 u1 iz th mb mn mpt mbg mwr mwk mlf men)]) (n := 2) [1, 0] rfl rfl (by decide))
            have hD : va_D A ([(rf_RW ct 0 mw 958 f1_396), (rf_MO mo mw ma mf m0 m1 mu mv u0 u1 iz th mb mn mpt mbg mwr mwk mlf men)] ++ ws_395) := ty_permD hD (ty_ordp (E := [(rf_MO mo mw ma mf m0 m1 mu mv u0 u1 iz th mb mn mpt mbg mwr mwk mlf men), (rf_RW ct 0 mw 958 f1_396)]) (E2 := [(rf_RW ct 0 mw 958 f1_396), (rf_MO mo mw ma mf m0 m1 mu mv u0 u1 iz th mb mn mpt mbg mwr mwk mlf men)]) (n := 2) [1, 0] rfl rfl (by decide))
            refine ty_kl (wr := [(rf_RW ct 0 mw 958 f1_396)]) (wc := ([(rf_MO mo mw ma mf m0 m1 mu mv u0 u1 iz th mb mn mpt mbg mwr mwk mlf men)] ++ ws_395)) (va_runV (As := [.int p1, .int 1]) (rest := [.int 20, .int p1, .ref mo]) ⟨hx, hb, hml, hown, hts⟩ (m_X11_sum l D ct S ws_395 ph xx mo mw ma mf m0 m1 mu mv u0 u1 iz mb th mn mpt mbg mwr mwk mlf men p1 (1 : Int32) _ hT h_mu h_mv h_u0 h_u1 hph hy1 (rf_c6 hR_401 hc) (by decide)) (cm_V 2 hts kc_X11_sum ki_RX11 kl_RX11_261 kv_X11_sum kx_X11_sum kd_X11_sum ⟨Nat.le_of_ble_eq_true rfl, Nat.le_of_ble_eq_true rfl⟩) (ty_preE (wr := [(rf_RW ct 0 mw 958 f1_396)]) (wc := ([(rf_MO mo mw ma mf m0 m1 mu mv u0 u1 iz th mb mn mpt mbg mwr mwk mlf men)] ++ ws_395)) (ci := 11) (q0 := 1) hP hK hD hS hA hX rfl rfl) rfl rfl hl.1 rfl (lv_room (Nat.le_of_ble_eq_true rfl)) dX11_ends_93 ⟨Nat.le_of_ble_eq_true rfl, Nat.le_of_ble_eq_true rfl⟩) hP hD hS hA (fun r_404 u H locs hw_405 hP hD hS => ?_)
            obtain ⟨ws_406, rfl⟩ : ∃ z, z = u := ⟨_, rfl⟩
            have hT := hw_405
            have hP : va_P D vwCl ([(rf_RW ct 0 mw 958 f1_396), (rf_MO mo mw ma mf m0 m1 mu mv u0 u1 iz th mb mn mpt mbg mwr mwk mlf men)] ++ ws_406) H := hP
            have hD : va_D A ([(rf_RW ct 0 mw 958 f1_396), (rf_MO mo mw ma mf m0 m1 mu mv u0 u1 iz th mb mn mpt mbg mwr mwk mlf men)] ++ ws_406) := hD
            refine lv_aload_n hx hb dX11_ends_96 rfl (lv_at hl 2 rfl) ?_
            refine lv_iload_n hx hb dX11_ends_97 rfl (lv_at hl 3 rfl) ?_
            refine lv_bipush (v := 6) hx hb dX11_ends_98 (by decide) ?_
            refine ty_kl (wr := [(rf_RW ct 0 mw 958 f1_396)]) (wc := ([(rf_MO mo mw ma mf m0 m1 mu mv u0 u1 iz th mb mn mpt mbg mwr mwk mlf men)] ++ ws_406)) (va_runV (As := [.int p1, .int 6]) (rest := [.long r_404, .int 20, .int p1, .ref mo]) ⟨hx, hb, hml, hown, hts⟩ (m_X11_sum l D ct S ws_406 ph xx mo mw ma mf m0 m1 mu mv u0 u1 iz mb th mn mpt mbg mwr mwk mlf men p1 (6 : Int32) _ hT h_mu h_mv h_u0 h_u1 hph hy1 (rf_c6 hR_401 hc) (by decide)) (cm_V 2 hts kc_X11_sum ki_RX11 kl_RX11_261 kv_X11_sum kx_X11_sum kd_X11_sum ⟨Nat.le_of_ble_eq_true rfl, Nat.le_of_ble_eq_true rfl⟩) (ty_preE (wr := [(rf_RW ct 0 mw 958 f1_396)]) (wc := ([(rf_MO mo mw ma mf m0 m1 mu mv u0 u1 iz th mb mn mpt mbg mwr mwk mlf men)] ++ ws_406)) (ci := 11) (q0 := 1) hP hK hD hS hA hX rfl rfl) rfl rfl hl.1 rfl (lv_room (Nat.le_of_ble_eq_true rfl)) dX11_ends_100 ⟨Nat.le_of_ble_eq_true rfl, Nat.le_of_ble_eq_true rfl⟩) hP hD hS hA (fun r_407 u H locs hw_408 hP hD hS => ?_)
            obtain ⟨ws_409, rfl⟩ : ∃ z, z = u := ⟨_, rfl⟩
            have hT := hw_408
            have hP : va_P D vwCl ([(rf_RW ct 0 mw 958 f1_396), (rf_MO mo mw ma mf m0 m1 mu mv u0 u1 iz th mb mn mpt mbg mwr mwk mlf men)] ++ ws_409) H := hP
            have hD : va_D A ([(rf_RW ct 0 mw 958 f1_396), (rf_MO mo mw ma mf m0 m1 mu mv u0 u1 iz th mb mn mpt mbg mwr mwk mlf men)] ++ ws_409) := hD
            refine lv_lsub hx hb dX11_ends_103 ?_
            refine lv_topl (fun x_410 _ => ?_)
            refine lv_l2i hx hb dX11_ends_104 rfl ?_
            refine lv_topi (fun x_411 _ => ?_)
            have hP : va_P D vwCl ([(rf_MO mo mw ma mf m0 m1 mu mv u0 u1 iz th mb mn mpt mbg mwr mwk mlf men), (rf_RW ct 0 mw 958 f1_396)] ++ ws_409) H := ty_permP hP (ty_ordp (E := [(rf_RW ct 0 mw 958 f1_396), (rf_MO mo mw ma mf m0 m1 mu mv u0 u1 iz th mb mn mpt mbg mwr mwk mlf men)]) (E2 := [(rf_MO mo mw ma mf m0 m1 mu mv u0 u1 iz th mb mn mpt mbg mwr mwk mlf men), (rf_RW ct 0 mw 958 f1_396)]) (n := 2) [1, 0] rfl rfl (by decide))
            have hD : va_D A ([(rf_MO mo mw ma mf m0 m1 mu mv u0 u1 iz th mb mn mpt mbg mwr mwk mlf men), (rf_RW ct 0 mw 958 f1_396)] ++ ws_409) := ty_permD hD (ty_ordp (E := [(rf_RW ct 0 mw 958 f1_396), (rf_MO mo mw ma mf m0 m1 mu mv u0 u1 iz th mb mn mpt mbg mwr mwk mlf men)]) (E2 := [(rf_MO mo mw ma mf m0 m1 mu mv u0 u1 iz th mb mn mpt mbg mwr mwk mlf men), (rf_RW ct 0 mw 958 f1_396)]) (n := 2) [1, 0] rfl rfl (by decide))
            refine ty_kv (wr := []) (wc := ([(rf_MO mo mw ma mf m0 m1 mu mv u0 u1 iz th mb mn mpt mbg mwr mwk mlf men), (rf_RW ct 0 mw 958 f1_396)] ++ ws_409)) (va_runV (As := [.int p1, .int 20, .int x_411]) (rest := []) ⟨hx, hb, hml, hown, hts⟩ (m_put_20 l D ct S ws_409 ph xx mo mw ma mf m0 m1 mu mv u0 u1 iz mb th mn mpt mbg mwr mwk mlf men f1_396 G cx p1 x_411 _ hT h_mu h_mv h_u0 h_u1 hph hy1 hR_401 hc) (cm_V 3 hts kc_X11_put ki_RX11 kl_RX11_234 kv_X11_put kx_X11_put kd_X11_put ⟨Nat.le_of_ble_eq_true rfl, Nat.le_of_ble_eq_true rfl⟩) (ty_preE (wr := []) (wc := ([(rf_MO mo mw ma mf m0 m1 mu mv u0 u1 iz th mb mn mpt mbg mwr mwk mlf men), (rf_RW ct 0 mw 958 f1_396)] ++ ws_409)) (ci := 11) (q0 := 0) hP hK hD hS hA hX rfl rfl) rfl rfl hl.1 rfl (lv_room (Nat.le_of_ble_eq_true rfl)) dX11_ends_105 ⟨Nat.le_of_ble_eq_true rfl, Nat.le_of_ble_eq_true rfl⟩) hP hD hS hA (fun u H locs hw_413 hP hD hS => ?_)
            obtain ⟨ws_414, f1_415⟩ := u
            obtain ⟨hT, hp_416⟩ := hw_413
            have hp_416 : rf_d (f1_396 8) f1_396 f1_415 ∧ rf_R G cx f1_415 ∧ rf_sm f1_396 f1_415 ∧ f1_415 = upd f1_396 (244 + 54 * p1.toInt.toNat + 20) x_411 := hp_416
            obtain ⟨hd_417, hq_418⟩ := hp_416
            have hD_419 := rf_dt hD_400 hd_417
            have hR_420 := hq_418.1
            have hM_421 := rf_smt hM_402 hq_418.2.1
            have ho_422 := rf_ons hR_401 hc hq_418.2.1 ho_403
            have hP : va_P D vwCl ([(rf_MO mo mw ma mf m0 m1 mu mv u0 u1 iz th mb mn mpt mbg mwr mwk mlf men), (rf_RW ct 0 mw 958 f1_415)] ++ ws_414) H := hP
            have hD : va_D A ([(rf_MO mo mw ma mf m0 m1 mu mv u0 u1 iz th mb mn mpt mbg mwr mwk mlf men), (rf_RW ct 0 mw 958 f1_415)] ++ ws_414) := hD
            refine lv_aload_n hx hb dX11_ends_108 rfl (lv_at hl 2 rfl) ?_
            refine lv_iload_n hx hb dX11_ends_109 rfl (lv_at hl 3 rfl) ?_
            refine ty_kv (wr := []) (wc := ([(rf_MO mo mw ma mf m0 m1 mu mv u0 u1 iz th mb mn mpt mbg mwr mwk mlf men), (rf_RW ct 0 mw 958 f1_415)] ++ ws_414)) (va_runV (As := [.int p1]) (rest := []) ⟨hx, hb, hml, hown, hts⟩ (m_X11_clears l D ct S ws_414 ph xx mo mw ma mf m0 m1 mu mv u0 u1 iz mb th mn mpt mbg mwr mwk mlf men f1_415 G cx p1 _ hT h_mu h_mv h_u0 h_u1 hph hy1 hy11 hR_420 hc) (cm_V 1 hts kc_X11_clears ki_RX11 kl_RX11_272 kv_X11_clears kx_X11_clears kd_X11_clears ⟨Nat.le_of_ble_eq_true rfl, Nat.le_of_ble_eq_true rfl⟩) (ty_preE (wr := []) (wc := ([(rf_MO mo mw ma mf m0 m1 mu mv u0 u1 iz th mb mn mpt mbg mwr mwk mlf men), (rf_RW ct 0 mw 958 f1_415)] ++ ws_414)) (ci := 11) (q0 := 0) hP hK hD hS hA hX rfl rfl) rfl rfl hl.1 rfl (lv_room (Nat.le_of_ble_eq_true rfl)) dX11_ends_110 ⟨Nat.le_of_ble_eq_true rfl, Nat.le_of_ble_eq_true rfl⟩) hP hD hS hA (fun u H locs hw_424 hP hD hS => ?_)
            obtain ⟨ws_425, f1_426⟩ := u
            obtain ⟨hT, hp_427⟩ := hw_424
            have hp_427 : rf_d (f1_415 8) f1_415 f1_426 ∧ rf_R G cx f1_426 ∧ rf_sm f1_415 f1_426 := hp_427
            obtain ⟨hd_428, hq_429⟩ := hp_427
            have hD_430 := rf_dt hD_419 hd_428
            have hR_431 := hq_429.1
            have hM_432 := rf_smt hM_421 hq_429.2
            have ho_433 := rf_ons hR_420 hc hq_429.2 ho_422
            have hP : va_P D vwCl ([(rf_MO mo mw ma mf m0 m1 mu mv u0 u1 iz th mb mn mpt mbg mwr mwk mlf men), (rf_RW ct 0 mw 958 f1_426)] ++ ws_425) H := hP
            have hD : va_D A ([(rf_MO mo mw ma mf m0 m1 mu mv u0 u1 iz th mb mn mpt mbg mwr mwk mlf men), (rf_RW ct 0 mw 958 f1_426)] ++ ws_425) := hD
            exact W.vret hx hb hr (fun t ht hW => ⟨⟨(ws_425, f1_426), rfl, ⟨hT, ⟨hD_430, hR_431, hM_432⟩⟩, by rw [ht]; exact hP, by rw [hAe]; exact hD⟩, hS.F ht⟩) hS.2.2 dX11_ends_113
      · exact W.vret hx hb hr (fun t ht hW => ⟨⟨(ws_328, f1_329), rfl, ⟨hT, ⟨hD_333, hR_334, hM_335⟩⟩, by rw [ht]; exact hP, by rw [hAe]; exact hD⟩, hS.F ht⟩) hS.2.2 dX11_ends_43
