theorem dX11_notes_0 : decode cX11_notes 0 = .ok (.aload_n 0, 1) := by decide +kernel
theorem dX11_notes_1 : decode cX11_notes 1 = .ok (.getfield 9, 3) := by decide +kernel
theorem dX11_notes_4 : decode cX11_notes 4 = .ok (.bipush 17, 2) := by decide +kernel
theorem dX11_notes_6 : decode cX11_notes 6 = .ok (.iaload, 1) := by decide +kernel
theorem dX11_notes_7 : decode cX11_notes 7 = .ok (.bipush 60, 2) := by decide +kernel
theorem dX11_notes_9 : decode cX11_notes 9 = .ok (.if_icmp .ne 49, 3) := by decide +kernel
theorem dX11_notes_12 : decode cX11_notes 12 = .ok (.sipush 718, 3) := by decide +kernel
theorem dX11_notes_15 : decode cX11_notes 15 = .ok (.istore 4, 2) := by decide +kernel
theorem dX11_notes_17 : decode cX11_notes 17 = .ok (.iload 4, 2) := by decide +kernel
theorem dX11_notes_19 : decode cX11_notes 19 = .ok (.sipush 954, 3) := by decide +kernel
theorem dX11_notes_22 : decode cX11_notes 22 = .ok (.if_icmp .ge 25, 3) := by decide +kernel
theorem dX11_notes_25 : decode cX11_notes 25 = .ok (.aload_n 0, 1) := by decide +kernel
theorem dX11_notes_26 : decode cX11_notes 26 = .ok (.getfield 9, 3) := by decide +kernel
theorem dX11_notes_29 : decode cX11_notes 29 = .ok (.iload 4, 2) := by decide +kernel
theorem dX11_notes_31 : decode cX11_notes 31 = .ok (.aload_n 0, 1) := by decide +kernel
theorem dX11_notes_32 : decode cX11_notes 32 = .ok (.getfield 9, 3) := by decide +kernel
theorem dX11_notes_35 : decode cX11_notes 35 = .ok (.iload 4, 2) := by decide +kernel
theorem dX11_notes_37 : decode cX11_notes 37 = .ok (.iconst 4, 1) := by decide +kernel
theorem dX11_notes_38 : decode cX11_notes 38 = .ok (.iadd, 1) := by decide +kernel
theorem dX11_notes_39 : decode cX11_notes 39 = .ok (.iaload, 1) := by decide +kernel
theorem dX11_notes_40 : decode cX11_notes 40 = .ok (.iastore, 1) := by decide +kernel
theorem dX11_notes_41 : decode cX11_notes 41 = .ok (.iinc 4 1, 3) := by decide +kernel
theorem dX11_notes_44 : decode cX11_notes 44 = .ok (.goto (-27), 3) := by decide +kernel
theorem dX11_notes_47 : decode cX11_notes 47 = .ok (.aload_n 0, 1) := by decide +kernel
theorem dX11_notes_48 : decode cX11_notes 48 = .ok (.getfield 9, 3) := by decide +kernel
theorem dX11_notes_51 : decode cX11_notes 51 = .ok (.bipush 17, 2) := by decide +kernel
theorem dX11_notes_53 : decode cX11_notes 53 = .ok (.dup2, 1) := by decide +kernel
theorem dX11_notes_54 : decode cX11_notes 54 = .ok (.iaload, 1) := by decide +kernel
theorem dX11_notes_55 : decode cX11_notes 55 = .ok (.iconst 1, 1) := by decide +kernel
theorem dX11_notes_56 : decode cX11_notes 56 = .ok (.isub, 1) := by decide +kernel
theorem dX11_notes_57 : decode cX11_notes 57 = .ok (.iastore, 1) := by decide +kernel
theorem dX11_notes_58 : decode cX11_notes 58 = .ok (.sipush 718, 3) := by decide +kernel
theorem dX11_notes_61 : decode cX11_notes 61 = .ok (.iconst 4, 1) := by decide +kernel
theorem dX11_notes_62 : decode cX11_notes 62 = .ok (.aload_n 0, 1) := by decide +kernel
theorem dX11_notes_63 : decode cX11_notes 63 = .ok (.getfield 9, 3) := by decide +kernel
theorem dX11_notes_66 : decode cX11_notes 66 = .ok (.bipush 17, 2) := by decide +kernel
theorem dX11_notes_68 : decode cX11_notes 68 = .ok (.iaload, 1) := by decide +kernel
theorem dX11_notes_69 : decode cX11_notes 69 = .ok (.imul, 1) := by decide +kernel
theorem dX11_notes_70 : decode cX11_notes 70 = .ok (.iadd, 1) := by decide +kernel
theorem dX11_notes_71 : decode cX11_notes 71 = .ok (.istore 4, 2) := by decide +kernel
theorem dX11_notes_73 : decode cX11_notes 73 = .ok (.aload_n 0, 1) := by decide +kernel
theorem dX11_notes_74 : decode cX11_notes 74 = .ok (.getfield 9, 3) := by decide +kernel
theorem dX11_notes_77 : decode cX11_notes 77 = .ok (.iload 4, 2) := by decide +kernel
theorem dX11_notes_79 : decode cX11_notes 79 = .ok (.aload_n 0, 1) := by decide +kernel
theorem dX11_notes_80 : decode cX11_notes 80 = .ok (.getfield 9, 3) := by decide +kernel
theorem dX11_notes_83 : decode cX11_notes 83 = .ok (.bipush 8, 2) := by decide +kernel
theorem dX11_notes_85 : decode cX11_notes 85 = .ok (.iaload, 1) := by decide +kernel
theorem dX11_notes_86 : decode cX11_notes 86 = .ok (.iastore, 1) := by decide +kernel
theorem dX11_notes_87 : decode cX11_notes 87 = .ok (.aload_n 0, 1) := by decide +kernel
theorem dX11_notes_88 : decode cX11_notes 88 = .ok (.getfield 9, 3) := by decide +kernel
theorem dX11_notes_91 : decode cX11_notes 91 = .ok (.iload 4, 2) := by decide +kernel
theorem dX11_notes_93 : decode cX11_notes 93 = .ok (.iconst 1, 1) := by decide +kernel
theorem dX11_notes_94 : decode cX11_notes 94 = .ok (.iadd, 1) := by decide +kernel
theorem dX11_notes_95 : decode cX11_notes 95 = .ok (.iload_n 1, 1) := by decide +kernel
theorem dX11_notes_96 : decode cX11_notes 96 = .ok (.iastore, 1) := by decide +kernel
theorem dX11_notes_97 : decode cX11_notes 97 = .ok (.aload_n 0, 1) := by decide +kernel
theorem dX11_notes_98 : decode cX11_notes 98 = .ok (.getfield 9, 3) := by decide +kernel
theorem dX11_notes_101 : decode cX11_notes 101 = .ok (.iload 4, 2) := by decide +kernel
theorem dX11_notes_103 : decode cX11_notes 103 = .ok (.iconst 2, 1) := by decide +kernel
theorem dX11_notes_104 : decode cX11_notes 104 = .ok (.iadd, 1) := by decide +kernel
theorem dX11_notes_105 : decode cX11_notes 105 = .ok (.iload_n 2, 1) := by decide +kernel
theorem dX11_notes_106 : decode cX11_notes 106 = .ok (.iastore, 1) := by decide +kernel
theorem dX11_notes_107 : decode cX11_notes 107 = .ok (.aload_n 0, 1) := by decide +kernel
theorem dX11_notes_108 : decode cX11_notes 108 = .ok (.getfield 9, 3) := by decide +kernel
theorem dX11_notes_111 : decode cX11_notes 111 = .ok (.iload 4, 2) := by decide +kernel
theorem dX11_notes_113 : decode cX11_notes 113 = .ok (.iconst 3, 1) := by decide +kernel
theorem dX11_notes_114 : decode cX11_notes 114 = .ok (.iadd, 1) := by decide +kernel
theorem dX11_notes_115 : decode cX11_notes 115 = .ok (.iload_n 3, 1) := by decide +kernel
theorem dX11_notes_116 : decode cX11_notes 116 = .ok (.iastore, 1) := by decide +kernel
theorem dX11_notes_117 : decode cX11_notes 117 = .ok (.aload_n 0, 1) := by decide +kernel
theorem dX11_notes_118 : decode cX11_notes 118 = .ok (.getfield 9, 3) := by decide +kernel
theorem dX11_notes_121 : decode cX11_notes 121 = .ok (.bipush 17, 2) := by decide +kernel
theorem dX11_notes_123 : decode cX11_notes 123 = .ok (.dup2, 1) := by decide +kernel
theorem dX11_notes_124 : decode cX11_notes 124 = .ok (.iaload, 1) := by decide +kernel
theorem dX11_notes_125 : decode cX11_notes 125 = .ok (.iconst 1, 1) := by decide +kernel
theorem dX11_notes_126 : decode cX11_notes 126 = .ok (.iadd, 1) := by decide +kernel
theorem dX11_notes_127 : decode cX11_notes 127 = .ok (.iastore, 1) := by decide +kernel
theorem dX11_notes_128 : decode cX11_notes 128 = .ok (.return_, 1) := by decide +kernel
set_option maxRecDepth 100000 in
set_option maxHeartbeats 4000000 in
theorem m_X11_notes (l : Launch) (D : va_G) (ct : Nat → ClassId) (S : ty_S) (ws : va_W) (ph : va_W → Prop) (xx : Nat → Nat → Nat → Prop) (mo : Nat) (mw : Nat) (ma : Nat) (mf : Nat) (m0 : Nat) (m1 : Nat) (mu : Nat) (mv : Nat) (u0 : Nat) (u1 : Nat) (iz : Nat) (mb : Nat) (th : Int32) (mn : Int32) (mpt : Int32) (mbg : Int32) (mwr : Int32) (mwk : Int32) (mlf : Int32) (men : Int32) (f : Nat → Int32) (G : Nat → Int32) (cx : Int) (p1 : Int32) (p2 : Int32) (p3 : Int32) (sz : Nat) (hT : ty_V ct S ph ws) (h_mu : S mu = some (.inr (1, 42))) (h_mv : S mv = some (.inr (1, 42))) (h_u0 : S u0 = some (.inr (1, 42))) (h_u1 : S u1 = some (.inr (1, 42))) (hph : ty_C ph xx) (hy1 : ty_y1 xx) (hR : rf_R G cx f) : Met l yX11_notes (ws_ yX11_notes cX11_notes 5 none) ({ frames := 0, cells := 0, slots := 0, locals := 0 } : Room) (va_Pc [.ref mo, .int p1, .int p2, .int p3] (cmP D ct sz ([(rf_MO mo mw ma mf m0 m1 mu mv u0 u1 iz th mb mn mpt mbg mwr mwk mlf men), (rf_RW ct 0 mw 958 f)] ++ ws))) (va_Qv (fun (u : va_W × (Nat → Int32)) => match u with | (u9, f1) => ty_V ct S ph u9 ∧ rf_R G cx f1 ∧ rf_sm f f1) (cmB D ([(rf_MO mo mw ma mf m0 m1 mu mv u0 u1 iz th mb mn mpt mbg mwr mwk mlf men), (rf_RW ct 0 mw 958 f)] ++ ws) sz (fun (u : va_W × (Nat → Int32)) => match u with | (u9, f1) => ([(rf_MO mo mw ma mf m0 m1 mu mv u0 u1 iz th mb mn mpt mbg mwr mwk mlf men), (rf_RW ct 0 mw 958 f1)] ++ u9))) (va_A ([(rf_MO mo mw ma mf m0 m1 mu mv u0 u1 iz th mb mn mpt mbg mwr mwk mlf men), (rf_RW ct 0 mw 958 f)] ++ ws) sz)) 0 0 (va_A ([(rf_MO mo mw ma mf m0 m1 mu mv u0 u1 iz th mb mn mpt mbg mwr mwk mlf men), (rf_RW ct 0 mw 958 f)] ++ ws) sz) := by
  refine Met.ofW (cc := cX11_notes) (maxL := 5) (ret := none) (by decide) rfl ?_
  intro p e s m args below meth c s₁ B hml hv
  obtain ⟨rfl, hsz, hP, hK, hD0, hX⟩ := hv
  have hx := B.exec
  have hb := B.bytes
  have hr := B.returns
  have hts := ws_all (atoms_spec (ws := ws_ yX11_notes cX11_notes 5 none) B.pre)
  have hown : s.vm.findClass RX11 = some m.cls := findClass_of_methodNamed B.named
  have hlocks := B.notSynchronized
  subst hsz
  have hD := hD0.self (sz := s.heap.size)
  generalize hAe : va_A ([(rf_MO mo mw ma mf m0 m1 mu mv u0 u1 iz th mb mn mpt mbg mwr mwk mlf men), (rf_RW ct 0 mw 958 f)] ++ ws) s.heap.size = A at hD hX ⊢
  have hA : ∀ q : Nat, s.heap.size ≤ q → A q := fun q h => by rw [← hAe]; exact Or.inr h
  have hS : va_S A s.heap s.heap [] := va_S.rf
  have hl := lv_entry ([.ref mo, .int p1, .int p2, .int p3]) (n := 5) (Nat.le_of_ble_eq_true rfl)
  rw [lg_entry_eq]
  generalize (lg_sl ([.ref mo, .int p1, .int p2, .int p3]) ++ List.replicate (5 - (lg_sl ([.ref mo, .int p1, .int p2, .int p3])).length) Slot.unset).toArray = ls at hl ⊢
  have hl : lv_has ls 5 [(0, .ref mo), (1, .int p1), (2, .int p2), (3, .int p3)] := hl
  refine lv_aload_n hx hb dX11_notes_0 rfl (lv_at hl 0 rfl) ?_
  refine va_get (v := .ref mw) (D := D) (ci := 11) (C := RX11) (T := TX11) (N := 19) hx hb hts in_X11 hown hK hP 0 rfl rfl 0 (by decide) (hts _ kl_RX11_9) (fun _ h9 => h9) rfl dX11_notes_1 ?_
  refine lv_bipush (v := 17) hx hb dX11_notes_4 (by decide) ?_
  refine va_iald hx hb hK hP 1 0 rfl rfl (cm_vin (by decide)) dX11_notes_6 ?_
  refine cm_cst (y := (f 17)) (by first | rfl | decide +kernel) ?_
  refine lv_bipush (v := 60) hx hb dX11_notes_7 (by decide) ?_
  refine lv_icmp_ne (tgt := 58) hx hb dX11_notes_9 (by decide) (fun hc_1 => ?_) (fun hc_1 => ?_)
  · have hL_2 : 0 ≤ (f 17).toInt ∧ (f 17).toInt ≤ 59 := (rf_ne60 (N := 60) (by decide) hc_1 hR.2.2.1.2.2)
    refine lv_sipush (v := 718) hx hb dX11_notes_58 (by decide) ?_
    refine lv_iconst (v := 4) hx hb dX11_notes_61 (by decide) ?_
    refine lv_aload_n hx hb dX11_notes_62 rfl (lv_at hl 0 rfl) ?_
    refine va_get (v := .ref mw) (D := D) (ci := 11) (C := RX11) (T := TX11) (N := 19) hx hb hts in_X11 hown hK hP 0 rfl rfl 0 (by decide) (hts _ kl_RX11_9) (fun _ h9 => h9) rfl dX11_notes_63 ?_
    refine lv_bipush (v := 17) hx hb dX11_notes_66 (by decide) ?_
    refine va_iald hx hb hK hP 1 0 rfl rfl (cm_vin (by decide)) dX11_notes_68 ?_
    refine cm_cst (y := (f 17)) (by first | rfl | decide +kernel) ?_
    refine lv_imul hx hb dX11_notes_69 ?_
    refine lv_iadd hx hb dX11_notes_70 ?_
    refine lv_istore (lv' := [(4, .int (718 + (4 * (f 17)))), (0, .ref mo), (1, .int p1), (2, .int p2), (3, .int p3)]) hx hb dX11_notes_71 hl (by decide) rfl (fun ls hl => ?_)
    refine lv_aload_n hx hb dX11_notes_73 rfl (lv_at hl 1 rfl) ?_
    refine va_get (v := .ref mw) (D := D) (ci := 11) (C := RX11) (T := TX11) (N := 19) hx hb hts in_X11 hown hK hP 0 rfl rfl 0 (by decide) (hts _ kl_RX11_9) (fun _ h9 => h9) rfl dX11_notes_74 ?_
    refine lv_iload hx hb dX11_notes_77 (lv_at hl 0 rfl) ?_
    refine lv_aload_n hx hb dX11_notes_79 rfl (lv_at hl 1 rfl) ?_
    refine va_get (v := .ref mw) (D := D) (ci := 11) (C := RX11) (T := TX11) (N := 19) hx hb hts in_X11 hown hK hP 0 rfl rfl 0 (by decide) (hts _ kl_RX11_9) (fun _ h9 => h9) rfl dX11_notes_80 ?_
    refine lv_bipush (v := 8) hx hb dX11_notes_83 (by decide) ?_
    refine va_iald hx hb hK hP 1 0 rfl rfl (cm_vin (by decide)) dX11_notes_85 ?_
    refine cm_cst (y := (f 8)) (by first | rfl | decide +kernel) ?_
    refine va_iast hx hb hK hP hD hS 1 0 rfl rfl (rf_in1 (by have := (rf_nb0 (a := 718) (b := 4) (A := 718) (B := 4) (N := 59) (by decide) (by decide) hL_2 (by decide) (by decide) (by decide) (by decide)); omega)) dX11_notes_86 (fun H locs hP hD hS => ?_)
    have hP : va_P D vwCl ([(rf_MO mo mw ma mf m0 m1 mu mv u0 u1 iz th mb mn mpt mbg mwr mwk mlf men), (rf_RW ct 0 mw 958 (upd f (718 + (4 * (f 17))).toNatClampNeg (f 8)))] ++ ws) H := hP
    have hD : va_D A ([(rf_MO mo mw ma mf m0 m1 mu mv u0 u1 iz th mb mn mpt mbg mwr mwk mlf men), (rf_RW ct 0 mw 958 (upd f (718 + (4 * (f 17))).toNatClampNeg (f 8)))] ++ ws) := hD
    have hU_4 : rf_R G cx (upd f (718 + (4 * (f 17))).toNatClampNeg (f 8)) ∧ rf_sm f (upd f (718 + (4 * (f 17))).toNatClampNeg (f 8)) := (rf_free _ hR (Or.inr (rf_ge (rf_nb0 (a := 718) (b := 4) (A := 718) (B := 4) (N := 59) (by decide) (by decide) hL_2 (by decide) (by decide) (by decide) (by decide)).1)))
    generalize hf_7 : (upd f (718 + (4 * (f 17))).toNatClampNeg (f 8)) = f_3 at hP hD hU_4
    have hR_5 := hU_4.1
    have hM_6 := rf_smt (rf_smr f) hU_4.2
    have hq_8 : f_3 17 = f 17 := (rf_u17 hf_7 (rf_ge (rf_nb0 (a := 718) (b := 4) (A := 718) (B := 4) (N := 59) (by decide) (by decide) hL_2 (by decide) (by decide) (by decide) (by decide)).1) (by omega)).trans rfl
    refine lv_aload_n hx hb dX11_notes_87 rfl (lv_at hl 1 rfl) ?_
    refine va_get (v := .ref mw) (D := D) (ci := 11) (C := RX11) (T := TX11) (N := 19) hx hb hts in_X11 hown hK hP 0 rfl rfl 0 (by decide) (hts _ kl_RX11_9) (fun _ h9 => h9) rfl dX11_notes_88 ?_
    refine lv_iload hx hb dX11_notes_91 (lv_at hl 0 rfl) ?_
    refine lv_iconst (v := 1) hx hb dX11_notes_93 (by decide) ?_
    refine lv_iadd hx hb dX11_notes_94 ?_
    refine lv_iload_n hx hb dX11_notes_95 rfl (lv_at hl 2 rfl) ?_
    refine va_iast hx hb hK hP hD hS 1 0 rfl rfl (rf_in1 (by have := (rf_nb (a := 718) (b := 4) (A := 718) (B := 4) (N := 59) (k := 1) (K := 1) (by decide) (by decide) (by decide) hL_2 (by decide) (by decide) (by decide) (by decide) (by decide)); omega)) dX11_notes_96 (fun H locs hP hD hS => ?_)
    have hP : va_P D vwCl ([(rf_MO mo mw ma mf m0 m1 mu mv u0 u1 iz th mb mn mpt mbg mwr mwk mlf men), (rf_RW ct 0 mw 958 (upd f_3 ((718 + (4 * (f 17))) + 1).toNatClampNeg p1))] ++ ws) H := hP
    have hD : va_D A ([(rf_MO mo mw ma mf m0 m1 mu mv u0 u1 iz th mb mn mpt mbg mwr mwk mlf men), (rf_RW ct 0 mw 958 (upd f_3 ((718 + (4 * (f 17))) + 1).toNatClampNeg p1))] ++ ws) := hD
    have hU_10 : rf_R G cx (upd f_3 ((718 + (4 * (f 17))) + 1).toNatClampNeg p1) ∧ rf_sm f_3 (upd f_3 ((718 + (4 * (f 17))) + 1).toNatClampNeg p1) := (rf_free _ hR_5 (Or.inr (rf_ge (rf_nb (a := 718) (b := 4) (A := 718) (B := 4) (N := 59) (k := 1) (K := 1) (by decide) (by decide) (by decide) hL_2 (by decide) (by decide) (by decide) (by decide) (by decide)).1)))
    generalize hf_13 : (upd f_3 ((718 + (4 * (f 17))) + 1).toNatClampNeg p1) = f_9 at hP hD hU_10
    have hR_11 := hU_10.1
    have hM_12 := rf_smt hM_6 hU_10.2
    have hq_14 : f_9 17 = f 17 := (rf_u17 hf_13 (rf_ge (rf_nb (a := 718) (b := 4) (A := 718) (B := 4) (N := 59) (k := 1) (K := 1) (by decide) (by decide) (by decide) hL_2 (by decide) (by decide) (by decide) (by decide) (by decide)).1) (by omega)).trans hq_8
    refine lv_aload_n hx hb dX11_notes_97 rfl (lv_at hl 1 rfl) ?_
    refine va_get (v := .ref mw) (D := D) (ci := 11) (C := RX11) (T := TX11) (N := 19) hx hb hts in_X11 hown hK hP 0 rfl rfl 0 (by decide) (hts _ kl_RX11_9) (fun _ h9 => h9) rfl dX11_notes_98 ?_
    refine lv_iload hx hb dX11_notes_101 (lv_at hl 0 rfl) ?_
    refine lv_iconst (v := 2) hx hb dX11_notes_103 (by decide) ?_
    refine lv_iadd hx hb dX11_notes_104 ?_
    refine lv_iload_n hx hb dX11_notes_105 rfl (lv_at hl 3 rfl) ?_
    refine va_iast hx hb hK hP hD hS 1 0 rfl rfl (rf_in1 (by have := (rf_nb (a := 718) (b := 4) (A := 718) (B := 4) (N := 59) (k := 2) (K := 2) (by decide) (by decide) (by decide) hL_2 (by decide) (by decide) (by decide) (by decide) (by decide)); omega)) dX11_notes_106 (fun H locs hP hD hS => ?_)
    have hP : va_P D vwCl ([(rf_MO mo mw ma mf m0 m1 mu mv u0 u1 iz th mb mn mpt mbg mwr mwk mlf men), (rf_RW ct 0 mw 958 (upd f_9 ((718 + (4 * (f 17))) + 2).toNatClampNeg p2))] ++ ws) H := hP
    have hD : va_D A ([(rf_MO mo mw ma mf m0 m1 mu mv u0 u1 iz th mb mn mpt mbg mwr mwk mlf men), (rf_RW ct 0 mw 958 (upd f_9 ((718 + (4 * (f 17))) + 2).toNatClampNeg p2))] ++ ws) := hD
    have hU_16 : rf_R G cx (upd f_9 ((718 + (4 * (f 17))) + 2).toNatClampNeg p2) ∧ rf_sm f_9 (upd f_9 ((718 + (4 * (f 17))) + 2).toNatClampNeg p2) := (rf_free _ hR_11 (Or.inr (rf_ge (rf_nb (a := 718) (b := 4) (A := 718) (B := 4) (N := 59) (k := 2) (K := 2) (by decide) (by decide) (by decide) hL_2 (by decide) (by decide) (by decide) (by decide) (by decide)).1)))
    generalize hf_19 : (upd f_9 ((718 + (4 * (f 17))) + 2).toNatClampNeg p2) = f_15 at hP hD hU_16
    have hR_17 := hU_16.1
    have hM_18 := rf_smt hM_12 hU_16.2
    have hq_20 : f_15 17 = f 17 := (rf_u17 hf_19 (rf_ge (rf_nb (a := 718) (b := 4) (A := 718) (B := 4) (N := 59) (k := 2) (K := 2) (by decide) (by decide) (by decide) hL_2 (by decide) (by decide) (by decide) (by decide) (by decide)).1) (by omega)).trans hq_14
    refine lv_aload_n hx hb dX11_notes_107 rfl (lv_at hl 1 rfl) ?_
    refine va_get (v := .ref mw) (D := D) (ci := 11) (C := RX11) (T := TX11) (N := 19) hx hb hts in_X11 hown hK hP 0 rfl rfl 0 (by decide) (hts _ kl_RX11_9) (fun _ h9 => h9) rfl dX11_notes_108 ?_
    refine lv_iload hx hb dX11_notes_111 (lv_at hl 0 rfl) ?_
    refine lv_iconst (v := 3) hx hb dX11_notes_113 (by decide) ?_
    refine lv_iadd hx hb dX11_notes_114 ?_
    refine lv_iload_n hx hb dX11_notes_115 rfl (lv_at hl 4 rfl) ?_
    refine va_iast hx hb hK hP hD hS 1 0 rfl rfl (rf_in1 (by have := (rf_nb (a := 718) (b := 4) (A := 718) (B := 4) (N := 59) (k := 3) (K := 3) (by decide) (by decide) (by decide) hL_2 (by decide) (by decide) (by decide) (by decide) (by decide)); omega)) dX11_notes_116 (fun H locs hP hD hS => ?_)
    have hP : va_P D vwCl ([(rf_MO mo mw ma mf m0 m1 mu mv u0 u1 iz th mb mn mpt mbg mwr mwk mlf men), (rf_RW ct 0 mw 958 (upd f_15 ((718 + (4 * (f 17))) + 3).toNatClampNeg p3))] ++ ws) H := hP
    have hD : va_D A ([(rf_MO mo mw ma mf m0 m1 mu mv u0 u1 iz th mb mn mpt mbg mwr mwk mlf men), (rf_RW ct 0 mw 958 (upd f_15 ((718 + (4 * (f 17))) + 3).toNatClampNeg p3))] ++ ws) := hD
    have hU_22 : rf_R G cx (upd f_15 ((718 + (4 * (f 17))) + 3).toNatClampNeg p3) ∧ rf_sm f_15 (upd f_15 ((718 + (4 * (f 17))) + 3).toNatClampNeg p3) := (rf_free _ hR_17 (Or.inr (rf_ge (rf_nb (a := 718) (b := 4) (A := 718) (B := 4) (N := 59) (k := 3) (K := 3) (by decide) (by decide) (by decide) hL_2 (by decide) (by decide) (by decide) (by decide) (by decide)).1)))
    generalize hf_25 : (upd f_15 ((718 + (4 * (f 17))) + 3).toNatClampNeg p3) = f_21 at hP hD hU_22
    have hR_23 := hU_22.1
    have hM_24 := rf_smt hM_18 hU_22.2
    have hq_26 : f_21 17 = f 17 := (rf_u17 hf_25 (rf_ge (rf_nb (a := 718) (b := 4) (A := 718) (B := 4) (N := 59) (k := 3) (K := 3) (by decide) (by decide) (by decide) hL_2 (by decide) (by decide) (by decide) (by decide) (by decide)).1) (by omega)).trans hq_20
    refine lv_aload_n hx hb dX11_notes_117 rfl (lv_at hl 1 rfl) ?_
    refine va_get (v := .ref mw) (D := D) (ci := 11) (C := RX11) (T := TX11) (N := 19) hx hb hts in_X11 hown hK hP 0 rfl rfl 0 (by decide) (hts _ kl_RX11_9) (fun _ h9 => h9) rfl dX11_notes_118 ?_
    refine lv_bipush (v := 17) hx hb dX11_notes_121 (by decide) ?_
    refine lv_dup2_11 hx hb dX11_notes_123 rfl rfl ?_
    refine va_iald hx hb hK hP 1 0 rfl rfl (cm_vin (by decide)) dX11_notes_124 ?_
    refine cm_cst (y := (f_21 17)) (by first | rfl | decide +kernel) ?_
    refine lv_iconst (v := 1) hx hb dX11_notes_125 (by decide) ?_
    refine lv_iadd hx hb dX11_notes_126 ?_
    refine va_iast hx hb hK hP hD hS 1 0 rfl rfl (cm_vin (by decide)) dX11_notes_127 (fun H locs hP hD hS => ?_)
    have hP : va_P D vwCl ([(rf_MO mo mw ma mf m0 m1 mu mv u0 u1 iz th mb mn mpt mbg mwr mwk mlf men), (rf_RW ct 0 mw 958 (upd f_21 (17 : Int32).toNatClampNeg ((f_21 17) + 1)))] ++ ws) H := hP
    have hD : va_D A ([(rf_MO mo mw ma mf m0 m1 mu mv u0 u1 iz th mb mn mpt mbg mwr mwk mlf men), (rf_RW ct 0 mw 958 (upd f_21 (17 : Int32).toNatClampNeg ((f_21 17) + 1)))] ++ ws) := hD
    have hU_28 : rf_R G cx (upd f_21 (17 : Int32).toNatClampNeg ((f_21 17) + 1)) ∧ rf_sm f_21 (upd f_21 (17 : Int32).toNatClampNeg ((f_21 17) + 1)) := (rf_num17 hR_23 (by rw [hq_26]; have := rf_inc9 hL_2 (by omega) (by omega); omega))
    generalize hf_31 : (upd f_21 (17 : Int32).toNatClampNeg ((f_21 17) + 1)) = f_27 at hP hD hU_28
    have hR_29 := hU_28.1
    have hM_30 := rf_smt hM_24 hU_28.2
    exact W.vret hx hb hr (fun t ht hW => ⟨⟨(ws, f_27), rfl, ⟨hT, ⟨hR_29, hM_30⟩⟩, by rw [ht]; exact hP, by rw [hAe]; exact hD⟩, hS.F ht⟩) hS.2.2 dX11_notes_128
  · refine lv_sipush (v := 718) hx hb dX11_notes_12 (by decide) ?_
    refine lv_istore (lv' := [(4, .int 718), (0, .ref mo), (1, .int p1), (2, .int p2), (3, .int p3)]) hx hb dX11_notes_15 hl (by decide) rfl (fun ls hl => ?_)
    refine ty_loop (I := fun μ H locs ls => ∃ (ws : va_W) (y_32 : Int32) (f_33 : Nat → Int32), μ = (2147483648 - y_32.toInt).toNat ∧ ty_V ct S ph ws ∧ va_P D vwCl ([(rf_MO mo mw ma mf m0 m1 mu mv u0 u1 iz th mb mn mpt mbg mwr mwk mlf men), (rf_RW ct 0 mw 958 f_33)] ++ ws) H ∧ va_D A ([(rf_MO mo mw ma mf m0 m1 mu mv u0 u1 iz th mb mn mpt mbg mwr mwk mlf men), (rf_RW ct 0 mw 958 f_33)] ++ ws) ∧ va_S A s.heap H locs ∧ lv_has ls 5 [(0, .ref mo), (1, .int p1), (2, .int p2), (3, .int p3), (4, .int y_32)] ∧ rf_R G cx f_33 ∧ rf_sm f f_33 ∧ (718 ≤ y_32.toInt ∧ y_32.toInt ≤ 954) ∧ f_33 17 = 60) ⟨_, ws, (718 : Int32), f, rfl, hT, hP, hD, hS, (lv_sub hl [1, 2, 3, 4, 0] rfl), hR, (rf_smr f), ⟨by decide, by decide⟩, hc_1⟩ (fun μ H locs ls hI ih_17 => ?_)
    obtain ⟨ws, y_32, f_33, rfl, hT, hP, hD, hS, hl, hR_17, hM_17, hex_17⟩ := hI
    refine lv_iload hx hb dX11_notes_17 (lv_at hl 4 rfl) ?_
    refine lv_sipush (v := 954) hx hb dX11_notes_19 (by decide) ?_
    refine lv_icmp_ge (tgt := 47) hx hb dX11_notes_22 (by decide) (fun hc_34 => ?_) (fun hc_34 => ?_)
    · refine lv_aload_n hx hb dX11_notes_47 rfl (lv_at hl 0 rfl) ?_
      refine va_get (v := .ref mw) (D := D) (ci := 11) (C := RX11) (T := TX11) (N := 19) hx hb hts in_X11 hown hK hP 0 rfl rfl 0 (by decide) (hts _ kl_RX11_9) (fun _ h9 => h9) rfl dX11_notes_48 ?_
      refine lv_bipush (v := 17) hx hb dX11_notes_51 (by decide) ?_
      refine lv_dup2_11 hx hb dX11_notes_53 rfl rfl ?_
      refine va_iald hx hb hK hP 1 0 rfl rfl (cm_vin (by decide)) dX11_notes_54 ?_
      refine cm_cst (y := (f_33 17)) (by first | rfl | decide +kernel) ?_
      refine lv_iconst (v := 1) hx hb dX11_notes_55 (by decide) ?_
      refine lv_isub hx hb dX11_notes_56 ?_
      refine va_iast hx hb hK hP hD hS 1 0 rfl rfl (cm_vin (by decide)) dX11_notes_57 (fun H locs hP hD hS => ?_)
      have hP : va_P D vwCl ([(rf_MO mo mw ma mf m0 m1 mu mv u0 u1 iz th mb mn mpt mbg mwr mwk mlf men), (rf_RW ct 0 mw 958 (upd f_33 (17 : Int32).toNatClampNeg ((f_33 17) - 1)))] ++ ws) H := hP
      have hD : va_D A ([(rf_MO mo mw ma mf m0 m1 mu mv u0 u1 iz th mb mn mpt mbg mwr mwk mlf men), (rf_RW ct 0 mw 958 (upd f_33 (17 : Int32).toNatClampNeg ((f_33 17) - 1)))] ++ ws) := hD
      have hU_36 : rf_R G cx (upd f_33 (17 : Int32).toNatClampNeg ((f_33 17) - 1)) ∧ rf_sm f_33 (upd f_33 (17 : Int32).toNatClampNeg ((f_33 17) - 1)) := (rf_num17 hR_17 (by rw [hex_17.2]; decide))
      generalize hf_39 : (upd f_33 (17 : Int32).toNatClampNeg ((f_33 17) - 1)) = f_35 at hP hD hU_36
      have hR_37 := hU_36.1
      have hM_38 := rf_smt hM_17 hU_36.2
      have hL_40 : 0 ≤ (f_35 17).toInt ∧ (f_35 17).toInt ≤ 59 := (by rw [rf_at17 hf_39, hex_17.2]; decide)
      refine lv_sipush (v := 718) hx hb dX11_notes_58 (by decide) ?_
      refine lv_iconst (v := 4) hx hb dX11_notes_61 (by decide) ?_
      refine lv_aload_n hx hb dX11_notes_62 rfl (lv_at hl 0 rfl) ?_
      refine va_get (v := .ref mw) (D := D) (ci := 11) (C := RX11) (T := TX11) (N := 19) hx hb hts in_X11 hown hK hP 0 rfl rfl 0 (by decide) (hts _ kl_RX11_9) (fun _ h9 => h9) rfl dX11_notes_63 ?_
      refine lv_bipush (v := 17) hx hb dX11_notes_66 (by decide) ?_
      refine va_iald hx hb hK hP 1 0 rfl rfl (cm_vin (by decide)) dX11_notes_68 ?_
      refine cm_cst (y := (f_35 17)) (by first | rfl | decide +kernel) ?_
      refine lv_imul hx hb dX11_notes_69 ?_
      refine lv_iadd hx hb dX11_notes_70 ?_
      refine lv_istore (lv' := [(4, .int (718 + (4 * (f_35 17)))), (0, .ref mo), (1, .int p1), (2, .int p2), (3, .int p3)]) hx hb dX11_notes_71 hl (by decide) rfl (fun ls hl => ?_)
      refine lv_aload_n hx hb dX11_notes_73 rfl (lv_at hl 1 rfl) ?_
      refine va_get (v := .ref mw) (D := D) (ci := 11) (C := RX11) (T := TX11) (N := 19) hx hb hts in_X11 hown hK hP 0 rfl rfl 0 (by decide) (hts _ kl_RX11_9) (fun _ h9 => h9) rfl dX11_notes_74 ?_
      refine lv_iload hx hb dX11_notes_77 (lv_at hl 0 rfl) ?_
      refine lv_aload_n hx hb dX11_notes_79 rfl (lv_at hl 1 rfl) ?_
      refine va_get (v := .ref mw) (D := D) (ci := 11) (C := RX11) (T := TX11) (N := 19) hx hb hts in_X11 hown hK hP 0 rfl rfl 0 (by decide) (hts _ kl_RX11_9) (fun _ h9 => h9) rfl dX11_notes_80 ?_
      refine lv_bipush (v := 8) hx hb dX11_notes_83 (by decide) ?_
      refine va_iald hx hb hK hP 1 0 rfl rfl (cm_vin (by decide)) dX11_notes_85 ?_
      refine cm_cst (y := (f_35 8)) (by first | rfl | decide +kernel) ?_
      refine va_iast hx hb hK hP hD hS 1 0 rfl rfl (rf_in1 (by have := (rf_nb0 (a := 718) (b := 4) (A := 718) (B := 4) (N := 59) (by decide) (by decide) hL_40 (by decide) (by decide) (by decide) (by decide)); omega)) dX11_notes_86 (fun H locs hP hD hS => ?_)
      have hP : va_P D vwCl ([(rf_MO mo mw ma mf m0 m1 mu mv u0 u1 iz th mb mn mpt mbg mwr mwk mlf men), (rf_RW ct 0 mw 958 (upd f_35 (718 + (4 * (f_35 17))).toNatClampNeg (f_35 8)))] ++ ws) H := hP
      have hD : va_D A ([(rf_MO mo mw ma mf m0 m1 mu mv u0 u1 iz th mb mn mpt mbg mwr mwk mlf men), (rf_RW ct 0 mw 958 (upd f_35 (718 + (4 * (f_35 17))).toNatClampNeg (f_35 8)))] ++ ws) := hD
      have hU_42 : rf_R G cx (upd f_35 (718 + (4 * (f_35 17))).toNatClampNeg (f_35 8)) ∧ rf_sm f_35 (upd f_35 (718 + (4 * (f_35 17))).toNatClampNeg (f_35 8)) := (rf_free _ hR_37 (Or.inr (rf_ge (rf_nb0 (a := 718) (b := 4) (A := 718) (B := 4) (N := 59) (by decide) (by decide) hL_40 (by decide) (by decide) (by decide) (by decide)).1)))
      generalize hf_45 : (upd f_35 (718 + (4 * (f_35 17))).toNatClampNeg (f_35 8)) = f_41 at hP hD hU_42
      have hR_43 := hU_42.1
      have hM_44 := rf_smt hM_38 hU_42.2
      have hq_46 : f_41 17 = f_35 17 := (rf_u17 hf_45 (rf_ge (rf_nb0 (a := 718) (b := 4) (A := 718) (B := 4) (N := 59) (by decide) (by decide) hL_40 (by decide) (by decide) (by decide) (by decide)).1) (by omega)).trans rfl
      refine lv_aload_n hx hb dX11_notes_87 rfl (lv_at hl 1 rfl) ?_
      refine va_get (v := .ref mw) (D := D) (ci := 11) (C := RX11) (T := TX11) (N := 19) hx hb hts in_X11 hown hK hP 0 rfl rfl 0 (by decide) (hts _ kl_RX11_9) (fun _ h9 => h9) rfl dX11_notes_88 ?_
      refine lv_iload hx hb dX11_notes_91 (lv_at hl 0 rfl) ?_
      refine lv_iconst (v := 1) hx hb dX11_notes_93 (by decide) ?_
      refine lv_iadd hx hb dX11_notes_94 ?_
      refine lv_iload_n hx hb dX11_notes_95 rfl (lv_at hl 2 rfl) ?_
      refine va_iast hx hb hK hP hD hS 1 0 rfl rfl (rf_in1 (by have := (rf_nb (a := 718) (b := 4) (A := 718) (B := 4) (N := 59) (k := 1) (K := 1) (by decide) (by decide) (by decide) hL_40 (by decide) (by decide) (by decide) (by decide) (by decide)); omega)) dX11_notes_96 (fun H locs hP hD hS => ?_)
      have hP : va_P D vwCl ([(rf_MO mo mw ma mf m0 m1 mu mv u0 u1 iz th mb mn mpt mbg mwr mwk mlf men), (rf_RW ct 0 mw 958 (upd f_41 ((718 + (4 * (f_35 17))) + 1).toNatClampNeg p1))] ++ ws) H := hP
      have hD : va_D A ([(rf_MO mo mw ma mf m0 m1 mu mv u0 u1 iz th mb mn mpt mbg mwr mwk mlf men), (rf_RW ct 0 mw 958 (upd f_41 ((718 + (4 * (f_35 17))) + 1).toNatClampNeg p1))] ++ ws) := hD
      have hU_48 : rf_R G cx (upd f_41 ((718 + (4 * (f_35 17))) + 1).toNatClampNeg p1) ∧ rf_sm f_41 (upd f_41 ((718 + (4 * (f_35 17))) + 1).toNatClampNeg p1) := (rf_free _ hR_43 (Or.inr (rf_ge (rf_nb (a := 718) (b := 4) (A := 718) (B := 4) (N := 59) (k := 1) (K := 1) (by decide) (by decide) (by decide) hL_40 (by decide) (by decide) (by decide) (by decide) (by decide)).1)))
      generalize hf_51 : (upd f_41 ((718 + (4 * (f_35 17))) + 1).toNatClampNeg p1) = f_47 at hP hD hU_48
      have hR_49 := hU_48.1
      have hM_50 := rf_smt hM_44 hU_48.2
      have hq_52 : f_47 17 = f_35 17 := (rf_u17 hf_51 (rf_ge (rf_nb (a := 718) (b := 4) (A := 718) (B := 4) (N := 59) (k := 1) (K := 1) (by decide) (by decide) (by decide) hL_40 (by decide) (by decide) (by decide) (by decide) (by decide)).1) (by omega)).trans hq_46
      refine lv_aload_n hx hb dX11_notes_97 rfl (lv_at hl 1 rfl) ?_
      refine va_get (v := .ref mw) (D := D) (ci := 11) (C := RX11) (T := TX11) (N := 19) hx hb hts in_X11 hown hK hP 0 rfl rfl 0 (by decide) (hts _ kl_RX11_9) (fun _ h9 => h9) rfl dX11_notes_98 ?_
      refine lv_iload hx hb dX11_notes_101 (lv_at hl 0 rfl) ?_
      refine lv_iconst (v := 2) hx hb dX11_notes_103 (by decide) ?_
      refine lv_iadd hx hb dX11_notes_104 ?_
      refine lv_iload_n hx hb dX11_notes_105 rfl (lv_at hl 3 rfl) ?_
      refine va_iast hx hb hK hP hD hS 1 0 rfl rfl (rf_in1 (by have := (rf_nb (a := 718) (b := 4) (A := 718) (B := 4) (N := 59) (k := 2) (K := 2) (by decide) (by decide) (by decide) hL_40 (by decide) (by decide) (by decide) (by decide) (by decide)); omega)) dX11_notes_106 (fun H locs hP hD hS => ?_)
      have hP : va_P D vwCl ([(rf_MO mo mw ma mf m0 m1 mu mv u0 u1 iz th mb mn mpt mbg mwr mwk mlf men), (rf_RW ct 0 mw 958 (upd f_47 ((718 + (4 * (f_35 17))) + 2).toNatClampNeg p2))] ++ ws) H := hP
      have hD : va_D A ([(rf_MO mo mw ma mf m0 m1 mu mv u0 u1 iz th mb mn mpt mbg mwr mwk mlf men), (rf_RW ct 0 mw 958 (upd f_47 ((718 + (4 * (f_35 17))) + 2).toNatClampNeg p2))] ++ ws) := hD
      have hU_54 : rf_R G cx (upd f_47 ((718 + (4 * (f_35 17))) + 2).toNatClampNeg p2) ∧ rf_sm f_47 (upd f_47 ((718 + (4 * (f_35 17))) + 2).toNatClampNeg p2) := (rf_free _ hR_49 (Or.inr (rf_ge (rf_nb (a := 718) (b := 4) (A := 718) (B := 4) (N := 59) (k := 2) (K := 2) (by decide) (by decide) (by decide) hL_40 (by decide) (by decide) (by decide) (by decide) (by decide)).1)))
      generalize hf_57 : (upd f_47 ((718 + (4 * (f_35 17))) + 2).toNatClampNeg p2) = f_53 at hP hD hU_54
      have hR_55 := hU_54.1
      have hM_56 := rf_smt hM_50 hU_54.2
      have hq_58 : f_53 17 = f_35 17 := (rf_u17 hf_57 (rf_ge (rf_nb (a := 718) (b := 4) (A := 718) (B := 4) (N := 59) (k := 2) (K := 2) (by decide) (by decide) (by decide) hL_40 (by decide) (by decide) (by decide) (by decide) (by decide)).1) (by omega)).trans hq_52
      refine lv_aload_n hx hb dX11_notes_107 rfl (lv_at hl 1 rfl) ?_
      refine va_get (v := .ref mw) (D := D) (ci := 11) (C := RX11) (T := TX11) (N := 19) hx hb hts in_X11 hown hK hP 0 rfl rfl 0 (by decide) (hts _ kl_RX11_9) (fun _ h9 => h9) rfl dX11_notes_108 ?_
      refine lv_iload hx hb dX11_notes_111 (lv_at hl 0 rfl) ?_
      refine lv_iconst (v := 3) hx hb dX11_notes_113 (by decide) ?_
      refine lv_iadd hx hb dX11_notes_114 ?_
      refine lv_iload_n hx hb dX11_notes_115 rfl (lv_at hl 4 rfl) ?_
      refine va_iast hx hb hK hP hD hS 1 0 rfl rfl (rf_in1 (by have := (rf_nb (a := 718) (b := 4) (A := 718) (B := 4) (N := 59) (k := 3) (K := 3) (by decide) (by decide) (by decide) hL_40 (by decide) (by decide) (by decide) (by decide) (by decide)); omega)) dX11_notes_116 (fun H locs hP hD hS => ?_)
      have hP : va_P D vwCl ([(rf_MO mo mw ma mf m0 m1 mu mv u0 u1 iz th mb mn mpt mbg mwr mwk mlf men), (rf_RW ct 0 mw 958 (upd f_53 ((718 + (4 * (f_35 17))) + 3).toNatClampNeg p3))] ++ ws) H := hP
      have hD : va_D A ([(rf_MO mo mw ma mf m0 m1 mu mv u0 u1 iz th mb mn mpt mbg mwr mwk mlf men), (rf_RW ct 0 mw 958 (upd f_53 ((718 + (4 * (f_35 17))) + 3).toNatClampNeg p3))] ++ ws) := hD
      have hU_60 : rf_R G cx (upd f_53 ((718 + (4 * (f_35 17))) + 3).toNatClampNeg p3) ∧ rf_sm f_53 (upd f_53 ((718 + (4 * (f_35 17))) + 3).toNatClampNeg p3) := (rf_free _ hR_55 (Or.inr (rf_ge (rf_nb (a := 718) (b := 4) (A := 718) (B := 4) (N := 59) (k := 3) (K := 3) (by decide) (by decide) (by decide) hL_40 (by decide) (by decide) (by decide) (by decide) (by decide)).1)))
      generalize hf_63 : (upd f_53 ((718 + (4 * (f_35 17))) + 3).toNatClampNeg p3) = f_59 at hP hD hU_60
      have hR_61 := hU_60.1
      have hM_62 := rf_smt hM_56 hU_60.2
      have hq_64 : f_59 17 = f_35 17 := (rf_u17 hf_63 (rf_ge (rf_nb (a := 718) (b := 4) (A := 718) (B := 4) (N := 59) (k := 3) (K := 3) (by decide) (by decide) (by decide) hL_40 (by decide) (by decide) (by decide) (by decide) (by decide)).1) (by omega)).trans hq_58
      refine lv_aload_n hx hb dX11_notes_117 rfl (lv_at hl 1 rfl) ?_
      refine va_get (v := .ref mw) (D := D) (ci := 11) (C := RX11) (T := TX11) (N := 19) hx hb hts in_X11 hown hK hP 0 rfl rfl 0 (by decide) (hts _ kl_RX11_9) (fun _ h9 => h9) rfl dX11_notes_118 ?_
      refine lv_bipush (v := 17) hx hb dX11_notes_121 (by decide) ?_
      refine lv_dup2_11 hx hb dX11_notes_123 rfl rfl ?_
      refine va_iald hx hb hK hP 1 0 rfl rfl (cm_vin (by decide)) dX11_notes_124 ?_
      refine cm_cst (y := (f_59 17)) (by first | rfl | decide +kernel) ?_
      refine lv_iconst (v := 1) hx hb dX11_notes_125 (by decide) ?_
      refine lv_iadd hx hb dX11_notes_126 ?_
      refine va_iast hx hb hK hP hD hS 1 0 rfl rfl (cm_vin (by decide)) dX11_notes_127 (fun H locs hP hD hS => ?_)
      have hP : va_P D vwCl ([(rf_MO mo mw ma mf m0 m1 mu mv u0 u1 iz th mb mn mpt mbg mwr mwk mlf men), (rf_RW ct 0 mw 958 (upd f_59 (17 : Int32).toNatClampNeg ((f_59 17) + 1)))] ++ ws) H := hP
      have hD : va_D A ([(rf_MO mo mw ma mf m0 m1 mu mv u0 u1 iz th mb mn mpt mbg mwr mwk mlf men), (rf_RW ct 0 mw 958 (upd f_59 (17 : Int32).toNatClampNeg ((f_59 17) + 1)))] ++ ws) := hD
      have hU_66 : rf_R G cx (upd f_59 (17 : Int32).toNatClampNeg ((f_59 17) + 1)) ∧ rf_sm f_59 (upd f_59 (17 : Int32).toNatClampNeg ((f_59 17) + 1)) := (rf_num17 hR_61 (by rw [hq_64]; have := rf_inc9 hL_40 (by omega) (by omega); omega))
      generalize hf_69 : (upd f_59 (17 : Int32).toNatClampNeg ((f_59 17) + 1)) = f_65 at hP hD hU_66
      have hR_67 := hU_66.1
      have hM_68 := rf_smt hM_62 hU_66.2
      exact W.vret hx hb hr (fun t ht hW => ⟨⟨(ws, f_65), rfl, ⟨hT, ⟨hR_67, hM_68⟩⟩, by rw [ht]; exact hP, by rw [hAe]; exact hD⟩, hS.F ht⟩) hS.2.2 dX11_notes_128
    · refine lv_aload_n hx hb dX11_notes_25 rfl (lv_at hl 0 rfl) ?_
      refine va_get (v := .ref mw) (D := D) (ci := 11) (C := RX11) (T := TX11) (N := 19) hx hb hts in_X11 hown hK hP 0 rfl rfl 0 (by decide) (hts _ kl_RX11_9) (fun _ h9 => h9) rfl dX11_notes_26 ?_
      refine lv_iload hx hb dX11_notes_29 (lv_at hl 4 rfl) ?_
      refine lv_aload_n hx hb dX11_notes_31 rfl (lv_at hl 0 rfl) ?_
      refine va_get (v := .ref mw) (D := D) (ci := 11) (C := RX11) (T := TX11) (N := 19) hx hb hts in_X11 hown hK hP 0 rfl rfl 0 (by decide) (hts _ kl_RX11_9) (fun _ h9 => h9) rfl dX11_notes_32 ?_
      refine lv_iload hx hb dX11_notes_35 (lv_at hl 4 rfl) ?_
      refine lv_iconst (v := 4) hx hb dX11_notes_37 (by decide) ?_
      refine lv_iadd hx hb dX11_notes_38 ?_
      refine va_iald hx hb hK hP 1 0 rfl rfl (rf_in2 (K := 4) (by decide) (by have := hex_17.1; have := rf_ng (b := 954) (by decide) hc_34; omega)) dX11_notes_39 ?_
      refine va_iast hx hb hK hP hD hS 1 0 rfl rfl (rf_in1 (by have := hex_17.1; omega)) dX11_notes_40 (fun H locs hP hD hS => ?_)
      have hP : va_P D vwCl ([(rf_MO mo mw ma mf m0 m1 mu mv u0 u1 iz th mb mn mpt mbg mwr mwk mlf men), (rf_RW ct 0 mw 958 (upd f_33 y_32.toNatClampNeg (f_33 (y_32 + 4).toNatClampNeg)))] ++ ws) H := hP
      have hD : va_D A ([(rf_MO mo mw ma mf m0 m1 mu mv u0 u1 iz th mb mn mpt mbg mwr mwk mlf men), (rf_RW ct 0 mw 958 (upd f_33 y_32.toNatClampNeg (f_33 (y_32 + 4).toNatClampNeg)))] ++ ws) := hD
      have hU_71 : rf_R G cx (upd f_33 y_32.toNatClampNeg (f_33 (y_32 + 4).toNatClampNeg)) ∧ rf_sm f_33 (upd f_33 y_32.toNatClampNeg (f_33 (y_32 + 4).toNatClampNeg)) := (rf_free _ hR_17 (Or.inr (rf_ge (by have := hex_17.1; omega))))
      generalize hf_74 : (upd f_33 y_32.toNatClampNeg (f_33 (y_32 + 4).toNatClampNeg)) = f_70 at hP hD hU_71
      have hR_72 := hU_71.1
      have hM_73 := rf_smt hM_17 hU_71.2
      refine lv_iinc (v := (y_32 + Int32.ofInt 1)) (lv' := [(4, .int (y_32 + Int32.ofInt 1)), (0, .ref mo), (1, .int p1), (2, .int p2), (3, .int p3)]) hx hb dX11_notes_41 hl (k := 4) rfl rfl (by decide) rfl (fun ls hl => ?_)
      refine lv_goto (tgt := 17) hx hb dX11_notes_44 (by decide) ?_
      exact ih_17 _ _ _ _ (ty_inc (cm_lt hc_34)) ⟨ws, (y_32 + Int32.ofInt 1), f_70, rfl, hT, hP, hD, hS, (lv_sub hl [1, 2, 3, 4, 0] rfl), hR_72, hM_73, rf_lp (by decide) hex_17.1 hc_34 (by omega) (by omega), (rf_u17 hf_74 (rf_ge (by have := hex_17; omega)) (by omega)).trans hex_17.2⟩
theorem dX11_records_0 : decode cX11_records 0 = .ok (.aload_n 0, 1) := by decide +kernel
theorem dX11_records_1 : decode cX11_records 1 = .ok (.getfield 9, 3) := by decide +kernel
theorem dX11_records_4 : decode cX11_records 4 = .ok (.bipush 12, 2) := by decide +kernel
theorem dX11_records_6 : decode cX11_records 6 = .ok (.iaload, 1) := by decide +kernel
theorem dX11_records_7 : decode cX11_records 7 = .ok (.bipush 30, 2) := by decide +kernel
theorem dX11_records_9 : decode cX11_records 9 = .ok (.if_icmp .ne 45, 3) := by decide +kernel
theorem dX11_records_12 : decode cX11_records 12 = .ok (.sipush 568, 3) := by decide +kernel
theorem dX11_records_15 : decode cX11_records 15 = .ok (.istore_n 3, 1) := by decide +kernel
theorem dX11_records_16 : decode cX11_records 16 = .ok (.iload_n 3, 1) := by decide +kernel
theorem dX11_records_17 : decode cX11_records 17 = .ok (.sipush 713, 3) := by decide +kernel
theorem dX11_records_20 : decode cX11_records 20 = .ok (.if_icmp .ge 23, 3) := by decide +kernel
theorem dX11_records_23 : decode cX11_records 23 = .ok (.aload_n 0, 1) := by decide +kernel
theorem dX11_records_24 : decode cX11_records 24 = .ok (.getfield 9, 3) := by decide +kernel
theorem dX11_records_27 : decode cX11_records 27 = .ok (.iload_n 3, 1) := by decide +kernel
theorem dX11_records_28 : decode cX11_records 28 = .ok (.aload_n 0, 1) := by decide +kernel
theorem dX11_records_29 : decode cX11_records 29 = .ok (.getfield 9, 3) := by decide +kernel
theorem dX11_records_32 : decode cX11_records 32 = .ok (.iload_n 3, 1) := by decide +kernel
theorem dX11_records_33 : decode cX11_records 33 = .ok (.iconst 5, 1) := by decide +kernel
theorem dX11_records_34 : decode cX11_records 34 = .ok (.iadd, 1) := by decide +kernel
theorem dX11_records_35 : decode cX11_records 35 = .ok (.iaload, 1) := by decide +kernel
theorem dX11_records_36 : decode cX11_records 36 = .ok (.iastore, 1) := by decide +kernel
theorem dX11_records_37 : decode cX11_records 37 = .ok (.iinc 3 1, 3) := by decide +kernel
theorem dX11_records_40 : decode cX11_records 40 = .ok (.goto (-24), 3) := by decide +kernel
theorem dX11_records_43 : decode cX11_records 43 = .ok (.aload_n 0, 1) := by decide +kernel
theorem dX11_records_44 : decode cX11_records 44 = .ok (.getfield 9, 3) := by decide +kernel
theorem dX11_records_47 : decode cX11_records 47 = .ok (.bipush 12, 2) := by decide +kernel
theorem dX11_records_49 : decode cX11_records 49 = .ok (.dup2, 1) := by decide +kernel
theorem dX11_records_50 : decode cX11_records 50 = .ok (.iaload, 1) := by decide +kernel
theorem dX11_records_51 : decode cX11_records 51 = .ok (.iconst 1, 1) := by decide +kernel
theorem dX11_records_52 : decode cX11_records 52 = .ok (.isub, 1) := by decide +kernel
theorem dX11_records_53 : decode cX11_records 53 = .ok (.iastore, 1) := by decide +kernel
theorem dX11_records_54 : decode cX11_records 54 = .ok (.sipush 568, 3) := by decide +kernel
theorem dX11_records_57 : decode cX11_records 57 = .ok (.iconst 5, 1) := by decide +kernel
theorem dX11_records_58 : decode cX11_records 58 = .ok (.aload_n 0, 1) := by decide +kernel
theorem dX11_records_59 : decode cX11_records 59 = .ok (.getfield 9, 3) := by decide +kernel
theorem dX11_records_62 : decode cX11_records 62 = .ok (.bipush 12, 2) := by decide +kernel
theorem dX11_records_64 : decode cX11_records 64 = .ok (.iaload, 1) := by decide +kernel
theorem dX11_records_65 : decode cX11_records 65 = .ok (.imul, 1) := by decide +kernel
theorem dX11_records_66 : decode cX11_records 66 = .ok (.iadd, 1) := by decide +kernel
theorem dX11_records_67 : decode cX11_records 67 = .ok (.istore_n 3, 1) := by decide +kernel
theorem dX11_records_68 : decode cX11_records 68 = .ok (.aload_n 0, 1) := by decide +kernel
theorem dX11_records_69 : decode cX11_records 69 = .ok (.getfield 9, 3) := by decide +kernel
theorem dX11_records_72 : decode cX11_records 72 = .ok (.iload_n 3, 1) := by decide +kernel
theorem dX11_records_73 : decode cX11_records 73 = .ok (.iload_n 1, 1) := by decide +kernel
theorem dX11_records_74 : decode cX11_records 74 = .ok (.iastore, 1) := by decide +kernel
theorem dX11_records_75 : decode cX11_records 75 = .ok (.aload_n 0, 1) := by decide +kernel
theorem dX11_records_76 : decode cX11_records 76 = .ok (.getfield 9, 3) := by decide +kernel
theorem dX11_records_79 : decode cX11_records 79 = .ok (.iload_n 3, 1) := by decide +kernel
theorem dX11_records_80 : decode cX11_records 80 = .ok (.iconst 1, 1) := by decide +kernel
theorem dX11_records_81 : decode cX11_records 81 = .ok (.iadd, 1) := by decide +kernel
theorem dX11_records_82 : decode cX11_records 82 = .ok (.aload_n 0, 1) := by decide +kernel
theorem dX11_records_83 : decode cX11_records 83 = .ok (.iload_n 1, 1) := by decide +kernel
theorem dX11_records_84 : decode cX11_records 84 = .ok (.iconst 4, 1) := by decide +kernel
theorem dX11_records_85 : decode cX11_records 85 = .ok (.invokevirtual 261, 3) := by decide +kernel
theorem dX11_records_88 : decode cX11_records 88 = .ok (.l2i, 1) := by decide +kernel
theorem dX11_records_89 : decode cX11_records 89 = .ok (.iastore, 1) := by decide +kernel
theorem dX11_records_90 : decode cX11_records 90 = .ok (.aload_n 0, 1) := by decide +kernel
theorem dX11_records_91 : decode cX11_records 91 = .ok (.getfield 9, 3) := by decide +kernel
theorem dX11_records_94 : decode cX11_records 94 = .ok (.iload_n 3, 1) := by decide +kernel
theorem dX11_records_95 : decode cX11_records 95 = .ok (.iconst 2, 1) := by decide +kernel
theorem dX11_records_96 : decode cX11_records 96 = .ok (.iadd, 1) := by decide +kernel
theorem dX11_records_97 : decode cX11_records 97 = .ok (.aload_n 0, 1) := by decide +kernel
theorem dX11_records_98 : decode cX11_records 98 = .ok (.iload_n 1, 1) := by decide +kernel
theorem dX11_records_99 : decode cX11_records 99 = .ok (.iconst 5, 1) := by decide +kernel
theorem dX11_records_100 : decode cX11_records 100 = .ok (.invokevirtual 261, 3) := by decide +kernel
theorem dX11_records_103 : decode cX11_records 103 = .ok (.l2i, 1) := by decide +kernel
theorem dX11_records_104 : decode cX11_records 104 = .ok (.iastore, 1) := by decide +kernel
theorem dX11_records_105 : decode cX11_records 105 = .ok (.aload_n 0, 1) := by decide +kernel
theorem dX11_records_106 : decode cX11_records 106 = .ok (.getfield 9, 3) := by decide +kernel
theorem dX11_records_109 : decode cX11_records 109 = .ok (.iload_n 3, 1) := by decide +kernel
theorem dX11_records_110 : decode cX11_records 110 = .ok (.iconst 3, 1) := by decide +kernel
theorem dX11_records_111 : decode cX11_records 111 = .ok (.iadd, 1) := by decide +kernel
theorem dX11_records_112 : decode cX11_records 112 = .ok (.aload_n 0, 1) := by decide +kernel
theorem dX11_records_113 : decode cX11_records 113 = .ok (.getfield 9, 3) := by decide +kernel
theorem dX11_records_116 : decode cX11_records 116 = .ok (.bipush 8, 2) := by decide +kernel
theorem dX11_records_118 : decode cX11_records 118 = .ok (.iaload, 1) := by decide +kernel
theorem dX11_records_119 : decode cX11_records 119 = .ok (.iastore, 1) := by decide +kernel
theorem dX11_records_120 : decode cX11_records 120 = .ok (.aload_n 0, 1) := by decide +kernel
theorem dX11_records_121 : decode cX11_records 121 = .ok (.getfield 9, 3) := by decide +kernel
theorem dX11_records_124 : decode cX11_records 124 = .ok (.iload_n 3, 1) := by decide +kernel
theorem dX11_records_125 : decode cX11_records 125 = .ok (.iconst 4, 1) := by decide +kernel
theorem dX11_records_126 : decode cX11_records 126 = .ok (.iadd, 1) := by decide +kernel
theorem dX11_records_127 : decode cX11_records 127 = .ok (.iload_n 2, 1) := by decide +kernel
theorem dX11_records_128 : decode cX11_records 128 = .ok (.ifCond .eq 7, 3) := by decide +kernel
theorem dX11_records_131 : decode cX11_records 131 = .ok (.iconst 1, 1) := by decide +kernel
theorem dX11_records_132 : decode cX11_records 132 = .ok (.goto 4, 3) := by decide +kernel
theorem dX11_records_135 : decode cX11_records 135 = .ok (.iconst 0, 1) := by decide +kernel
theorem dX11_records_136 : decode cX11_records 136 = .ok (.iastore, 1) := by decide +kernel
theorem dX11_records_137 : decode cX11_records 137 = .ok (.aload_n 0, 1) := by decide +kernel
theorem dX11_records_138 : decode cX11_records 138 = .ok (.getfield 9, 3) := by decide +kernel
theorem dX11_records_141 : decode cX11_records 141 = .ok (.bipush 12, 2) := by decide +kernel
theorem dX11_records_143 : decode cX11_records 143 = .ok (.dup2, 1) := by decide +kernel
theorem dX11_records_144 : decode cX11_records 144 = .ok (.iaload, 1) := by decide +kernel
theorem dX11_records_145 : decode cX11_records 145 = .ok (.iconst 1, 1) := by decide +kernel
theorem dX11_records_146 : decode cX11_records 146 = .ok (.iadd, 1) := by decide +kernel
theorem dX11_records_147 : decode cX11_records 147 = .ok (.iastore, 1) := by decide +kernel
theorem dX11_records_148 : decode cX11_records 148 = .ok (.return_, 1) := by decide +kernel
set_option maxRecDepth 100000 in
set_option maxHeartbeats 4000000 in
theorem m_X11_records (l : Launch) (D : va_G) (ct : Nat → ClassId) (S : ty_S) (ws : va_W) (ph : va_W → Prop) (xx : Nat → Nat → Nat → Prop) (mo : Nat) (mw : Nat) (ma : Nat) (mf : Nat) (m0 : Nat) (m1 : Nat) (mu : Nat) (mv : Nat) (u0 : Nat) (u1 : Nat) (iz : Nat) (mb : Nat) (th : Int32) (mn : Int32) (mpt : Int32) (mbg : Int32) (mwr : Int32) (mwk : Int32) (mlf : Int32) (men : Int32) (f : Nat → Int32) (G : Nat → Int32) (cx : Int) (p1 : Int32) (p2 : Int32) (sz : Nat) (hT : ty_V ct S ph ws) (h_mu : S mu = some (.inr (1, 42))) (h_mv : S mv = some (.inr (1, 42))) (h_u0 : S u0 = some (.inr (1, 42))) (h_u1 : S u1 = some (.inr (1, 42))) (hph : ty_C ph xx) (hy1 : ty_y1 xx) (hR : rf_R G cx f) (hc : 0 ≤ p1.toInt ∧ p1.toInt < (G 9).toInt) : Met l yX11_records (ws_ yX11_records cX11_records 4 none) ({ frames := 1, cells := 0, slots := 0, locals := 22 } : Room) (va_Pc [.ref mo, .int p1, .int p2] (cmP D ct sz ([(rf_MO mo mw ma mf m0 m1 mu mv u0 u1 iz th mb mn mpt mbg mwr mwk mlf men), (rf_RW ct 0 mw 958 f)] ++ ws))) (va_Qv (fun (u : va_W × (Nat → Int32)) => match u with | (u9, f1) => ty_V ct S ph u9 ∧ rf_R G cx f1 ∧ rf_sm f f1) (cmB D ([(rf_MO mo mw ma mf m0 m1 mu mv u0 u1 iz th mb mn mpt mbg mwr mwk mlf men), (rf_RW ct 0 mw 958 f)] ++ ws) sz (fun (u : va_W × (Nat → Int32)) => match u with | (u9, f1) => ([(rf_MO mo mw ma mf m0 m1 mu mv u0 u1 iz th mb mn mpt mbg mwr mwk mlf men), (rf_RW ct 0 mw 958 f1)] ++ u9))) (va_A ([(rf_MO mo mw ma mf m0 m1 mu mv u0 u1 iz th mb mn mpt mbg mwr mwk mlf men), (rf_RW ct 0 mw 958 f)] ++ ws) sz)) 0 0 (va_A ([(rf_MO mo mw ma mf m0 m1 mu mv u0 u1 iz th mb mn mpt mbg mwr mwk mlf men), (rf_RW ct 0 mw 958 f)] ++ ws) sz) := by
  refine Met.ofW (cc := cX11_records) (maxL := 4) (ret := none) (by decide) rfl ?_
  intro p e s m args below meth c s₁ B hml hv
  obtain ⟨rfl, hsz, hP, hK, hD0, hX⟩ := hv
  have hx := B.exec
  have hb := B.bytes
  have hr := B.returns
  have hts := ws_all (atoms_spec (ws := ws_ yX11_records cX11_records 4 none) B.pre)
  have hown : s.vm.findClass RX11 = some m.cls := findClass_of_methodNamed B.named
  have hlocks := B.notSynchronized
  subst hsz
  have hD := hD0.self (sz := s.heap.size)
  generalize hAe : va_A ([(rf_MO mo mw ma mf m0 m1 mu mv u0 u1 iz th mb mn mpt mbg mwr mwk mlf men), (rf_RW ct 0 mw 958 f)] ++ ws) s.heap.size = A at hD hX ⊢
  have hA : ∀ q : Nat, s.heap.size ≤ q → A q := fun q h => by rw [← hAe]; exact Or.inr h
  have hS : va_S A s.heap s.heap [] := va_S.rf
  have hl := lv_entry ([.ref mo, .int p1, .int p2]) (n := 4) (Nat.le_of_ble_eq_true rfl)
  rw [lg_entry_eq]
  generalize (lg_sl ([.ref mo, .int p1, .int p2]) ++ List.replicate (4 - (lg_sl ([.ref mo, .int p1, .int p2])).length) Slot.unset).toArray = ls at hl ⊢
  have hl : lv_has ls 4 [(0, .ref mo), (1, .int p1), (2, .int p2)] := hl
  refine lv_aload_n hx hb dX11_records_0 rfl (lv_at hl 0 rfl) ?_
  refine va_get (v := .ref mw) (D := D) (ci := 11) (C := RX11) (T := TX11) (N := 19) hx hb hts in_X11 hown hK hP 0 rfl rfl 0 (by decide) (hts _ kl_RX11_9) (fun _ h9 => h9) rfl dX11_records_1 ?_
  refine lv_bipush (v := 12) hx hb dX11_records_4 (by decide) ?_
  refine va_iald hx hb hK hP 1 0 rfl rfl (cm_vin (by decide)) dX11_records_6 ?_
  refine cm_cst (y := (f 12)) (by first | rfl | decide +kernel) ?_
  refine lv_bipush (v := 30) hx hb dX11_records_7 (by decide) ?_
  refine lv_icmp_ne (tgt := 54) hx hb dX11_records_9 (by decide) (fun hc_1 => ?_) (fun hc_1 => ?_)
  · have hL_2 : 0 ≤ (f 12).toInt ∧ (f 12).toInt ≤ 29 := (rf_ne60 (N := 30) (by decide) hc_1 hR.2.2.1.1)
    refine lv_sipush (v := 568) hx hb dX11_records_54 (by decide) ?_
    refine lv_iconst (v := 5) hx hb dX11_records_57 (by decide) ?_
    refine lv_aload_n hx hb dX11_records_58 rfl (lv_at hl 0 rfl) ?_
    refine va_get (v := .ref mw) (D := D) (ci := 11) (C := RX11) (T := TX11) (N := 19) hx hb hts in_X11 hown hK hP 0 rfl rfl 0 (by decide) (hts _ kl_RX11_9) (fun _ h9 => h9) rfl dX11_records_59 ?_
    refine lv_bipush (v := 12) hx hb dX11_records_62 (by decide) ?_
    refine va_iald hx hb hK hP 1 0 rfl rfl (cm_vin (by decide)) dX11_records_64 ?_
    refine cm_cst (y := (f 12)) (by first | rfl | decide +kernel) ?_
    refine lv_imul hx hb dX11_records_65 ?_
    refine lv_iadd hx hb dX11_records_66 ?_
    refine lv_istore_n (lv' := [(3, .int (568 + (5 * (f 12)))), (0, .ref mo), (1, .int p1), (2, .int p2)]) hx hb dX11_records_67 rfl hl (by decide) rfl (fun ls hl => ?_)
    refine lv_aload_n hx hb dX11_records_68 rfl (lv_at hl 1 rfl) ?_
    refine va_get (v := .ref mw) (D := D) (ci := 11) (C := RX11) (T := TX11) (N := 19) hx hb hts in_X11 hown hK hP 0 rfl rfl 0 (by decide) (hts _ kl_RX11_9) (fun _ h9 => h9) rfl dX11_records_69 ?_
    refine lv_iload_n hx hb dX11_records_72 rfl (lv_at hl 0 rfl) ?_
    refine lv_iload_n hx hb dX11_records_73 rfl (lv_at hl 2 rfl) ?_
    refine va_iast hx hb hK hP hD hS 1 0 rfl rfl (rf_in1 (by have := (rf_nb0 (a := 568) (b := 5) (A := 568) (B := 5) (N := 29) (by decide) (by decide) hL_2 (by decide) (by decide) (by decide) (by decide)); omega)) dX11_records_74 (fun H locs hP hD hS => ?_)
    have hP : va_P D vwCl ([(rf_MO mo mw ma mf m0 m1 mu mv u0 u1 iz th mb mn mpt mbg mwr mwk mlf men), (rf_RW ct 0 mw 958 (upd f (568 + (5 * (f 12))).toNatClampNeg p1))] ++ ws) H := hP
    have hD : va_D A ([(rf_MO mo mw ma mf m0 m1 mu mv u0 u1 iz th mb mn mpt mbg mwr mwk mlf men), (rf_RW ct 0 mw 958 (upd f (568 + (5 * (f 12))).toNatClampNeg p1))] ++ ws) := hD
    have hU_4 : rf_R G cx (upd f (568 + (5 * (f 12))).toNatClampNeg p1) ∧ rf_sm f (upd f (568 + (5 * (f 12))).toNatClampNeg p1) := (rf_free _ hR (Or.inr (rf_ge (rf_nb0 (a := 568) (b := 5) (A := 568) (B := 5) (N := 29) (by decide) (by decide) hL_2 (by decide) (by decide) (by decide) (by decide)).1)))
    generalize hf_7 : (upd f (568 + (5 * (f 12))).toNatClampNeg p1) = f_3 at hP hD hU_4
    have hR_5 := hU_4.1
    have hM_6 := rf_smt (rf_smr f) hU_4.2
    have hq_8 : f_3 12 = f 12 := (rf_u17 hf_7 (rf_ge (rf_nb0 (a := 568) (b := 5) (A := 568) (B := 5) (N := 29) (by decide) (by decide) hL_2 (by decide) (by decide) (by decide) (by decide)).1) (by omega)).trans rfl
    refine lv_aload_n hx hb dX11_records_75 rfl (lv_at hl 1 rfl) ?_
    refine va_get (v := .ref mw) (D := D) (ci := 11) (C := RX11) (T := TX11) (N := 19) hx hb hts in_X11 hown hK hP 0 rfl rfl 0 (by decide) (hts _ kl_RX11_9) (fun _ h9 => h9) rfl dX11_records_76 ?_
    refine lv_iload_n hx hb dX11_records_79 rfl (lv_at hl 0 rfl) ?_
    refine lv_iconst (v := 1) hx hb dX11_records_80 (by decide) ?_
    refine lv_iadd hx hb dX11_records_81 ?_
    refine lv_aload_n hx hb dX11_records_82 rfl (lv_at hl 1 rfl) ?_
    refine lv_iload_n hx hb dX11_records_83 rfl (lv_at hl 2 rfl) ?_
    refine lv_iconst (v := 4) hx hb dX11_records_84 (by decide) ?_
    have hP : va_P D vwCl ([(rf_RW ct 0 mw 958 f_3), (rf_MO mo mw ma mf m0 m1 mu mv u0 u1 iz th mb mn mpt mbg mwr mwk mlf men)] ++ ws) H := ty_permP hP (ty_ordp (E := [(rf_MO mo mw ma mf m0 m1 mu mv u0 u1 iz th mb mn mpt mbg mwr mwk mlf men), (rf_RW ct 0 mw 958 f_3)]) (E2 := [(rf_RW ct 0 mw 958 f_3), (rf_MO mo mw ma mf m0 m1 mu mv u0 u1 iz th mb mn mpt mbg mwr mwk mlf men)]) (n := 2) [1, 0] rfl rfl (by decide))
    have hD : va_D A ([(rf_RW ct 0 mw 958 f_3), (rf_MO mo mw ma mf m0 m1 mu mv u0 u1 iz th mb mn mpt mbg mwr mwk mlf men)] ++ ws) := ty_permD hD (ty_ordp (E := [(rf_MO mo mw ma mf m0 m1 mu mv u0 u1 iz th mb mn mpt mbg mwr mwk mlf men), (rf_RW ct 0 mw 958 f_3)]) (E2 := [(rf_RW ct 0 mw 958 f_3), (rf_MO mo mw ma mf m0 m1 mu mv u0 u1 iz th mb mn mpt mbg mwr mwk mlf men)]) (n := 2) [1, 0] rfl rfl (by decide))
    refine ty_kl (wr := [(rf_RW ct 0 mw 958 f_3)]) (wc := ([(rf_MO mo mw ma mf m0 m1 mu mv u0 u1 iz th mb mn mpt mbg mwr mwk mlf men)] ++ ws)) (va_runV (As := [.int p1, .int 4]) (rest := [.int ((568 + (5 * (f 12))) + 1), .ref mw]) ⟨hx, hb, hml, hown, hts⟩ (m_X11_sum l D ct S ws ph xx mo mw ma mf m0 m1 mu mv u0 u1 iz mb th mn mpt mbg mwr mwk mlf men p1 (4 : Int32) _ hT h_mu h_mv h_u0 h_u1 hph hy1 (rf_c6 hR_5 hc) (by decide)) (cm_V 2 hts kc_X11_sum ki_RX11 kl_RX11_261 kv_X11_sum kx_X11_sum kd_X11_sum ⟨Nat.le_of_ble_eq_true rfl, Nat.le_of_ble_eq_true rfl⟩) (ty_preE (wr := [(rf_RW ct 0 mw 958 f_3)]) (wc := ([(rf_MO mo mw ma mf m0 m1 mu mv u0 u1 iz th mb mn mpt mbg mwr mwk mlf men)] ++ ws)) (ci := 11) (q0 := 1) hP hK hD hS hA hX rfl rfl) rfl rfl hl.1 rfl (lv_room (Nat.le_of_ble_eq_true rfl)) dX11_records_85 ⟨Nat.le_of_ble_eq_true rfl, Nat.le_of_ble_eq_true rfl⟩) hP hD hS hA (fun r_9 u H locs hw_10 hP hD hS => ?_)
    obtain ⟨ws_11, rfl⟩ : ∃ z, z = u := ⟨_, rfl⟩
    have hT := hw_10
    have hP : va_P D vwCl ([(rf_RW ct 0 mw 958 f_3), (rf_MO mo mw ma mf m0 m1 mu mv u0 u1 iz th mb mn mpt mbg mwr mwk mlf men)] ++ ws_11) H := hP
    have hD : va_D A ([(rf_RW ct 0 mw 958 f_3), (rf_MO mo mw ma mf m0 m1 mu mv u0 u1 iz th mb mn mpt mbg mwr mwk mlf men)] ++ ws_11) := hD
    refine lv_l2i hx hb dX11_records_88 rfl ?_
    refine lv_topi (fun x_12 _ => ?_)
    refine va_iast hx hb hK hP hD hS 0 0 rfl rfl (rf_in1 (by have := (rf_nb (a := 568) (b := 5) (A := 568) (B := 5) (N := 29) (k := 1) (K := 1) (by decide) (by decide) (by decide) hL_2 (by decide) (by decide) (by decide) (by decide) (by decide)); omega)) dX11_records_89 (fun H locs hP hD hS => ?_)
    have hP : va_P D vwCl ([(rf_RW ct 0 mw 958 (upd f_3 ((568 + (5 * (f 12))) + 1).toNatClampNeg x_12)), (rf_MO mo mw ma mf m0 m1 mu mv u0 u1 iz th mb mn mpt mbg mwr mwk mlf men)] ++ ws_11) H := hP
    have hD : va_D A ([(rf_RW ct 0 mw 958 (upd f_3 ((568 + (5 * (f 12))) + 1).toNatClampNeg x_12)), (rf_MO mo mw ma mf m0 m1 mu mv u0 u1 iz th mb mn mpt mbg mwr mwk mlf men)] ++ ws_11) := hD
    have hU_14 : rf_R G cx (upd f_3 ((568 + (5 * (f 12))) + 1).toNatClampNeg x_12) ∧ rf_sm f_3 (upd f_3 ((568 + (5 * (f 12))) + 1).toNatClampNeg x_12) := (rf_free _ hR_5 (Or.inr (rf_ge (rf_nb (a := 568) (b := 5) (A := 568) (B := 5) (N := 29) (k := 1) (K := 1) (by decide) (by decide) (by decide) hL_2 (by decide) (by decide) (by decide) (by decide) (by decide)).1)))
    generalize hf_17 : (upd f_3 ((568 + (5 * (f 12))) + 1).toNatClampNeg x_12) = f_13 at hP hD hU_14
    have hR_15 := hU_14.1
    have hM_16 := rf_smt hM_6 hU_14.2
    have hq_18 : f_13 12 = f 12 := (rf_u17 hf_17 (rf_ge (rf_nb (a := 568) (b := 5) (A := 568) (B := 5) (N := 29) (k := 1) (K := 1) (by decide) (by decide) (by decide) hL_2 (by decide) (by decide) (by decide) (by decide) (by decide)).1) (by omega)).trans hq_8
    refine lv_aload_n hx hb dX11_records_90 rfl (lv_at hl 1 rfl) ?_
    refine va_get (v := .ref mw) (D := D) (ci := 11) (C := RX11) (T := TX11) (N := 19) hx hb hts in_X11 hown hK hP 1 rfl rfl 0 (by decide) (hts _ kl_RX11_9) (fun _ h9 => h9) rfl dX11_records_91 ?_
    refine lv_iload_n hx hb dX11_records_94 rfl (lv_at hl 0 rfl) ?_
    refine lv_iconst (v := 2) hx hb dX11_records_95 (by decide) ?_
    refine lv_iadd hx hb dX11_records_96 ?_
    refine lv_aload_n hx hb dX11_records_97 rfl (lv_at hl 1 rfl) ?_
    refine lv_iload_n hx hb dX11_records_98 rfl (lv_at hl 2 rfl) ?_
    refine lv_iconst (v := 5) hx hb dX11_records_99 (by decide) ?_
    refine ty_kl (wr := [(rf_RW ct 0 mw 958 f_13)]) (wc := ([(rf_MO mo mw ma mf m0 m1 mu mv u0 u1 iz th mb mn mpt mbg mwr mwk mlf men)] ++ ws_11)) (va_runV (As := [.int p1, .int 5]) (rest := [.int ((568 + (5 * (f 12))) + 2), .ref mw]) ⟨hx, hb, hml, hown, hts⟩ (m_X11_sum l D ct S ws_11 ph xx mo mw ma mf m0 m1 mu mv u0 u1 iz mb th mn mpt mbg mwr mwk mlf men p1 (5 : Int32) _ hT h_mu h_mv h_u0 h_u1 hph hy1 (rf_c6 hR_15 hc) (by decide)) (cm_V 2 hts kc_X11_sum ki_RX11 kl_RX11_261 kv_X11_sum kx_X11_sum kd_X11_sum ⟨Nat.le_of_ble_eq_true rfl, Nat.le_of_ble_eq_true rfl⟩) (ty_preE (wr := [(rf_RW ct 0 mw 958 f_13)]) (wc := ([(rf_MO mo mw ma mf m0 m1 mu mv u0 u1 iz th mb mn mpt mbg mwr mwk mlf men)] ++ ws_11)) (ci := 11) (q0 := 1) hP hK hD hS hA hX rfl rfl) rfl rfl hl.1 rfl (lv_room (Nat.le_of_ble_eq_true rfl)) dX11_records_100 ⟨Nat.le_of_ble_eq_true rfl, Nat.le_of_ble_eq_true rfl⟩) hP hD hS hA (fun r_19 u H locs hw_20 hP hD hS => ?_)
    obtain ⟨ws_21, rfl⟩ : ∃ z, z = u := ⟨_, rfl⟩
    have hT := hw_20
    have hP : va_P D vwCl ([(rf_RW ct 0 mw 958 f_13), (rf_MO mo mw ma mf m0 m1 mu mv u0 u1 iz th mb mn mpt mbg mwr mwk mlf men)] ++ ws_21) H := hP
    have hD : va_D A ([(rf_RW ct 0 mw 958 f_13), (rf_MO mo mw ma mf m0 m1 mu mv u0 u1 iz th mb mn mpt mbg mwr mwk mlf men)] ++ ws_21) := hD
    refine lv_l2i hx hb dX11_records_103 rfl ?_
    refine lv_topi (fun x_22 _ => ?_)
    refine va_iast hx hb hK hP hD hS 0 0 rfl rfl (rf_in1 (by have := (rf_nb (a := 568) (b := 5) (A := 568) (B := 5) (N := 29) (k := 2) (K := 2) (by decide) (by decide) (by decide) hL_2 (by decide) (by decide) (by decide) (by decide) (by decide)); omega)) dX11_records_104 (fun H locs hP hD hS => ?_)
    have hP : va_P D vwCl ([(rf_RW ct 0 mw 958 (upd f_13 ((568 + (5 * (f 12))) + 2).toNatClampNeg x_22)), (rf_MO mo mw ma mf m0 m1 mu mv u0 u1 iz th mb mn mpt mbg mwr mwk mlf men)] ++ ws_21) H := hP
    have hD : va_D A ([(rf_RW ct 0 mw 958 (upd f_13 ((568 + (5 * (f 12))) + 2).toNatClampNeg x_22)), (rf_MO mo mw ma mf m0 m1 mu mv u0 u1 iz th mb mn mpt mbg mwr mwk mlf men)] ++ ws_21) := hD
    have hU_24 : rf_R G cx (upd f_13 ((568 + (5 * (f 12))) + 2).toNatClampNeg x_22) ∧ rf_sm f_13 (upd f_13 ((568 + (5 * (f 12))) + 2).toNatClampNeg x_22) := (rf_free _ hR_15 (Or.inr (rf_ge (rf_nb (a := 568) (b := 5) (A := 568) (B := 5) (N := 29) (k := 2) (K := 2) (by decide) (by decide) (by decide) hL_2 (by decide) (by decide) (by decide) (by decide) (by decide)).1)))
    generalize hf_27 : (upd f_13 ((568 + (5 * (f 12))) + 2).toNatClampNeg x_22) = f_23 at hP hD hU_24
    have hR_25 := hU_24.1
    have hM_26 := rf_smt hM_16 hU_24.2
    have hq_28 : f_23 12 = f 12 := (rf_u17 hf_27 (rf_ge (rf_nb (a := 568) (b := 5) (A := 568) (B := 5) (N := 29) (k := 2) (K := 2) (by decide) (by decide) (by decide) hL_2 (by decide) (by decide) (by decide) (by decide) (by decide)).1) (by omega)).trans hq_18
    refine lv_aload_n hx hb dX11_records_105 rfl (lv_at hl 1 rfl) ?_
    refine va_get (v := .ref mw) (D := D) (ci := 11) (C := RX11) (T := TX11) (N := 19) hx hb hts in_X11 hown hK hP 1 rfl rfl 0 (by decide) (hts _ kl_RX11_9) (fun _ h9 => h9) rfl dX11_records_106 ?_
    refine lv_iload_n hx hb dX11_records_109 rfl (lv_at hl 0 rfl) ?_
    refine lv_iconst (v := 3) hx hb dX11_records_110 (by decide) ?_
    refine lv_iadd hx hb dX11_records_111 ?_
    refine lv_aload_n hx hb dX11_records_112 rfl (lv_at hl 1 rfl) ?_
    refine va_get (v := .ref mw) (D := D) (ci := 11) (C := RX11) (T := TX11) (N := 19) hx hb hts in_X11 hown hK hP 1 rfl rfl 0 (by decide) (hts _ kl_RX11_9) (fun _ h9 => h9) rfl dX11_records_113 ?_
    refine lv_bipush (v := 8) hx hb dX11_records_116 (by decide) ?_
    refine va_iald hx hb hK hP 0 0 rfl rfl (cm_vin (by decide)) dX11_records_118 ?_
    refine cm_cst (y := (f_23 8)) (by first | rfl | decide +kernel) ?_
    refine va_iast hx hb hK hP hD hS 0 0 rfl rfl (rf_in1 (by have := (rf_nb (a := 568) (b := 5) (A := 568) (B := 5) (N := 29) (k := 3) (K := 3) (by decide) (by decide) (by decide) hL_2 (by decide) (by decide) (by decide) (by decide) (by decide)); omega)) dX11_records_119 (fun H locs hP hD hS => ?_)
    have hP : va_P D vwCl ([(rf_RW ct 0 mw 958 (upd f_23 ((568 + (5 * (f 12))) + 3).toNatClampNeg (f_23 8))), (rf_MO mo mw ma mf m0 m1 mu mv u0 u1 iz th mb mn mpt mbg mwr mwk mlf men)] ++ ws_21) H := hP
    have hD : va_D A ([(rf_RW ct 0 mw 958 (upd f_23 ((568 + (5 * (f 12))) + 3).toNatClampNeg (f_23 8))), (rf_MO mo mw ma mf m0 m1 mu mv u0 u1 iz th mb mn mpt mbg mwr mwk mlf men)] ++ ws_21) := hD
    have hU_30 : rf_R G cx (upd f_23 ((568 + (5 * (f 12))) + 3).toNatClampNeg (f_23 8)) ∧ rf_sm f_23 (upd f_23 ((568 + (5 * (f 12))) + 3).toNatClampNeg (f_23 8)) := (rf_free _ hR_25 (Or.inr (rf_ge (rf_nb (a := 568) (b := 5) (A := 568) (B := 5) (N := 29) (k := 3) (K := 3) (by decide) (by decide) (by decide) hL_2 (by decide) (by decide) (by decide) (by decide) (by decide)).1)))
    generalize hf_33 : (upd f_23 ((568 + (5 * (f 12))) + 3).toNatClampNeg (f_23 8)) = f_29 at hP hD hU_30
    have hR_31 := hU_30.1
    have hM_32 := rf_smt hM_26 hU_30.2
    have hq_34 : f_29 12 = f 12 := (rf_u17 hf_33 (rf_ge (rf_nb (a := 568) (b := 5) (A := 568) (B := 5) (N := 29) (k := 3) (K := 3) (by decide) (by decide) (by decide) hL_2 (by decide) (by decide) (by decide) (by decide) (by decide)).1) (by omega)).trans hq_28
    refine lv_aload_n hx hb dX11_records_120 rfl (lv_at hl 1 rfl) ?_
    refine va_get (v := .ref mw) (D := D) (ci := 11) (C := RX11) (T := TX11) (N := 19) hx hb hts in_X11 hown hK hP 1 rfl rfl 0 (by decide) (hts _ kl_RX11_9) (fun _ h9 => h9) rfl dX11_records_121 ?_
    refine lv_iload_n hx hb dX11_records_124 rfl (lv_at hl 0 rfl) ?_
    refine lv_iconst (v := 4) hx hb dX11_records_125 (by decide) ?_
    refine lv_iadd hx hb dX11_records_126 ?_
    refine lv_iload_n hx hb dX11_records_127 rfl (lv_at hl 3 rfl) ?_
    refine lv_if_eq (tgt := 135) hx hb dX11_records_128 (by decide) (fun hc_35 => ?_) (fun hc_35 => ?_)
    · refine lv_iconst (v := 0) hx hb dX11_records_135 (by decide) ?_
      refine va_iast hx hb hK hP hD hS 0 0 rfl rfl (rf_in1 (by have := (rf_nb (a := 568) (b := 5) (A := 568) (B := 5) (N := 29) (k := 4) (K := 4) (by decide) (by decide) (by decide) hL_2 (by decide) (by decide) (by decide) (by decide) (by decide)); omega)) dX11_records_136 (fun H locs hP hD hS => ?_)
      have hP : va_P D vwCl ([(rf_RW ct 0 mw 958 (upd f_29 ((568 + (5 * (f 12))) + 4).toNatClampNeg 0)), (rf_MO mo mw ma mf m0 m1 mu mv u0 u1 iz th mb mn mpt mbg mwr mwk mlf men)] ++ ws_21) H := hP
      have hD : va_D A ([(rf_RW ct 0 mw 958 (upd f_29 ((568 + (5 * (f 12))) + 4).toNatClampNeg 0)), (rf_MO mo mw ma mf m0 m1 mu mv u0 u1 iz th mb mn mpt mbg mwr mwk mlf men)] ++ ws_21) := hD
      have hU_37 : rf_R G cx (upd f_29 ((568 + (5 * (f 12))) + 4).toNatClampNeg 0) ∧ rf_sm f_29 (upd f_29 ((568 + (5 * (f 12))) + 4).toNatClampNeg 0) := (rf_free _ hR_31 (Or.inr (rf_ge (rf_nb (a := 568) (b := 5) (A := 568) (B := 5) (N := 29) (k := 4) (K := 4) (by decide) (by decide) (by decide) hL_2 (by decide) (by decide) (by decide) (by decide) (by decide)).1)))
      generalize hf_40 : (upd f_29 ((568 + (5 * (f 12))) + 4).toNatClampNeg 0) = f_36 at hP hD hU_37
      have hR_38 := hU_37.1
      have hM_39 := rf_smt hM_32 hU_37.2
      have hq_41 : f_36 12 = f 12 := (rf_u17 hf_40 (rf_ge (rf_nb (a := 568) (b := 5) (A := 568) (B := 5) (N := 29) (k := 4) (K := 4) (by decide) (by decide) (by decide) hL_2 (by decide) (by decide) (by decide) (by decide) (by decide)).1) (by omega)).trans hq_34
      refine lv_aload_n hx hb dX11_records_137 rfl (lv_at hl 1 rfl) ?_
      refine va_get (v := .ref mw) (D := D) (ci := 11) (C := RX11) (T := TX11) (N := 19) hx hb hts in_X11 hown hK hP 1 rfl rfl 0 (by decide) (hts _ kl_RX11_9) (fun _ h9 => h9) rfl dX11_records_138 ?_
      refine lv_bipush (v := 12) hx hb dX11_records_141 (by decide) ?_
      refine lv_dup2_11 hx hb dX11_records_143 rfl rfl ?_
      refine va_iald hx hb hK hP 0 0 rfl rfl (cm_vin (by decide)) dX11_records_144 ?_
      refine cm_cst (y := (f_36 12)) (by first | rfl | decide +kernel) ?_
      refine lv_iconst (v := 1) hx hb dX11_records_145 (by decide) ?_
      refine lv_iadd hx hb dX11_records_146 ?_
      refine va_iast hx hb hK hP hD hS 0 0 rfl rfl (cm_vin (by decide)) dX11_records_147 (fun H locs hP hD hS => ?_)
      have hP : va_P D vwCl ([(rf_RW ct 0 mw 958 (upd f_36 (12 : Int32).toNatClampNeg ((f_36 12) + 1))), (rf_MO mo mw ma mf m0 m1 mu mv u0 u1 iz th mb mn mpt mbg mwr mwk mlf men)] ++ ws_21) H := hP
      have hD : va_D A ([(rf_RW ct 0 mw 958 (upd f_36 (12 : Int32).toNatClampNeg ((f_36 12) + 1))), (rf_MO mo mw ma mf m0 m1 mu mv u0 u1 iz th mb mn mpt mbg mwr mwk mlf men)] ++ ws_21) := hD
      have hU_43 : rf_R G cx (upd f_36 (12 : Int32).toNatClampNeg ((f_36 12) + 1)) ∧ rf_sm f_36 (upd f_36 (12 : Int32).toNatClampNeg ((f_36 12) + 1)) := (rf_num12 hR_38 (by rw [hq_41]; have := rf_inc9 hL_2 (by omega) (by omega); omega))
      generalize hf_46 : (upd f_36 (12 : Int32).toNatClampNeg ((f_36 12) + 1)) = f_42 at hP hD hU_43
      have hR_44 := hU_43.1
      have hM_45 := rf_smt hM_39 hU_43.2
      have hP : va_P D vwCl ([(rf_MO mo mw ma mf m0 m1 mu mv u0 u1 iz th mb mn mpt mbg mwr mwk mlf men), (rf_RW ct 0 mw 958 f_42)] ++ ws_21) H := ty_permP hP (ty_ordp (E := [(rf_RW ct 0 mw 958 f_42), (rf_MO mo mw ma mf m0 m1 mu mv u0 u1 iz th mb mn mpt mbg mwr mwk mlf men)]) (E2 := [(rf_MO mo mw ma mf m0 m1 mu mv u0 u1 iz th mb mn mpt mbg mwr mwk mlf men), (rf_RW ct 0 mw 958 f_42)]) (n := 2) [1, 0] rfl rfl (by decide))
      have hD : va_D A ([(rf_MO mo mw ma mf m0 m1 mu mv u0 u1 iz th mb mn mpt mbg mwr mwk mlf men), (rf_RW ct 0 mw 958 f_42)] ++ ws_21) := ty_permD hD (ty_ordp (E := [(rf_RW ct 0 mw 958 f_42), (rf_MO mo mw ma mf m0 m1 mu mv u0 u1 iz th mb mn mpt mbg mwr mwk mlf men)]) (E2 := [(rf_MO mo mw ma mf m0 m1 mu mv u0 u1 iz th mb mn mpt mbg mwr mwk mlf men), (rf_RW ct 0 mw 958 f_42)]) (n := 2) [1, 0] rfl rfl (by decide))
      exact W.vret hx hb hr (fun t ht hW => ⟨⟨(ws_21, f_42), rfl, ⟨hT, ⟨hR_44, hM_45⟩⟩, by rw [ht]; exact hP, by rw [hAe]; exact hD⟩, hS.F ht⟩) hS.2.2 dX11_records_148
    · refine lv_iconst (v := 1) hx hb dX11_records_131 (by decide) ?_
      refine lv_goto (tgt := 136) hx hb dX11_records_132 (by decide) ?_
      refine va_iast hx hb hK hP hD hS 0 0 rfl rfl (rf_in1 (by have := (rf_nb (a := 568) (b := 5) (A := 568) (B := 5) (N := 29) (k := 4) (K := 4) (by decide) (by decide) (by decide) hL_2 (by decide) (by decide) (by decide) (by decide) (by decide)); omega)) dX11_records_136 (fun H locs hP hD hS => ?_)
      have hP : va_P D vwCl ([(rf_RW ct 0 mw 958 (upd f_29 ((568 + (5 * (f 12))) + 4).toNatClampNeg 1)), (rf_MO mo mw ma mf m0 m1 mu mv u0 u1 iz th mb mn mpt mbg mwr mwk mlf men)] ++ ws_21) H := hP
      have hD : va_D A ([(rf_RW ct 0 mw 958 (upd f_29 ((568 + (5 * (f 12))) + 4).toNatClampNeg 1)), (rf_MO mo mw ma mf m0 m1 mu mv u0 u1 iz th mb mn mpt mbg mwr mwk mlf men)] ++ ws_21) := hD
      have hU_48 : rf_R G cx (upd f_29 ((568 + (5 * (f 12))) + 4).toNatClampNeg 1) ∧ rf_sm f_29 (upd f_29 ((568 + (5 * (f 12))) + 4).toNatClampNeg 1) := (rf_free _ hR_31 (Or.inr (rf_ge (rf_nb (a := 568) (b := 5) (A := 568) (B := 5) (N := 29) (k := 4) (K := 4) (by decide) (by decide) (by decide) hL_2 (by decide) (by decide) (by decide) (by decide) (by decide)).1)))
      generalize hf_51 : (upd f_29 ((568 + (5 * (f 12))) + 4).toNatClampNeg 1) = f_47 at hP hD hU_48
      have hR_49 := hU_48.1
      have hM_50 := rf_smt hM_32 hU_48.2
      have hq_52 : f_47 12 = f 12 := (rf_u17 hf_51 (rf_ge (rf_nb (a := 568) (b := 5) (A := 568) (B := 5) (N := 29) (k := 4) (K := 4) (by decide) (by decide) (by decide) hL_2 (by decide) (by decide) (by decide) (by decide) (by decide)).1) (by omega)).trans hq_34
      refine lv_aload_n hx hb dX11_records_137 rfl (lv_at hl 1 rfl) ?_
      refine va_get (v := .ref mw) (D := D) (ci := 11) (C := RX11) (T := TX11) (N := 19) hx hb hts in_X11 hown hK hP 1 rfl rfl 0 (by decide) (hts _ kl_RX11_9) (fun _ h9 => h9) rfl dX11_records_138 ?_
      refine lv_bipush (v := 12) hx hb dX11_records_141 (by decide) ?_
      refine lv_dup2_11 hx hb dX11_records_143 rfl rfl ?_
      refine va_iald hx hb hK hP 0 0 rfl rfl (cm_vin (by decide)) dX11_records_144 ?_
      refine cm_cst (y := (f_47 12)) (by first | rfl | decide +kernel) ?_
      refine lv_iconst (v := 1) hx hb dX11_records_145 (by decide) ?_
      refine lv_iadd hx hb dX11_records_146 ?_
      refine va_iast hx hb hK hP hD hS 0 0 rfl rfl (cm_vin (by decide)) dX11_records_147 (fun H locs hP hD hS => ?_)
      have hP : va_P D vwCl ([(rf_RW ct 0 mw 958 (upd f_47 (12 : Int32).toNatClampNeg ((f_47 12) + 1))), (rf_MO mo mw ma mf m0 m1 mu mv u0 u1 iz th mb mn mpt mbg mwr mwk mlf men)] ++ ws_21) H := hP
      have hD : va_D A ([(rf_RW ct 0 mw 958 (upd f_47 (12 : Int32).toNatClampNeg ((f_47 12) + 1))), (rf_MO mo mw ma mf m0 m1 mu mv u0 u1 iz th mb mn mpt mbg mwr mwk mlf men)] ++ ws_21) := hD
      have hU_54 : rf_R G cx (upd f_47 (12 : Int32).toNatClampNeg ((f_47 12) + 1)) ∧ rf_sm f_47 (upd f_47 (12 : Int32).toNatClampNeg ((f_47 12) + 1)) := (rf_num12 hR_49 (by rw [hq_52]; have := rf_inc9 hL_2 (by omega) (by omega); omega))
      generalize hf_57 : (upd f_47 (12 : Int32).toNatClampNeg ((f_47 12) + 1)) = f_53 at hP hD hU_54
      have hR_55 := hU_54.1
      have hM_56 := rf_smt hM_50 hU_54.2
      have hP : va_P D vwCl ([(rf_MO mo mw ma mf m0 m1 mu mv u0 u1 iz th mb mn mpt mbg mwr mwk mlf men), (rf_RW ct 0 mw 958 f_53)] ++ ws_21) H := ty_permP hP (ty_ordp (E := [(rf_RW ct 0 mw 958 f_53), (rf_MO mo mw ma mf m0 m1 mu mv u0 u1 iz th mb mn mpt mbg mwr mwk mlf men)]) (E2 := [(rf_MO mo mw ma mf m0 m1 mu mv u0 u1 iz th mb mn mpt mbg mwr mwk mlf men), (rf_RW ct 0 mw 958 f_53)]) (n := 2) [1, 0] rfl rfl (by decide))
      have hD : va_D A ([(rf_MO mo mw ma mf m0 m1 mu mv u0 u1 iz th mb mn mpt mbg mwr mwk mlf men), (rf_RW ct 0 mw 958 f_53)] ++ ws_21) := ty_permD hD (ty_ordp (E := [(rf_RW ct 0 mw 958 f_53), (rf_MO mo mw ma mf m0 m1 mu mv u0 u1 iz th mb mn mpt mbg mwr mwk mlf men)]) (E2 := [(rf_MO mo mw ma mf m0 m1 mu mv u0 u1 iz th mb mn mpt mbg mwr mwk mlf men), (rf_RW ct 0 mw 958 f_53)]) (n := 2) [1, 0] rfl rfl (by decide))
      exact W.vret hx hb hr (fun t ht hW => ⟨⟨(ws_21, f_53), rfl, ⟨hT, ⟨hR_55, hM_56⟩⟩, by rw [ht]; exact hP, by rw [hAe]; exact hD⟩, hS.F ht⟩) hS.2.2 dX11_records_148
  · refine lv_sipush (v := 568) hx hb dX11_records_12 (by decide) ?_
    refine lv_istore_n (lv' := [(3, .int 568), (0, .ref mo), (1, .int p1), (2, .int p2)]) hx hb dX11_records_15 rfl hl (by decide) rfl (fun ls hl => ?_)
    refine ty_loop (I := fun μ H locs ls => ∃ (ws : va_W) (y_58 : Int32) (f_59 : Nat → Int32), μ = (2147483648 - y_58.toInt).toNat ∧ ty_V ct S ph ws ∧ va_P D vwCl ([(rf_MO mo mw ma mf m0 m1 mu mv u0 u1 iz th mb mn mpt mbg mwr mwk mlf men), (rf_RW ct 0 mw 958 f_59)] ++ ws) H ∧ va_D A ([(rf_MO mo mw ma mf m0 m1 mu mv u0 u1 iz th mb mn mpt mbg mwr mwk mlf men), (rf_RW ct 0 mw 958 f_59)] ++ ws) ∧ va_S A s.heap H locs ∧ lv_has ls 4 [(0, .ref mo), (1, .int p1), (2, .int p2), (3, .int y_58)] ∧ rf_R G cx f_59 ∧ rf_sm f f_59 ∧ (568 ≤ y_58.toInt ∧ y_58.toInt ≤ 713) ∧ f_59 12 = 30) ⟨_, ws, (568 : Int32), f, rfl, hT, hP, hD, hS, (lv_sub hl [1, 2, 3, 0] rfl), hR, (rf_smr f), ⟨by decide, by decide⟩, hc_1⟩ (fun μ H locs ls hI ih_16 => ?_)
    obtain ⟨ws, y_58, f_59, rfl, hT, hP, hD, hS, hl, hR_16, hM_16, hex_16⟩ := hI
    refine lv_iload_n hx hb dX11_records_16 rfl (lv_at hl 3 rfl) ?_
    refine lv_sipush (v := 713) hx hb dX11_records_17 (by decide) ?_
    refine lv_icmp_ge (tgt := 43) hx hb dX11_records_20 (by decide) (fun hc_60 => ?_) (fun hc_60 => ?_)
    · refine lv_aload_n hx hb dX11_records_43 rfl (lv_at hl 0 rfl) ?_
      refine va_get (v := .ref mw) (D := D) (ci := 11) (C := RX11) (T := TX11) (N := 19) hx hb hts in_X11 hown hK hP 0 rfl rfl 0 (by decide) (hts _ kl_RX11_9) (fun _ h9 => h9) rfl dX11_records_44 ?_
      refine lv_bipush (v := 12) hx hb dX11_records_47 (by decide) ?_
      refine lv_dup2_11 hx hb dX11_records_49 rfl rfl ?_
      refine va_iald hx hb hK hP 1 0 rfl rfl (cm_vin (by decide)) dX11_records_50 ?_
      refine cm_cst (y := (f_59 12)) (by first | rfl | decide +kernel) ?_
      refine lv_iconst (v := 1) hx hb dX11_records_51 (by decide) ?_
      refine lv_isub hx hb dX11_records_52 ?_
      refine va_iast hx hb hK hP hD hS 1 0 rfl rfl (cm_vin (by decide)) dX11_records_53 (fun H locs hP hD hS => ?_)
      have hP : va_P D vwCl ([(rf_MO mo mw ma mf m0 m1 mu mv u0 u1 iz th mb mn mpt mbg mwr mwk mlf men), (rf_RW ct 0 mw 958 (upd f_59 (12 : Int32).toNatClampNeg ((f_59 12) - 1)))] ++ ws) H := hP
      have hD : va_D A ([(rf_MO mo mw ma mf m0 m1 mu mv u0 u1 iz th mb mn mpt mbg mwr mwk mlf men), (rf_RW ct 0 mw 958 (upd f_59 (12 : Int32).toNatClampNeg ((f_59 12) - 1)))] ++ ws) := hD
      have hU_62 : rf_R G cx (upd f_59 (12 : Int32).toNatClampNeg ((f_59 12) - 1)) ∧ rf_sm f_59 (upd f_59 (12 : Int32).toNatClampNeg ((f_59 12) - 1)) := (rf_num12 hR_16 (by rw [hex_16.2]; decide))
      generalize hf_65 : (upd f_59 (12 : Int32).toNatClampNeg ((f_59 12) - 1)) = f_61 at hP hD hU_62
      have hR_63 := hU_62.1
      have hM_64 := rf_smt hM_16 hU_62.2
      have hL_66 : 0 ≤ (f_61 12).toInt ∧ (f_61 12).toInt ≤ 29 := (by rw [rf_at12 hf_65, hex_16.2]; decide)
      refine lv_sipush (v := 568) hx hb dX11_records_54 (by decide) ?_
      refine lv_iconst (v := 5) hx hb dX11_records_57 (by decide) ?_
      refine lv_aload_n hx hb dX11_records_58 rfl (lv_at hl 0 rfl) ?_
      refine va_get (v := .ref mw) (D := D) (ci := 11) (C := RX11) (T := TX11) (N := 19) hx hb hts in_X11 hown hK hP 0 rfl rfl 0 (by decide) (hts _ kl_RX11_9) (fun _ h9 => h9) rfl dX11_records_59 ?_
      refine lv_bipush (v := 12) hx hb dX11_records_62 (by decide) ?_
      refine va_iald hx hb hK hP 1 0 rfl rfl (cm_vin (by decide)) dX11_records_64 ?_
      refine cm_cst (y := (f_61 12)) (by first | rfl | decide +kernel) ?_
      refine lv_imul hx hb dX11_records_65 ?_
      refine lv_iadd hx hb dX11_records_66 ?_
      refine lv_istore_n (lv' := [(3, .int (568 + (5 * (f_61 12)))), (0, .ref mo), (1, .int p1), (2, .int p2)]) hx hb dX11_records_67 rfl hl (by decide) rfl (fun ls hl => ?_)
      refine lv_aload_n hx hb dX11_records_68 rfl (lv_at hl 1 rfl) ?_
      refine va_get (v := .ref mw) (D := D) (ci := 11) (C := RX11) (T := TX11) (N := 19) hx hb hts in_X11 hown hK hP 0 rfl rfl 0 (by decide) (hts _ kl_RX11_9) (fun _ h9 => h9) rfl dX11_records_69 ?_
      refine lv_iload_n hx hb dX11_records_72 rfl (lv_at hl 0 rfl) ?_
      refine lv_iload_n hx hb dX11_records_73 rfl (lv_at hl 2 rfl) ?_
      refine va_iast hx hb hK hP hD hS 1 0 rfl rfl (rf_in1 (by have := (rf_nb0 (a := 568) (b := 5) (A := 568) (B := 5) (N := 29) (by decide) (by decide) hL_66 (by decide) (by decide) (by decide) (by decide)); omega)) dX11_records_74 (fun H locs hP hD hS => ?_)
      have hP : va_P D vwCl ([(rf_MO mo mw ma mf m0 m1 mu mv u0 u1 iz th mb mn mpt mbg mwr mwk mlf men), (rf_RW ct 0 mw 958 (upd f_61 (568 + (5 * (f_61 12))).toNatClampNeg p1))] ++ ws) H := hP
      have hD : va_D A ([(rf_MO mo mw ma mf m0 m1 mu mv u0 u1 iz th mb mn mpt mbg mwr mwk mlf men), (rf_RW ct 0 mw 958 (upd f_61 (568 + (5 * (f_61 12))).toNatClampNeg p1))] ++ ws) := hD
      have hU_68 : rf_R G cx (upd f_61 (568 + (5 * (f_61 12))).toNatClampNeg p1) ∧ rf_sm f_61 (upd f_61 (568 + (5 * (f_61 12))).toNatClampNeg p1) := (rf_free _ hR_63 (Or.inr (rf_ge (rf_nb0 (a := 568) (b := 5) (A := 568) (B := 5) (N := 29) (by decide) (by decide) hL_66 (by decide) (by decide) (by decide) (by decide)).1)))
      generalize hf_71 : (upd f_61 (568 + (5 * (f_61 12))).toNatClampNeg p1) = f_67 at hP hD hU_68
      have hR_69 := hU_68.1
      have hM_70 := rf_smt hM_64 hU_68.2
      have hq_72 : f_67 12 = f_61 12 := (rf_u17 hf_71 (rf_ge (rf_nb0 (a := 568) (b := 5) (A := 568) (B := 5) (N := 29) (by decide) (by decide) hL_66 (by decide) (by decide) (by decide) (by decide)).1) (by omega)).trans rfl
      refine lv_aload_n hx hb dX11_records_75 rfl (lv_at hl 1 rfl) ?_
      refine va_get (v := .ref mw) (D := D) (ci := 11) (C := RX11) (T := TX11) (N := 19) hx hb hts in_X11 hown hK hP 0 rfl rfl 0 (by decide) (hts _ kl_RX11_9) (fun _ h9 => h9) rfl dX11_records_76 ?_
      refine lv_iload_n hx hb dX11_records_79 rfl (lv_at hl 0 rfl) ?_
      refine lv_iconst (v := 1) hx hb dX11_records_80 (by decide) ?_
      refine lv_iadd hx hb dX11_records_81 ?_
      refine lv_aload_n hx hb dX11_records_82 rfl (lv_at hl 1 rfl) ?_
      refine lv_iload_n hx hb dX11_records_83 rfl (lv_at hl 2 rfl) ?_
      refine lv_iconst (v := 4) hx hb dX11_records_84 (by decide) ?_
      have hP : va_P D vwCl ([(rf_RW ct 0 mw 958 f_67), (rf_MO mo mw ma mf m0 m1 mu mv u0 u1 iz th mb mn mpt mbg mwr mwk mlf men)] ++ ws) H := ty_permP hP (ty_ordp (E := [(rf_MO mo mw ma mf m0 m1 mu mv u0 u1 iz th mb mn mpt mbg mwr mwk mlf men), (rf_RW ct 0 mw 958 f_67)]) (E2 := [(rf_RW ct 0 mw 958 f_67), (rf_MO mo mw ma mf m0 m1 mu mv u0 u1 iz th mb mn mpt mbg mwr mwk mlf men)]) (n := 2) [1, 0] rfl rfl (by decide))
      have hD : va_D A ([(rf_RW ct 0 mw 958 f_67), (rf_MO mo mw ma mf m0 m1 mu mv u0 u1 iz th mb mn mpt mbg mwr mwk mlf men)] ++ ws) := ty_permD hD (ty_ordp (E := [(rf_MO mo mw ma mf m0 m1 mu mv u0 u1 iz th mb mn mpt mbg mwr mwk mlf men), (rf_RW ct 0 mw 958 f_67)]) (E2 := [(rf_RW ct 0 mw 958 f_67), (rf_MO mo mw ma mf m0 m1 mu mv u0 u1 iz th mb mn mpt mbg mwr mwk mlf men)]) (n := 2) [1, 0] rfl rfl (by decide))
      refine ty_kl (wr := [(rf_RW ct 0 mw 958 f_67)]) (wc := ([(rf_MO mo mw ma mf m0 m1 mu mv u0 u1 iz th mb mn mpt mbg mwr mwk mlf men)] ++ ws)) (va_runV (As := [.int p1, .int 4]) (rest := [.int ((568 + (5 * (f_61 12))) + 1), .ref mw]) ⟨hx, hb, hml, hown, hts⟩ (m_X11_sum l D ct S ws ph xx mo mw ma mf m0 m1 mu mv u0 u1 iz mb th mn mpt mbg mwr mwk mlf men p1 (4 : Int32) _ hT h_mu h_mv h_u0 h_u1 hph hy1 (rf_c6 hR_69 hc) (by decide)) (cm_V 2 hts kc_X11_sum ki_RX11 kl_RX11_261 kv_X11_sum kx_X11_sum kd_X11_sum ⟨Nat.le_of_ble_eq_true rfl, Nat.le_of_ble_eq_true rfl⟩) (ty_preE (wr := [(rf_RW ct 0 mw 958 f_67)]) (wc := ([(rf_MO mo mw ma mf m0 m1 mu mv u0 u1 iz th mb mn mpt mbg mwr mwk mlf men)] ++ ws)) (ci := 11) (q0 := 1) hP hK hD hS hA hX rfl rfl) rfl rfl hl.1 rfl (lv_room (Nat.le_of_ble_eq_true rfl)) dX11_records_85 ⟨Nat.le_of_ble_eq_true rfl, Nat.le_of_ble_eq_true rfl⟩) hP hD hS hA (fun r_73 u H locs hw_74 hP hD hS => ?_)
      obtain ⟨ws_75, rfl⟩ : ∃ z, z = u := ⟨_, rfl⟩
      have hT := hw_74
      have hP : va_P D vwCl ([(rf_RW ct 0 mw 958 f_67), (rf_MO mo mw ma mf m0 m1 mu mv u0 u1 iz th mb mn mpt mbg mwr mwk mlf men)] ++ ws_75) H := hP
      have hD : va_D A ([(rf_RW ct 0 mw 958 f_67), (rf_MO mo mw ma mf m0 m1 mu mv u0 u1 iz th mb mn mpt mbg mwr mwk mlf men)] ++ ws_75) := hD
      refine lv_l2i hx hb dX11_records_88 rfl ?_
      refine lv_topi (fun x_76 _ => ?_)
      refine va_iast hx hb hK hP hD hS 0 0 rfl rfl (rf_in1 (by have := (rf_nb (a := 568) (b := 5) (A := 568) (B := 5) (N := 29) (k := 1) (K := 1) (by decide) (by decide) (by decide) hL_66 (by decide) (by decide) (by decide) (by decide) (by decide)); omega)) dX11_records_89 (fun H locs hP hD hS => ?_)
      have hP : va_P D vwCl ([(rf_RW ct 0 mw 958 (upd f_67 ((568 + (5 * (f_61 12))) + 1).toNatClampNeg x_76)), (rf_MO mo mw ma mf m0 m1 mu mv u0 u1 iz th mb mn mpt mbg mwr mwk mlf men)] ++ ws_75) H := hP
      have hD : va_D A ([(rf_RW ct 0 mw 958 (upd f_67 ((568 + (5 * (f_61 12))) + 1).toNatClampNeg x_76)), (rf_MO mo mw ma mf m0 m1 mu mv u0 u1 iz th mb mn mpt mbg mwr mwk mlf men)] ++ ws_75) := hD
      have hU_78 : rf_R G cx (upd f_67 ((568 + (5 * (f_61 12))) + 1).toNatClampNeg x_76) ∧ rf_sm f_67 (upd f_67 ((568 + (5 * (f_61 12))) + 1).toNatClampNeg x_76) := (rf_free _ hR_69 (Or.inr (rf_ge (rf_nb (a := 568) (b := 5) (A := 568) (B := 5) (N := 29) (k := 1) (K := 1) (by decide) (by decide) (by decide) hL_66 (by decide) (by decide) (by decide) (by decide) (by decide)).1)))
      generalize hf_81 : (upd f_67 ((568 + (5 * (f_61 12))) + 1).toNatClampNeg x_76) = f_77 at hP hD hU_78
      have hR_79 := hU_78.1
      have hM_80 := rf_smt hM_70 hU_78.2
      have hq_82 : f_77 12 = f_61 12 := (rf_u17 hf_81 (rf_ge (rf_nb (a := 568) (b := 5) (A := 568) (B := 5) (N := 29) (k := 1) (K := 1) (by decide) (by decide) (by decide) hL_66 (by decide) (by decide) (by decide) (by decide) (by decide)).1) (by omega)).trans hq_72
      refine lv_aload_n hx hb dX11_records_90 rfl (lv_at hl 1 rfl) ?_
      refine va_get (v := .ref mw) (D := D) (ci := 11) (C := RX11) (T := TX11) (N := 19) hx hb hts in_X11 hown hK hP 1 rfl rfl 0 (by decide) (hts _ kl_RX11_9) (fun _ h9 => h9) rfl dX11_records_91 ?_
      refine lv_iload_n hx hb dX11_records_94 rfl (lv_at hl 0 rfl) ?_
      refine lv_iconst (v := 2) hx hb dX11_records_95 (by decide) ?_
      refine lv_iadd hx hb dX11_records_96 ?_
      refine lv_aload_n hx hb dX11_records_97 rfl (lv_at hl 1 rfl) ?_
      refine lv_iload_n hx hb dX11_records_98 rfl (lv_at hl 2 rfl) ?_
      refine lv_iconst (v := 5) hx hb dX11_records_99 (by decide) ?_
      refine ty_kl (wr := [(rf_RW ct 0 mw 958 f_77)]) (wc := ([(rf_MO mo mw ma mf m0 m1 mu mv u0 u1 iz th mb mn mpt mbg mwr mwk mlf men)] ++ ws_75)) (va_runV (As := [.int p1, .int 5]) (rest := [.int ((568 + (5 * (f_61 12))) + 2), .ref mw]) ⟨hx, hb, hml, hown, hts⟩ (m_X11_sum l D ct S ws_75 ph xx mo mw ma mf m0 m1 mu mv u0 u1 iz mb th mn mpt mbg mwr mwk mlf men p1 (5 : Int32) _ hT h_mu h_mv h_u0 h_u1 hph hy1 (rf_c6 hR_79 hc) (by decide)) (cm_V 2 hts kc_X11_sum ki_RX11 kl_RX11_261 kv_X11_sum kx_X11_sum kd_X11_sum ⟨Nat.le_of_ble_eq_true rfl, Nat.le_of_ble_eq_true rfl⟩) (ty_preE (wr := [(rf_RW ct 0 mw 958 f_77)]) (wc := ([(rf_MO mo mw ma mf m0 m1 mu mv u0 u1 iz th mb mn mpt mbg mwr mwk mlf men)] ++ ws_75)) (ci := 11) (q0 := 1) hP hK hD hS hA hX rfl rfl) rfl rfl hl.1 rfl (lv_room (Nat.le_of_ble_eq_true rfl)) dX11_records_100 ⟨Nat.le_of_ble_eq_true rfl, Nat.le_of_ble_eq_true rfl⟩) hP hD hS hA (fun r_83 u H locs hw_84 hP hD hS => ?_)
      obtain ⟨ws_85, rfl⟩ : ∃ z, z = u := ⟨_, rfl⟩
      have hT := hw_84
      have hP : va_P D vwCl ([(rf_RW ct 0 mw 958 f_77), (rf_MO mo mw ma mf m0 m1 mu mv u0 u1 iz th mb mn mpt mbg mwr mwk mlf men)] ++ ws_85) H := hP
      have hD : va_D A ([(rf_RW ct 0 mw 958 f_77), (rf_MO mo mw ma mf m0 m1 mu mv u0 u1 iz th mb mn mpt mbg mwr mwk mlf men)] ++ ws_85) := hD
      refine lv_l2i hx hb dX11_records_103 rfl ?_
      refine lv_topi (fun x_86 _ => ?_)
      refine va_iast hx hb hK hP hD hS 0 0 rfl rfl (rf_in1 (by have := (rf_nb (a := 568) (b := 5) (A := 568) (B := 5) (N := 29) (k := 2) (K := 2) (by decide) (by decide) (by decide) hL_66 (by decide) (by decide) (by decide) (by decide) (by decide)); omega)) dX11_records_104 (fun H locs hP hD hS => ?_)
      have hP : va_P D vwCl ([(rf_RW ct 0 mw 958 (upd f_77 ((568 + (5 * (f_61 12))) + 2).toNatClampNeg x_86)), (rf_MO mo mw ma mf m0 m1 mu mv u0 u1 iz th mb mn mpt mbg mwr mwk mlf men)] ++ ws_85) H := hP
      have hD : va_D A ([(rf_RW ct 0 mw 958 (upd f_77 ((568 + (5 * (f_61 12))) + 2).toNatClampNeg x_86)), (rf_MO mo mw ma mf m0 m1 mu mv u0 u1 iz th mb mn mpt mbg mwr mwk mlf men)] ++ ws_85) := hD
      have hU_88 : rf_R G cx (upd f_77 ((568 + (5 * (f_61 12))) + 2).toNatClampNeg x_86) ∧ rf_sm f_77 (upd f_77 ((568 + (5 * (f_61 12))) + 2).toNatClampNeg x_86) := (rf_free _ hR_79 (Or.inr (rf_ge (rf_nb (a := 568) (b := 5) (A := 568) (B := 5) (N := 29) (k := 2) (K := 2) (by decide) (by decide) (by decide) hL_66 (by decide) (by decide) (by decide) (by decide) (by decide)).1)))
      generalize hf_91 : (upd f_77 ((568 + (5 * (f_61 12))) + 2).toNatClampNeg x_86) = f_87 at hP hD hU_88
      have hR_89 := hU_88.1
      have hM_90 := rf_smt hM_80 hU_88.2
      have hq_92 : f_87 12 = f_61 12 := (rf_u17 hf_91 (rf_ge (rf_nb (a := 568) (b := 5) (A := 568) (B := 5) (N := 29) (k := 2) (K := 2) (by decide) (by decide) (by decide) hL_66 (by decide) (by decide) (by decide) (by decide) (by decide)).1) (by omega)).trans hq_82
      refine lv_aload_n hx hb dX11_records_105 rfl (lv_at hl 1 rfl) ?_
      refine va_get (v := .ref mw) (D := D) (ci := 11) (C := RX11) (T := TX11) (N := 19) hx hb hts in_X11 hown hK hP 1 rfl rfl 0 (by decide) (hts _ kl_RX11_9) (fun _ h9 => h9) rfl dX11_records_106 ?_
      refine lv_iload_n hx hb dX11_records_109 rfl (lv_at hl 0 rfl) ?_
      refine lv_iconst (v := 3) hx hb dX11_records_110 (by decide) ?_
      refine lv_iadd hx hb dX11_records_111 ?_
      refine lv_aload_n hx hb dX11_records_112 rfl (lv_at hl 1 rfl) ?_
      refine va_get (v := .ref mw) (D := D) (ci := 11) (C := RX11) (T := TX11) (N := 19) hx hb hts in_X11 hown hK hP 1 rfl rfl 0 (by decide) (hts _ kl_RX11_9) (fun _ h9 => h9) rfl dX11_records_113 ?_
      refine lv_bipush (v := 8) hx hb dX11_records_116 (by decide) ?_
      refine va_iald hx hb hK hP 0 0 rfl rfl (cm_vin (by decide)) dX11_records_118 ?_
      refine cm_cst (y := (f_87 8)) (by first | rfl | decide +kernel) ?_
      refine va_iast hx hb hK hP hD hS 0 0 rfl rfl (rf_in1 (by have := (rf_nb (a := 568) (b := 5) (A := 568) (B := 5) (N := 29) (k := 3) (K := 3) (by decide) (by decide) (by decide) hL_66 (by decide) (by decide) (by decide) (by decide) (by decide)); omega)) dX11_records_119 (fun H locs hP hD hS => ?_)
      have hP : va_P D vwCl ([(rf_RW ct 0 mw 958 (upd f_87 ((568 + (5 * (f_61 12))) + 3).toNatClampNeg (f_87 8))), (rf_MO mo mw ma mf m0 m1 mu mv u0 u1 iz th mb mn mpt mbg mwr mwk mlf men)] ++ ws_85) H := hP
      have hD : va_D A ([(rf_RW ct 0 mw 958 (upd f_87 ((568 + (5 * (f_61 12))) + 3).toNatClampNeg (f_87 8))), (rf_MO mo mw ma mf m0 m1 mu mv u0 u1 iz th mb mn mpt mbg mwr mwk mlf men)] ++ ws_85) := hD
      have hU_94 : rf_R G cx (upd f_87 ((568 + (5 * (f_61 12))) + 3).toNatClampNeg (f_87 8)) ∧ rf_sm f_87 (upd f_87 ((568 + (5 * (f_61 12))) + 3).toNatClampNeg (f_87 8)) := (rf_free _ hR_89 (Or.inr (rf_ge (rf_nb (a := 568) (b := 5) (A := 568) (B := 5) (N := 29) (k := 3) (K := 3) (by decide) (by decide) (by decide) hL_66 (by decide) (by decide) (by decide) (by decide) (by decide)).1)))
      generalize hf_97 : (upd f_87 ((568 + (5 * (f_61 12))) + 3).toNatClampNeg (f_87 8)) = f_93 at hP hD hU_94
      have hR_95 := hU_94.1
      have hM_96 := rf_smt hM_90 hU_94.2
      have hq_98 : f_93 12 = f_61 12 := (rf_u17 hf_97 (rf_ge (rf_nb (a := 568) (b := 5) (A := 568) (B := 5) (N := 29) (k := 3) (K := 3) (by decide) (by decide) (by decide) hL_66 (by decide) (by decide) (by decide) (by decide) (by decide)).1) (by omega)).trans hq_92
      refine lv_aload_n hx hb dX11_records_120 rfl (lv_at hl 1 rfl) ?_
      refine va_get (v := .ref mw) (D := D) (ci := 11) (C := RX11) (T := TX11) (N := 19) hx hb hts in_X11 hown hK hP 1 rfl rfl 0 (by decide) (hts _ kl_RX11_9) (fun _ h9 => h9) rfl dX11_records_121 ?_
      refine lv_iload_n hx hb dX11_records_124 rfl (lv_at hl 0 rfl) ?_
      refine lv_iconst (v := 4) hx hb dX11_records_125 (by decide) ?_
      refine lv_iadd hx hb dX11_records_126 ?_
      refine lv_iload_n hx hb dX11_records_127 rfl (lv_at hl 3 rfl) ?_
      refine lv_if_eq (tgt := 135) hx hb dX11_records_128 (by decide) (fun hc_99 => ?_) (fun hc_99 => ?_)
      · refine lv_iconst (v := 0) hx hb dX11_records_135 (by decide) ?_
        refine va_iast hx hb hK hP hD hS 0 0 rfl rfl (rf_in1 (by have := (rf_nb (a := 568) (b := 5) (A := 568) (B := 5) (N := 29) (k := 4) (K := 4) (by decide) (by decide) (by decide) hL_66 (by decide) (by decide) (by decide) (by decide) (by decide)); omega)) dX11_records_136 (fun H locs hP hD hS => ?_)
        have hP : va_P D vwCl ([(rf_RW ct 0 mw 958 (upd f_93 ((568 + (5 * (f_61 12))) + 4).toNatClampNeg 0)), (rf_MO mo mw ma mf m0 m1 mu mv u0 u1 iz th mb mn mpt mbg mwr mwk mlf men)] ++ ws_85) H := hP
        have hD : va_D A ([(rf_RW ct 0 mw 958 (upd f_93 ((568 + (5 * (f_61 12))) + 4).toNatClampNeg 0)), (rf_MO mo mw ma mf m0 m1 mu mv u0 u1 iz th mb mn mpt mbg mwr mwk mlf men)] ++ ws_85) := hD
        have hU_101 : rf_R G cx (upd f_93 ((568 + (5 * (f_61 12))) + 4).toNatClampNeg 0) ∧ rf_sm f_93 (upd f_93 ((568 + (5 * (f_61 12))) + 4).toNatClampNeg 0) := (rf_free _ hR_95 (Or.inr (rf_ge (rf_nb (a := 568) (b := 5) (A := 568) (B := 5) (N := 29) (k := 4) (K := 4) (by decide) (by decide) (by decide) hL_66 (by decide) (by decide) (by decide) (by decide) (by decide)).1)))
        generalize hf_104 : (upd f_93 ((568 + (5 * (f_61 12))) + 4).toNatClampNeg 0) = f_100 at hP hD hU_101
        have hR_102 := hU_101.1
        have hM_103 := rf_smt hM_96 hU_101.2
        have hq_105 : f_100 12 = f_61 12 := (rf_u17 hf_104 (rf_ge (rf_nb (a := 568) (b := 5) (A := 568) (B := 5) (N := 29) (k := 4) (K := 4) (by decide) (by decide) (by decide) hL_66 (by decide) (by decide) (by decide) (by decide) (by decide)).1) (by omega)).trans hq_98
        refine lv_aload_n hx hb dX11_records_137 rfl (lv_at hl 1 rfl) ?_
        refine va_get (v := .ref mw) (D := D) (ci := 11) (C := RX11) (T := TX11) (N := 19) hx hb hts in_X11 hown hK hP 1 rfl rfl 0 (by decide) (hts _ kl_RX11_9) (fun _ h9 => h9) rfl dX11_records_138 ?_
        refine lv_bipush (v := 12) hx hb dX11_records_141 (by decide) ?_
        refine lv_dup2_11 hx hb dX11_records_143 rfl rfl ?_
        refine va_iald hx hb hK hP 0 0 rfl rfl (cm_vin (by decide)) dX11_records_144 ?_
        refine cm_cst (y := (f_100 12)) (by first | rfl | decide +kernel) ?_
        refine lv_iconst (v := 1) hx hb dX11_records_145 (by decide) ?_
        refine lv_iadd hx hb dX11_records_146 ?_
        refine va_iast hx hb hK hP hD hS 0 0 rfl rfl (cm_vin (by decide)) dX11_records_147 (fun H locs hP hD hS => ?_)
        have hP : va_P D vwCl ([(rf_RW ct 0 mw 958 (upd f_100 (12 : Int32).toNatClampNeg ((f_100 12) + 1))), (rf_MO mo mw ma mf m0 m1 mu mv u0 u1 iz th mb mn mpt mbg mwr mwk mlf men)] ++ ws_85) H := hP
        have hD : va_D A ([(rf_RW ct 0 mw 958 (upd f_100 (12 : Int32).toNatClampNeg ((f_100 12) + 1))), (rf_MO mo mw ma mf m0 m1 mu mv u0 u1 iz th mb mn mpt mbg mwr mwk mlf men)] ++ ws_85) := hD
        have hU_107 : rf_R G cx (upd f_100 (12 : Int32).toNatClampNeg ((f_100 12) + 1)) ∧ rf_sm f_100 (upd f_100 (12 : Int32).toNatClampNeg ((f_100 12) + 1)) := (rf_num12 hR_102 (by rw [hq_105]; have := rf_inc9 hL_66 (by omega) (by omega); omega))
        generalize hf_110 : (upd f_100 (12 : Int32).toNatClampNeg ((f_100 12) + 1)) = f_106 at hP hD hU_107
        have hR_108 := hU_107.1
        have hM_109 := rf_smt hM_103 hU_107.2
        have hP : va_P D vwCl ([(rf_MO mo mw ma mf m0 m1 mu mv u0 u1 iz th mb mn mpt mbg mwr mwk mlf men), (rf_RW ct 0 mw 958 f_106)] ++ ws_85) H := ty_permP hP (ty_ordp (E := [(rf_RW ct 0 mw 958 f_106), (rf_MO mo mw ma mf m0 m1 mu mv u0 u1 iz th mb mn mpt mbg mwr mwk mlf men)]) (E2 := [(rf_MO mo mw ma mf m0 m1 mu mv u0 u1 iz th mb mn mpt mbg mwr mwk mlf men), (rf_RW ct 0 mw 958 f_106)]) (n := 2) [1, 0] rfl rfl (by decide))
        have hD : va_D A ([(rf_MO mo mw ma mf m0 m1 mu mv u0 u1 iz th mb mn mpt mbg mwr mwk mlf men), (rf_RW ct 0 mw 958 f_106)] ++ ws_85) := ty_permD hD (ty_ordp (E := [(rf_RW ct 0 mw 958 f_106), (rf_MO mo mw ma mf m0 m1 mu mv u0 u1 iz th mb mn mpt mbg mwr mwk mlf men)]) (E2 := [(rf_MO mo mw ma mf m0 m1 mu mv u0 u1 iz th mb mn mpt mbg mwr mwk mlf men), (rf_RW ct 0 mw 958 f_106)]) (n := 2) [1, 0] rfl rfl (by decide))
        exact W.vret hx hb hr (fun t ht hW => ⟨⟨(ws_85, f_106), rfl, ⟨hT, ⟨hR_108, hM_109⟩⟩, by rw [ht]; exact hP, by rw [hAe]; exact hD⟩, hS.F ht⟩) hS.2.2 dX11_records_148
      · refine lv_iconst (v := 1) hx hb dX11_records_131 (by decide) ?_
        refine lv_goto (tgt := 136) hx hb dX11_records_132 (by decide) ?_
        refine va_iast hx hb hK hP hD hS 0 0 rfl rfl (rf_in1 (by have := (rf_nb (a := 568) (b := 5) (A := 568) (B := 5) (N := 29) (k := 4) (K := 4) (by decide) (by decide) (by decide) hL_66 (by decide) (by decide) (by decide) (by decide) (by decide)); omega)) dX11_records_136 (fun H locs hP hD hS => ?_)
        have hP : va_P D vwCl ([(rf_RW ct 0 mw 958 (upd f_93 ((568 + (5 * (f_61 12))) + 4).toNatClampNeg 1)), (rf_MO mo mw ma mf m0 m1 mu mv u0 u1 iz th mb mn mpt mbg mwr mwk mlf men)] ++ ws_85) H := hP
        have hD : va_D A ([(rf_RW ct 0 mw 958 (upd f_93 ((568 + (5 * (f_61 12))) + 4).toNatClampNeg 1)), (rf_MO mo mw ma mf m0 m1 mu mv u0 u1 iz th mb mn mpt mbg mwr mwk mlf men)] ++ ws_85) := hD
        have hU_112 : rf_R G cx (upd f_93 ((568 + (5 * (f_61 12))) + 4).toNatClampNeg 1) ∧ rf_sm f_93 (upd f_93 ((568 + (5 * (f_61 12))) + 4).toNatClampNeg 1) := (rf_free _ hR_95 (Or.inr (rf_ge (rf_nb (a := 568) (b := 5) (A := 568) (B := 5) (N := 29) (k := 4) (K := 4) (by decide) (by decide) (by decide) hL_66 (by decide) (by decide) (by decide) (by decide) (by decide)).1)))
        generalize hf_115 : (upd f_93 ((568 + (5 * (f_61 12))) + 4).toNatClampNeg 1) = f_111 at hP hD hU_112
        have hR_113 := hU_112.1
        have hM_114 := rf_smt hM_96 hU_112.2
        have hq_116 : f_111 12 = f_61 12 := (rf_u17 hf_115 (rf_ge (rf_nb (a := 568) (b := 5) (A := 568) (B := 5) (N := 29) (k := 4) (K := 4) (by decide) (by decide) (by decide) hL_66 (by decide) (by decide) (by decide) (by decide) (by decide)).1) (by omega)).trans hq_98
        refine lv_aload_n hx hb dX11_records_137 rfl (lv_at hl 1 rfl) ?_
        refine va_get (v := .ref mw) (D := D) (ci := 11) (C := RX11) (T := TX11) (N := 19) hx hb hts in_X11 hown hK hP 1 rfl rfl 0 (by decide) (hts _ kl_RX11_9) (fun _ h9 => h9) rfl dX11_records_138 ?_
        refine lv_bipush (v := 12) hx hb dX11_records_141 (by decide) ?_
        refine lv_dup2_11 hx hb dX11_records_143 rfl rfl ?_
        refine va_iald hx hb hK hP 0 0 rfl rfl (cm_vin (by decide)) dX11_records_144 ?_
        refine cm_cst (y := (f_111 12)) (by first | rfl | decide +kernel) ?_
        refine lv_iconst (v := 1) hx hb dX11_records_145 (by decide) ?_
        refine lv_iadd hx hb dX11_records_146 ?_
        refine va_iast hx hb hK hP hD hS 0 0 rfl rfl (cm_vin (by decide)) dX11_records_147 (fun H locs hP hD hS => ?_)
        have hP : va_P D vwCl ([(rf_RW ct 0 mw 958 (upd f_111 (12 : Int32).toNatClampNeg ((f_111 12) + 1))), (rf_MO mo mw ma mf m0 m1 mu mv u0 u1 iz th mb mn mpt mbg mwr mwk mlf men)] ++ ws_85) H := hP
        have hD : va_D A ([(rf_RW ct 0 mw 958 (upd f_111 (12 : Int32).toNatClampNeg ((f_111 12) + 1))), (rf_MO mo mw ma mf m0 m1 mu mv u0 u1 iz th mb mn mpt mbg mwr mwk mlf men)] ++ ws_85) := hD
        have hU_118 : rf_R G cx (upd f_111 (12 : Int32).toNatClampNeg ((f_111 12) + 1)) ∧ rf_sm f_111 (upd f_111 (12 : Int32).toNatClampNeg ((f_111 12) + 1)) := (rf_num12 hR_113 (by rw [hq_116]; have := rf_inc9 hL_66 (by omega) (by omega); omega))
        generalize hf_121 : (upd f_111 (12 : Int32).toNatClampNeg ((f_111 12) + 1)) = f_117 at hP hD hU_118
        have hR_119 := hU_118.1
        have hM_120 := rf_smt hM_114 hU_118.2
        have hP : va_P D vwCl ([(rf_MO mo mw ma mf m0 m1 mu mv u0 u1 iz th mb mn mpt mbg mwr mwk mlf men), (rf_RW ct 0 mw 958 f_117)] ++ ws_85) H := ty_permP hP (ty_ordp (E := [(rf_RW ct 0 mw 958 f_117), (rf_MO mo mw ma mf m0 m1 mu mv u0 u1 iz th mb mn mpt mbg mwr mwk mlf men)]) (E2 := [(rf_MO mo mw ma mf m0 m1 mu mv u0 u1 iz th mb mn mpt mbg mwr mwk mlf men), (rf_RW ct 0 mw 958 f_117)]) (n := 2) [1, 0] rfl rfl (by decide))
        have hD : va_D A ([(rf_MO mo mw ma mf m0 m1 mu mv u0 u1 iz th mb mn mpt mbg mwr mwk mlf men), (rf_RW ct 0 mw 958 f_117)] ++ ws_85) := ty_permD hD (ty_ordp (E := [(rf_RW ct 0 mw 958 f_117), (rf_MO mo mw ma mf m0 m1 mu mv u0 u1 iz th mb mn mpt mbg mwr mwk mlf men)]) (E2 := [(rf_MO mo mw ma mf m0 m1 mu mv u0 u1 iz th mb mn mpt mbg mwr mwk mlf men), (rf_RW ct 0 mw 958 f_117)]) (n := 2) [1, 0] rfl rfl (by decide))
        exact W.vret hx hb hr (fun t ht hW => ⟨⟨(ws_85, f_117), rfl, ⟨hT, ⟨hR_119, hM_120⟩⟩, by rw [ht]; exact hP, by rw [hAe]; exact hD⟩, hS.F ht⟩) hS.2.2 dX11_records_148
    · refine lv_aload_n hx hb dX11_records_23 rfl (lv_at hl 0 rfl) ?_
      refine va_get (v := .ref mw) (D := D) (ci := 11) (C := RX11) (T := TX11) (N := 19) hx hb hts in_X11 hown hK hP 0 rfl rfl 0 (by decide) (hts _ kl_RX11_9) (fun _ h9 => h9) rfl dX11_records_24 ?_
      refine lv_iload_n hx hb dX11_records_27 rfl (lv_at hl 3 rfl) ?_
      refine lv_aload_n hx hb dX11_records_28 rfl (lv_at hl 0 rfl) ?_
      refine va_get (v := .ref mw) (D := D) (ci := 11) (C := RX11) (T := TX11) (N := 19) hx hb hts in_X11 hown hK hP 0 rfl rfl 0 (by decide) (hts _ kl_RX11_9) (fun _ h9 => h9) rfl dX11_records_29 ?_
      refine lv_iload_n hx hb dX11_records_32 rfl (lv_at hl 3 rfl) ?_
      refine lv_iconst (v := 5) hx hb dX11_records_33 (by decide) ?_
      refine lv_iadd hx hb dX11_records_34 ?_
      refine va_iald hx hb hK hP 1 0 rfl rfl (rf_in2 (K := 5) (by decide) (by have := hex_16.1; have := rf_ng (b := 713) (by decide) hc_60; omega)) dX11_records_35 ?_
      refine va_iast hx hb hK hP hD hS 1 0 rfl rfl (rf_in1 (by have := hex_16.1; omega)) dX11_records_36 (fun H locs hP hD hS => ?_)
      have hP : va_P D vwCl ([(rf_MO mo mw ma mf m0 m1 mu mv u0 u1 iz th mb mn mpt mbg mwr mwk mlf men), (rf_RW ct 0 mw 958 (upd f_59 y_58.toNatClampNeg (f_59 (y_58 + 5).toNatClampNeg)))] ++ ws) H := hP
      have hD : va_D A ([(rf_MO mo mw ma mf m0 m1 mu mv u0 u1 iz th mb mn mpt mbg mwr mwk mlf men), (rf_RW ct 0 mw 958 (upd f_59 y_58.toNatClampNeg (f_59 (y_58 + 5).toNatClampNeg)))] ++ ws) := hD
      have hU_123 : rf_R G cx (upd f_59 y_58.toNatClampNeg (f_59 (y_58 + 5).toNatClampNeg)) ∧ rf_sm f_59 (upd f_59 y_58.toNatClampNeg (f_59 (y_58 + 5).toNatClampNeg)) := (rf_free _ hR_16 (Or.inr (rf_ge (by have := hex_16.1; omega))))
      generalize hf_126 : (upd f_59 y_58.toNatClampNeg (f_59 (y_58 + 5).toNatClampNeg)) = f_122 at hP hD hU_123
      have hR_124 := hU_123.1
      have hM_125 := rf_smt hM_16 hU_123.2
      refine lv_iinc (v := (y_58 + Int32.ofInt 1)) (lv' := [(3, .int (y_58 + Int32.ofInt 1)), (0, .ref mo), (1, .int p1), (2, .int p2)]) hx hb dX11_records_37 hl (k := 3) rfl rfl (by decide) rfl (fun ls hl => ?_)
      refine lv_goto (tgt := 16) hx hb dX11_records_40 (by decide) ?_
      exact ih_16 _ _ _ _ (ty_inc (cm_lt hc_60)) ⟨ws, (y_58 + Int32.ofInt 1), f_122, rfl, hT, hP, hD, hS, (lv_sub hl [1, 2, 3, 0] rfl), hR_124, hM_125, rf_lp (by decide) hex_16.1 hc_60 (by omega) (by omega), (rf_u17 hf_126 (rf_ge (by have := hex_16; omega)) (by omega)).trans hex_16.2⟩
theorem dX11_ends_0 : decode cX11_ends 0 = .ok (.aload_n 0, 1) := by decide +kernel
theorem dX11_ends_1 : decode cX11_ends 1 = .ok (.iload_n 1, 1) := by decide +kernel
theorem dX11_ends_2 : decode cX11_ends 2 = .ok (.iconst 0, 1) := by decide +kernel
theorem dX11_ends_3 : decode cX11_ends 3 = .ok (.invokevirtual 228, 3) := by decide +kernel
theorem dX11_ends_6 : decode cX11_ends 6 = .ok (.istore_n 2, 1) := by decide +kernel
theorem dX11_ends_7 : decode cX11_ends 7 = .ok (.iload_n 2, 1) := by decide +kernel
theorem dX11_ends_8 : decode cX11_ends 8 = .ok (.iconst 1, 1) := by decide +kernel
theorem dX11_ends_9 : decode cX11_ends 9 = .ok (.if_icmp .ne 11, 3) := by decide +kernel
theorem dX11_ends_12 : decode cX11_ends 12 = .ok (.aload_n 0, 1) := by decide +kernel
theorem dX11_ends_13 : decode cX11_ends 13 = .ok (.iload_n 1, 1) := by decide +kernel
theorem dX11_ends_14 : decode cX11_ends 14 = .ok (.bipush 21, 2) := by decide +kernel
theorem dX11_ends_16 : decode cX11_ends 16 = .ok (.iconst 1, 1) := by decide +kernel
theorem dX11_ends_17 : decode cX11_ends 17 = .ok (.invokevirtual 234, 3) := by decide +kernel
theorem dX11_ends_20 : decode cX11_ends 20 = .ok (.iload_n 2, 1) := by decide +kernel
theorem dX11_ends_21 : decode cX11_ends 21 = .ok (.iconst 3, 1) := by decide +kernel
theorem dX11_ends_22 : decode cX11_ends 22 = .ok (.if_icmp .ne 16, 3) := by decide +kernel
theorem dX11_ends_25 : decode cX11_ends 25 = .ok (.aload_n 0, 1) := by decide +kernel
theorem dX11_ends_26 : decode cX11_ends 26 = .ok (.iload_n 1, 1) := by decide +kernel
theorem dX11_ends_27 : decode cX11_ends 27 = .ok (.bipush 19, 2) := by decide +kernel
theorem dX11_ends_29 : decode cX11_ends 29 = .ok (.aload_n 0, 1) := by decide +kernel
theorem dX11_ends_30 : decode cX11_ends 30 = .ok (.iload_n 1, 1) := by decide +kernel
theorem dX11_ends_31 : decode cX11_ends 31 = .ok (.iconst 5, 1) := by decide +kernel
theorem dX11_ends_32 : decode cX11_ends 32 = .ok (.invokevirtual 209, 3) := by decide +kernel
theorem dX11_ends_35 : decode cX11_ends 35 = .ok (.invokevirtual 234, 3) := by decide +kernel
theorem dX11_ends_38 : decode cX11_ends 38 = .ok (.iload_n 2, 1) := by decide +kernel
theorem dX11_ends_39 : decode cX11_ends 39 = .ok (.iconst 2, 1) := by decide +kernel
theorem dX11_ends_40 : decode cX11_ends 40 = .ok (.if_icmp .eq 4, 3) := by decide +kernel
theorem dX11_ends_43 : decode cX11_ends 43 = .ok (.return_, 1) := by decide +kernel
theorem dX11_ends_44 : decode cX11_ends 44 = .ok (.aload_n 0, 1) := by decide +kernel
theorem dX11_ends_45 : decode cX11_ends 45 = .ok (.iload_n 1, 1) := by decide +kernel
theorem dX11_ends_46 : decode cX11_ends 46 = .ok (.bipush 21, 2) := by decide +kernel
theorem dX11_ends_48 : decode cX11_ends 48 = .ok (.invokevirtual 209, 3) := by decide +kernel
theorem dX11_ends_51 : decode cX11_ends 51 = .ok (.iconst 1, 1) := by decide +kernel
theorem dX11_ends_52 : decode cX11_ends 52 = .ok (.if_icmp .ne 22, 3) := by decide +kernel
theorem dX11_ends_55 : decode cX11_ends 55 = .ok (.aload_n 0, 1) := by decide +kernel
theorem dX11_ends_56 : decode cX11_ends 56 = .ok (.iload_n 1, 1) := by decide +kernel
theorem dX11_ends_57 : decode cX11_ends 57 = .ok (.iconst 5, 1) := by decide +kernel
theorem dX11_ends_58 : decode cX11_ends 58 = .ok (.invokevirtual 209, 3) := by decide +kernel
theorem dX11_ends_61 : decode cX11_ends 61 = .ok (.aload_n 0, 1) := by decide +kernel
theorem dX11_ends_62 : decode cX11_ends 62 = .ok (.iload_n 1, 1) := by decide +kernel
theorem dX11_ends_63 : decode cX11_ends 63 = .ok (.iconst 2, 1) := by decide +kernel
theorem dX11_ends_64 : decode cX11_ends 64 = .ok (.invokevirtual 228, 3) := by decide +kernel
theorem dX11_ends_67 : decode cX11_ends 67 = .ok (.if_icmp .gt 7, 3) := by decide +kernel
theorem dX11_ends_70 : decode cX11_ends 70 = .ok (.iconst 1, 1) := by decide +kernel
theorem dX11_ends_71 : decode cX11_ends 71 = .ok (.goto 4, 3) := by decide +kernel
theorem dX11_ends_74 : decode cX11_ends 74 = .ok (.iconst 0, 1) := by decide +kernel
theorem dX11_ends_75 : decode cX11_ends 75 = .ok (.istore_n 3, 1) := by decide +kernel
theorem dX11_ends_76 : decode cX11_ends 76 = .ok (.aload_n 0, 1) := by decide +kernel
theorem dX11_ends_77 : decode cX11_ends 77 = .ok (.iload_n 1, 1) := by decide +kernel
theorem dX11_ends_78 : decode cX11_ends 78 = .ok (.iload_n 3, 1) := by decide +kernel
theorem dX11_ends_79 : decode cX11_ends 79 = .ok (.invokevirtual 268, 3) := by decide +kernel
theorem dX11_ends_82 : decode cX11_ends 82 = .ok (.iload_n 3, 1) := by decide +kernel
theorem dX11_ends_83 : decode cX11_ends 83 = .ok (.ifCond .eq 25, 3) := by decide +kernel
theorem dX11_ends_86 : decode cX11_ends 86 = .ok (.aload_n 0, 1) := by decide +kernel
theorem dX11_ends_87 : decode cX11_ends 87 = .ok (.iload_n 1, 1) := by decide +kernel
theorem dX11_ends_88 : decode cX11_ends 88 = .ok (.bipush 20, 2) := by decide +kernel
theorem dX11_ends_90 : decode cX11_ends 90 = .ok (.aload_n 0, 1) := by decide +kernel
theorem dX11_ends_91 : decode cX11_ends 91 = .ok (.iload_n 1, 1) := by decide +kernel
theorem dX11_ends_92 : decode cX11_ends 92 = .ok (.iconst 1, 1) := by decide +kernel
theorem dX11_ends_93 : decode cX11_ends 93 = .ok (.invokevirtual 261, 3) := by decide +kernel
theorem dX11_ends_96 : decode cX11_ends 96 = .ok (.aload_n 0, 1) := by decide +kernel
theorem dX11_ends_97 : decode cX11_ends 97 = .ok (.iload_n 1, 1) := by decide +kernel
theorem dX11_ends_98 : decode cX11_ends 98 = .ok (.bipush 6, 2) := by decide +kernel
theorem dX11_ends_100 : decode cX11_ends 100 = .ok (.invokevirtual 261, 3) := by decide +kernel
theorem dX11_ends_103 : decode cX11_ends 103 = .ok (.lsub, 1) := by decide +kernel
theorem dX11_ends_104 : decode cX11_ends 104 = .ok (.l2i, 1) := by decide +kernel
theorem dX11_ends_105 : decode cX11_ends 105 = .ok (.invokevirtual 234, 3) := by decide +kernel
theorem dX11_ends_108 : decode cX11_ends 108 = .ok (.aload_n 0, 1) := by decide +kernel
theorem dX11_ends_109 : decode cX11_ends 109 = .ok (.iload_n 1, 1) := by decide +kernel
theorem dX11_ends_110 : decode cX11_ends 110 = .ok (.invokevirtual 272, 3) := by decide +kernel
theorem dX11_ends_113 : decode cX11_ends 113 = .ok (.return_, 1) := by decide +kernel
set_option maxRecDepth 100000 in
set_option maxHeartbeats 4000000 in
theorem m_X11_ends (l : Launch) (D : va_G) (ct : Nat → ClassId) (S : ty_S) (ws : va_W) (ph : va_W → Prop) (xx : Nat → Nat → Nat → Prop) (mo : Nat) (mw : Nat) (ma : Nat) (mf : Nat) (m0 : Nat) (m1 : Nat) (mu : Nat) (mv : Nat) (u0 : Nat) (u1 : Nat) (iz : Nat) (mb : Nat) (th : Int32) (mn : Int32) (mpt : Int32) (mbg : Int32) (mwr : Int32) (mwk : Int32) (mlf : Int32) (men : Int32) (f : Nat → Int32) (G : Nat → Int32) (cx : Int) (p1 : Int32) (sz : Nat) (hT : ty_V ct S ph ws) (h_mu : S mu = some (.inr (1, 42))) (h_mv : S mv = some (.inr (1, 42))) (h_u0 : S u0 = some (.inr (1, 42))) (h_u1 : S u1 = some (.inr (1, 42))) (hph : ty_C ph xx) (hy1 : ty_y1 xx) (hy11 : ty_y0 xx 11) (hR : rf_R G cx f) (hc : 0 ≤ p1.toInt ∧ p1.toInt < (G 9).toInt) (ho : rf_on G f p1) : Met l yX11_ends (ws_ yX11_ends cX11_ends 4 none) ({ frames := 2, cells := 0, slots := 0, locals := 45 } : Room) (va_Pc [.ref mo, .int p1] (cmP D ct sz ([(rf_MO mo mw ma mf m0 m1 mu mv u0 u1 iz th mb mn mpt mbg mwr mwk mlf men), (rf_RW ct 0 mw 958 f)] ++ ws))) (va_Qv (fun (u : va_W × (Nat → Int32)) => match u with | (u9, f1) => ty_V ct S ph u9 ∧ rf_R G cx f1 ∧ rf_sm f f1) (cmB D ([(rf_MO mo mw ma mf m0 m1 mu mv u0 u1 iz th mb mn mpt mbg mwr mwk mlf men), (rf_RW ct 0 mw 958 f)] ++ ws) sz (fun (u : va_W × (Nat → Int32)) => match u with | (u9, f1) => ([(rf_MO mo mw ma mf m0 m1 mu mv u0 u1 iz th mb mn mpt mbg mwr mwk mlf men), (rf_RW ct 0 mw 958 f1)] ++ u9))) (va_A ([(rf_MO mo mw ma mf m0 m1 mu mv u0 u1 iz th mb mn mpt mbg mwr mwk mlf men), (rf_RW ct 0 mw 958 f)] ++ ws) sz)) 0 0 (va_A ([(rf_MO mo mw ma mf m0 m1 mu mv u0 u1 iz th mb mn mpt mbg mwr mwk mlf men), (rf_RW ct 0 mw 958 f)] ++ ws) sz) := by
  refine Met.ofW (cc := cX11_ends) (maxL := 4) (ret := none) (by decide) rfl ?_
  intro p e s m args below meth c s₁ B hml hv
  obtain ⟨rfl, hsz, hP, hK, hD0, hX⟩ := hv
  have hx := B.exec
  have hb := B.bytes
  have hr := B.returns
  have hts := ws_all (atoms_spec (ws := ws_ yX11_ends cX11_ends 4 none) B.pre)
  have hown : s.vm.findClass RX11 = some m.cls := findClass_of_methodNamed B.named
  have hlocks := B.notSynchronized
  subst hsz
  have hD := hD0.self (sz := s.heap.size)
  generalize hAe : va_A ([(rf_MO mo mw ma mf m0 m1 mu mv u0 u1 iz th mb mn mpt mbg mwr mwk mlf men), (rf_RW ct 0 mw 958 f)] ++ ws) s.heap.size = A at hD hX ⊢
  have hA : ∀ q : Nat, s.heap.size ≤ q → A q := fun q h => by rw [← hAe]; exact Or.inr h
  have hS : va_S A s.heap s.heap [] := va_S.rf
  have hl := lv_entry ([.ref mo, .int p1]) (n := 4) (Nat.le_of_ble_eq_true rfl)
  rw [lg_entry_eq]
  generalize (lg_sl ([.ref mo, .int p1]) ++ List.replicate (4 - (lg_sl ([.ref mo, .int p1])).length) Slot.unset).toArray = ls at hl ⊢
  have hl : lv_has ls 4 [(0, .ref mo), (1, .int p1)] := hl
  refine lv_aload_n hx hb dX11_ends_0 rfl (lv_at hl 0 rfl) ?_
  refine lv_iload_n hx hb dX11_ends_1 rfl (lv_at hl 1 rfl) ?_
  refine lv_iconst (v := 0) hx hb dX11_ends_2 (by decide) ?_
  refine ty_ki (wr := []) (wc := ([(rf_MO mo mw ma mf m0 m1 mu mv u0 u1 iz th mb mn mpt mbg mwr mwk mlf men), (rf_RW ct 0 mw 958 f)] ++ ws)) (va_runV (As := [.int p1, .int 0]) (rest := []) ⟨hx, hb, hml, hown, hts⟩ (m_step_0 l D ct S ws ph xx mo mw ma mf m0 m1 mu mv u0 u1 iz mb th mn mpt mbg mwr mwk mlf men f G cx p1 _ hT h_mu h_mv h_u0 h_u1 hph hy1 hR hc ho) (cm_V 2 hts kc_X11_step ki_RX11 kl_RX11_228 kv_X11_step kx_X11_step kd_X11_step ⟨Nat.le_of_ble_eq_true rfl, Nat.le_of_ble_eq_true rfl⟩) (ty_preE (wr := []) (wc := ([(rf_MO mo mw ma mf m0 m1 mu mv u0 u1 iz th mb mn mpt mbg mwr mwk mlf men), (rf_RW ct 0 mw 958 f)] ++ ws)) (ci := 11) (q0 := 0) hP hK hD hS hA hX rfl rfl) rfl rfl hl.1 rfl (lv_room (Nat.le_of_ble_eq_true rfl)) dX11_ends_3 ⟨Nat.le_of_ble_eq_true rfl, Nat.le_of_ble_eq_true rfl⟩) hP hD hS hA (fun r_1 u H locs hw_2 hP hD hS => ?_)
  obtain ⟨ws_3, rfl⟩ : ∃ z, z = u := ⟨_, rfl⟩
  obtain ⟨hT, rfl⟩ := hw_2
  have hP : va_P D vwCl ([(rf_MO mo mw ma mf m0 m1 mu mv u0 u1 iz th mb mn mpt mbg mwr mwk mlf men), (rf_RW ct 0 mw 958 f)] ++ ws_3) H := hP
  have hD : va_D A ([(rf_MO mo mw ma mf m0 m1 mu mv u0 u1 iz th mb mn mpt mbg mwr mwk mlf men), (rf_RW ct 0 mw 958 f)] ++ ws_3) := hD
  refine lv_istore_n (lv' := [(2, .int (rf_st3 f p1 0)), (0, .ref mo), (1, .int p1)]) hx hb dX11_ends_6 rfl hl (by decide) rfl (fun ls hl => ?_)
  refine lv_iload_n hx hb dX11_ends_7 rfl (lv_at hl 0 rfl) ?_
  refine lv_iconst (v := 1) hx hb dX11_ends_8 (by decide) ?_
  refine lv_icmp_ne (tgt := 20) hx hb dX11_ends_9 (by decide) (fun hc_4 => ?_) (fun hc_4 => ?_)
  · refine lv_iload_n hx hb dX11_ends_20 rfl (lv_at hl 0 rfl) ?_
    refine lv_iconst (v := 3) hx hb dX11_ends_21 (by decide) ?_
    refine lv_icmp_ne (tgt := 38) hx hb dX11_ends_22 (by decide) (fun hc_5 => ?_) (fun hc_5 => ?_)
    · refine lv_iload_n hx hb dX11_ends_38 rfl (lv_at hl 0 rfl) ?_
      refine lv_iconst (v := 2) hx hb dX11_ends_39 (by decide) ?_
      refine lv_icmp_eq (tgt := 44) hx hb dX11_ends_40 (by decide) (fun hc_6 => ?_) (fun hc_6 => ?_)
      · refine lv_aload_n hx hb dX11_ends_44 rfl (lv_at hl 1 rfl) ?_
        refine lv_iload_n hx hb dX11_ends_45 rfl (lv_at hl 2 rfl) ?_
        refine lv_bipush (v := 21) hx hb dX11_ends_46 (by decide) ?_
        refine ty_ki (wr := []) (wc := ([(rf_MO mo mw ma mf m0 m1 mu mv u0 u1 iz th mb mn mpt mbg mwr mwk mlf men), (rf_RW ct 0 mw 958 f)] ++ ws_3)) (va_runV (As := [.int p1, .int 21]) (rest := []) ⟨hx, hb, hml, hown, hts⟩ (m_of_21 l D ct S ws_3 ph xx mo mw ma mf m0 m1 mu mv u0 u1 iz mb th mn mpt mbg mwr mwk mlf men f G cx p1 _ hT h_mu h_mv h_u0 h_u1 hph hy1 hR hc) (cm_V 2 hts kc_X11_of ki_RX11 kl_RX11_209 kv_X11_of kx_X11_of kd_X11_of ⟨Nat.le_of_ble_eq_true rfl, Nat.le_of_ble_eq_true rfl⟩) (ty_preE (wr := []) (wc := ([(rf_MO mo mw ma mf m0 m1 mu mv u0 u1 iz th mb mn mpt mbg mwr mwk mlf men), (rf_RW ct 0 mw 958 f)] ++ ws_3)) (ci := 11) (q0 := 0) hP hK hD hS hA hX rfl rfl) rfl rfl hl.1 rfl (lv_room (Nat.le_of_ble_eq_true rfl)) dX11_ends_48 ⟨Nat.le_of_ble_eq_true rfl, Nat.le_of_ble_eq_true rfl⟩) hP hD hS hA (fun r_7 u H locs hw_8 hP hD hS => ?_)
        obtain ⟨ws_9, rfl⟩ : ∃ z, z = u := ⟨_, rfl⟩
        obtain ⟨hT, rfl⟩ := hw_8
        have hP : va_P D vwCl ([(rf_MO mo mw ma mf m0 m1 mu mv u0 u1 iz th mb mn mpt mbg mwr mwk mlf men), (rf_RW ct 0 mw 958 f)] ++ ws_9) H := hP
        have hD : va_D A ([(rf_MO mo mw ma mf m0 m1 mu mv u0 u1 iz th mb mn mpt mbg mwr mwk mlf men), (rf_RW ct 0 mw 958 f)] ++ ws_9) := hD
        refine lv_iconst (v := 1) hx hb dX11_ends_51 (by decide) ?_
        refine lv_icmp_ne (tgt := 74) hx hb dX11_ends_52 (by decide) (fun hc_10 => ?_) (fun hc_10 => ?_)
        · refine lv_iconst (v := 0) hx hb dX11_ends_74 (by decide) ?_
          refine lv_istore_n (lv' := [(3, .int 0), (2, .int (rf_st3 f p1 0)), (0, .ref mo), (1, .int p1)]) hx hb dX11_ends_75 rfl hl (by decide) rfl (fun ls hl => ?_)
          refine lv_aload_n hx hb dX11_ends_76 rfl (lv_at hl 2 rfl) ?_
          refine lv_iload_n hx hb dX11_ends_77 rfl (lv_at hl 3 rfl) ?_
          refine lv_iload_n hx hb dX11_ends_78 rfl (lv_at hl 0 rfl) ?_
          refine ty_kv (wr := []) (wc := ([(rf_MO mo mw ma mf m0 m1 mu mv u0 u1 iz th mb mn mpt mbg mwr mwk mlf men), (rf_RW ct 0 mw 958 f)] ++ ws_9)) (va_runV (As := [.int p1, .int 0]) (rest := []) ⟨hx, hb, hml, hown, hts⟩ (m_X11_records l D ct S ws_9 ph xx mo mw ma mf m0 m1 mu mv u0 u1 iz mb th mn mpt mbg mwr mwk mlf men f G cx p1 (0 : Int32) _ hT h_mu h_mv h_u0 h_u1 hph hy1 hR hc) (cm_V 2 hts kc_X11_records ki_RX11 kl_RX11_268 kv_X11_records kx_X11_records kd_X11_records ⟨Nat.le_of_ble_eq_true rfl, Nat.le_of_ble_eq_true rfl⟩) (ty_preE (wr := []) (wc := ([(rf_MO mo mw ma mf m0 m1 mu mv u0 u1 iz th mb mn mpt mbg mwr mwk mlf men), (rf_RW ct 0 mw 958 f)] ++ ws_9)) (ci := 11) (q0 := 0) hP hK hD hS hA hX rfl rfl) rfl rfl hl.1 rfl (lv_room (Nat.le_of_ble_eq_true rfl)) dX11_ends_79 ⟨Nat.le_of_ble_eq_true rfl, Nat.le_of_ble_eq_true rfl⟩) hP hD hS hA (fun u H locs hw_12 hP hD hS => ?_)
          obtain ⟨ws_13, f1_14⟩ := u
          obtain ⟨hT, hp_15⟩ := hw_12
          have hp_15 : rf_R G cx f1_14 ∧ rf_sm f f1_14 := hp_15
          have hR_16 := hp_15.1
          have hM_17 := rf_smt (rf_smr f) hp_15.2
          have ho_18 := rf_ons hR hc hp_15.2 ho
          have hP : va_P D vwCl ([(rf_MO mo mw ma mf m0 m1 mu mv u0 u1 iz th mb mn mpt mbg mwr mwk mlf men), (rf_RW ct 0 mw 958 f1_14)] ++ ws_13) H := hP
          have hD : va_D A ([(rf_MO mo mw ma mf m0 m1 mu mv u0 u1 iz th mb mn mpt mbg mwr mwk mlf men), (rf_RW ct 0 mw 958 f1_14)] ++ ws_13) := hD
          refine lv_iload_n hx hb dX11_ends_82 rfl (lv_at hl 0 rfl) ?_
          refine lv_if_eq (tgt := 108) hx hb dX11_ends_83 (by decide) (fun _ => ?_) (fun hc => absurd (by decide) hc)
          refine lv_aload_n hx hb dX11_ends_108 rfl (lv_at hl 2 rfl) ?_
          refine lv_iload_n hx hb dX11_ends_109 rfl (lv_at hl 3 rfl) ?_
          refine ty_kv (wr := []) (wc := ([(rf_MO mo mw ma mf m0 m1 mu mv u0 u1 iz th mb mn mpt mbg mwr mwk mlf men), (rf_RW ct 0 mw 958 f1_14)] ++ ws_13)) (va_runV (As := [.int p1]) (rest := []) ⟨hx, hb, hml, hown, hts⟩ (m_X11_clears l D ct S ws_13 ph xx mo mw ma mf m0 m1 mu mv u0 u1 iz mb th mn mpt mbg mwr mwk mlf men f1_14 G cx p1 _ hT h_mu h_mv h_u0 h_u1 hph hy1 hy11 hR_16 hc) (cm_V 1 hts kc_X11_clears ki_RX11 kl_RX11_272 kv_X11_clears kx_X11_clears kd_X11_clears ⟨Nat.le_of_ble_eq_true rfl, Nat.le_of_ble_eq_true rfl⟩) (ty_preE (wr := []) (wc := ([(rf_MO mo mw ma mf m0 m1 mu mv u0 u1 iz th mb mn mpt mbg mwr mwk mlf men), (rf_RW ct 0 mw 958 f1_14)] ++ ws_13)) (ci := 11) (q0 := 0) hP hK hD hS hA hX rfl rfl) rfl rfl hl.1 rfl (lv_room (Nat.le_of_ble_eq_true rfl)) dX11_ends_110 ⟨Nat.le_of_ble_eq_true rfl, Nat.le_of_ble_eq_true rfl⟩) hP hD hS hA (fun u H locs hw_20 hP hD hS => ?_)
          obtain ⟨ws_21, f1_22⟩ := u
          obtain ⟨hT, hp_23⟩ := hw_20
          have hp_23 : rf_R G cx f1_22 ∧ rf_sm f1_14 f1_22 := hp_23
          have hR_24 := hp_23.1
          have hM_25 := rf_smt hM_17 hp_23.2
          have ho_26 := rf_ons hR_16 hc hp_23.2 ho_18
          have hP : va_P D vwCl ([(rf_MO mo mw ma mf m0 m1 mu mv u0 u1 iz th mb mn mpt mbg mwr mwk mlf men), (rf_RW ct 0 mw 958 f1_22)] ++ ws_21) H := hP
          have hD : va_D A ([(rf_MO mo mw ma mf m0 m1 mu mv u0 u1 iz th mb mn mpt mbg mwr mwk mlf men), (rf_RW ct 0 mw 958 f1_22)] ++ ws_21) := hD
          exact W.vret hx hb hr (fun t ht hW => ⟨⟨(ws_21, f1_22), rfl, ⟨hT, ⟨hR_24, hM_25⟩⟩, by rw [ht]; exact hP, by rw [hAe]; exact hD⟩, hS.F ht⟩) hS.2.2 dX11_ends_113
        · refine lv_aload_n hx hb dX11_ends_55 rfl (lv_at hl 1 rfl) ?_
          refine lv_iload_n hx hb dX11_ends_56 rfl (lv_at hl 2 rfl) ?_
          refine lv_iconst (v := 5) hx hb dX11_ends_57 (by decide) ?_
          refine ty_ki (wr := []) (wc := ([(rf_MO mo mw ma mf m0 m1 mu mv u0 u1 iz th mb mn mpt mbg mwr mwk mlf men), (rf_RW ct 0 mw 958 f)] ++ ws_9)) (va_runV (As := [.int p1, .int 5]) (rest := []) ⟨hx, hb, hml, hown, hts⟩ (m_of_5 l D ct S ws_9 ph xx mo mw ma mf m0 m1 mu mv u0 u1 iz mb th mn mpt mbg mwr mwk mlf men f G cx p1 _ hT h_mu h_mv h_u0 h_u1 hph hy1 hR hc) (cm_V 2 hts kc_X11_of ki_RX11 kl_RX11_209 kv_X11_of kx_X11_of kd_X11_of ⟨Nat.le_of_ble_eq_true rfl, Nat.le_of_ble_eq_true rfl⟩) (ty_preE (wr := []) (wc := ([(rf_MO mo mw ma mf m0 m1 mu mv u0 u1 iz th mb mn mpt mbg mwr mwk mlf men), (rf_RW ct 0 mw 958 f)] ++ ws_9)) (ci := 11) (q0 := 0) hP hK hD hS hA hX rfl rfl) rfl rfl hl.1 rfl (lv_room (Nat.le_of_ble_eq_true rfl)) dX11_ends_58 ⟨Nat.le_of_ble_eq_true rfl, Nat.le_of_ble_eq_true rfl⟩) hP hD hS hA (fun r_27 u H locs hw_28 hP hD hS => ?_)
          obtain ⟨ws_29, rfl⟩ : ∃ z, z = u := ⟨_, rfl⟩
          obtain ⟨hT, rfl⟩ := hw_28
          have hP : va_P D vwCl ([(rf_MO mo mw ma mf m0 m1 mu mv u0 u1 iz th mb mn mpt mbg mwr mwk mlf men), (rf_RW ct 0 mw 958 f)] ++ ws_29) H := hP
          have hD : va_D A ([(rf_MO mo mw ma mf m0 m1 mu mv u0 u1 iz th mb mn mpt mbg mwr mwk mlf men), (rf_RW ct 0 mw 958 f)] ++ ws_29) := hD
          refine lv_aload_n hx hb dX11_ends_61 rfl (lv_at hl 1 rfl) ?_
          refine lv_iload_n hx hb dX11_ends_62 rfl (lv_at hl 2 rfl) ?_
          refine lv_iconst (v := 2) hx hb dX11_ends_63 (by decide) ?_
          refine ty_ki (wr := []) (wc := ([(rf_MO mo mw ma mf m0 m1 mu mv u0 u1 iz th mb mn mpt mbg mwr mwk mlf men), (rf_RW ct 0 mw 958 f)] ++ ws_29)) (va_runV (As := [.int p1, .int 2]) (rest := [.int (rf_of f p1 5)]) ⟨hx, hb, hml, hown, hts⟩ (m_step_2 l D ct S ws_29 ph xx mo mw ma mf m0 m1 mu mv u0 u1 iz mb th mn mpt mbg mwr mwk mlf men f G cx p1 _ hT h_mu h_mv h_u0 h_u1 hph hy1 hR hc ho) (cm_V 2 hts kc_X11_step ki_RX11 kl_RX11_228 kv_X11_step kx_X11_step kd_X11_step ⟨Nat.le_of_ble_eq_true rfl, Nat.le_of_ble_eq_true rfl⟩) (ty_preE (wr := []) (wc := ([(rf_MO mo mw ma mf m0 m1 mu mv u0 u1 iz th mb mn mpt mbg mwr mwk mlf men), (rf_RW ct 0 mw 958 f)] ++ ws_29)) (ci := 11) (q0 := 0) hP hK hD hS hA hX rfl rfl) rfl rfl hl.1 rfl (lv_room (Nat.le_of_ble_eq_true rfl)) dX11_ends_64 ⟨Nat.le_of_ble_eq_true rfl, Nat.le_of_ble_eq_true rfl⟩) hP hD hS hA (fun r_30 u H locs hw_31 hP hD hS => ?_)
          obtain ⟨ws_32, rfl⟩ : ∃ z, z = u := ⟨_, rfl⟩
          obtain ⟨hT, rfl⟩ := hw_31
          have hP : va_P D vwCl ([(rf_MO mo mw ma mf m0 m1 mu mv u0 u1 iz th mb mn mpt mbg mwr mwk mlf men), (rf_RW ct 0 mw 958 f)] ++ ws_32) H := hP
          have hD : va_D A ([(rf_MO mo mw ma mf m0 m1 mu mv u0 u1 iz th mb mn mpt mbg mwr mwk mlf men), (rf_RW ct 0 mw 958 f)] ++ ws_32) := hD
          refine lv_icmp_gt (tgt := 74) hx hb dX11_ends_67 (by decide) (fun hc_33 => ?_) (fun hc_33 => ?_)
          · refine lv_iconst (v := 0) hx hb dX11_ends_74 (by decide) ?_
            refine lv_istore_n (lv' := [(3, .int 0), (2, .int (rf_st3 f p1 0)), (0, .ref mo), (1, .int p1)]) hx hb dX11_ends_75 rfl hl (by decide) rfl (fun ls hl => ?_)
            refine lv_aload_n hx hb dX11_ends_76 rfl (lv_at hl 2 rfl) ?_
            refine lv_iload_n hx hb dX11_ends_77 rfl (lv_at hl 3 rfl) ?_
            refine lv_iload_n hx hb dX11_ends_78 rfl (lv_at hl 0 rfl) ?_
            refine ty_kv (wr := []) (wc := ([(rf_MO mo mw ma mf m0 m1 mu mv u0 u1 iz th mb mn mpt mbg mwr mwk mlf men), (rf_RW ct 0 mw 958 f)] ++ ws_32)) (va_runV (As := [.int p1, .int 0]) (rest := []) ⟨hx, hb, hml, hown, hts⟩ (m_X11_records l D ct S ws_32 ph xx mo mw ma mf m0 m1 mu mv u0 u1 iz mb th mn mpt mbg mwr mwk mlf men f G cx p1 (0 : Int32) _ hT h_mu h_mv h_u0 h_u1 hph hy1 hR hc) (cm_V 2 hts kc_X11_records ki_RX11 kl_RX11_268 kv_X11_records kx_X11_records kd_X11_records ⟨Nat.le_of_ble_eq_true rfl, Nat.le_of_ble_eq_true rfl⟩) (ty_preE (wr := []) (wc := ([(rf_MO mo mw ma mf m0 m1 mu mv u0 u1 iz th mb mn mpt mbg mwr mwk mlf men), (rf_RW ct 0 mw 958 f)] ++ ws_32)) (ci := 11) (q0 := 0) hP hK hD hS hA hX rfl rfl) rfl rfl hl.1 rfl (lv_room (Nat.le_of_ble_eq_true rfl)) dX11_ends_79 ⟨Nat.le_of_ble_eq_true rfl, Nat.le_of_ble_eq_true rfl⟩) hP hD hS hA (fun u H locs hw_35 hP hD hS => ?_)
            obtain ⟨ws_36, f1_37⟩ := u
            obtain ⟨hT, hp_38⟩ := hw_35
            have hp_38 : rf_R G cx f1_37 ∧ rf_sm f f1_37 := hp_38
            have hR_39 := hp_38.1
            have hM_40 := rf_smt (rf_smr f) hp_38.2
            have ho_41 := rf_ons hR hc hp_38.2 ho
            have hP : va_P D vwCl ([(rf_MO mo mw ma mf m0 m1 mu mv u0 u1 iz th mb mn mpt mbg mwr mwk mlf men), (rf_RW ct 0 mw 958 f1_37)] ++ ws_36) H := hP
            have hD : va_D A ([(rf_MO mo mw ma mf m0 m1 mu mv u0 u1 iz th mb mn mpt mbg mwr mwk mlf men), (rf_RW ct 0 mw 958 f1_37)] ++ ws_36) := hD
            refine lv_iload_n hx hb dX11_ends_82 rfl (lv_at hl 0 rfl) ?_
            refine lv_if_eq (tgt := 108) hx hb dX11_ends_83 (by decide) (fun _ => ?_) (fun hc => absurd (by decide) hc)
            refine lv_aload_n hx hb dX11_ends_108 rfl (lv_at hl 2 rfl) ?_
            refine lv_iload_n hx hb dX11_ends_109 rfl (lv_at hl 3 rfl) ?_
            refine ty_kv (wr := []) (wc := ([(rf_MO mo mw ma mf m0 m1 mu mv u0 u1 iz th mb mn mpt mbg mwr mwk mlf men), (rf_RW ct 0 mw 958 f1_37)] ++ ws_36)) (va_runV (As := [.int p1]) (rest := []) ⟨hx, hb, hml, hown, hts⟩ (m_X11_clears l D ct S ws_36 ph xx mo mw ma mf m0 m1 mu mv u0 u1 iz mb th mn mpt mbg mwr mwk mlf men f1_37 G cx p1 _ hT h_mu h_mv h_u0 h_u1 hph hy1 hy11 hR_39 hc) (cm_V 1 hts kc_X11_clears ki_RX11 kl_RX11_272 kv_X11_clears kx_X11_clears kd_X11_clears ⟨Nat.le_of_ble_eq_true rfl, Nat.le_of_ble_eq_true rfl⟩) (ty_preE (wr := []) (wc := ([(rf_MO mo mw ma mf m0 m1 mu mv u0 u1 iz th mb mn mpt mbg mwr mwk mlf men), (rf_RW ct 0 mw 958 f1_37)] ++ ws_36)) (ci := 11) (q0 := 0) hP hK hD hS hA hX rfl rfl) rfl rfl hl.1 rfl (lv_room (Nat.le_of_ble_eq_true rfl)) dX11_ends_110 ⟨Nat.le_of_ble_eq_true rfl, Nat.le_of_ble_eq_true rfl⟩) hP hD hS hA (fun u H locs hw_43 hP hD hS => ?_)
            obtain ⟨ws_44, f1_45⟩ := u
            obtain ⟨hT, hp_46⟩ := hw_43
            have hp_46 : rf_R G cx f1_45 ∧ rf_sm f1_37 f1_45 := hp_46
            have hR_47 := hp_46.1
            have hM_48 := rf_smt hM_40 hp_46.2
            have ho_49 := rf_ons hR_39 hc hp_46.2 ho_41
            have hP : va_P D vwCl ([(rf_MO mo mw ma mf m0 m1 mu mv u0 u1 iz th mb mn mpt mbg mwr mwk mlf men), (rf_RW ct 0 mw 958 f1_45)] ++ ws_44) H := hP
            have hD : va_D A ([(rf_MO mo mw ma mf m0 m1 mu mv u0 u1 iz th mb mn mpt mbg mwr mwk mlf men), (rf_RW ct 0 mw 958 f1_45)] ++ ws_44) := hD
            exact W.vret hx hb hr (fun t ht hW => ⟨⟨(ws_44, f1_45), rfl, ⟨hT, ⟨hR_47, hM_48⟩⟩, by rw [ht]; exact hP, by rw [hAe]; exact hD⟩, hS.F ht⟩) hS.2.2 dX11_ends_113
          · refine lv_iconst (v := 1) hx hb dX11_ends_70 (by decide) ?_
            refine lv_goto (tgt := 75) hx hb dX11_ends_71 (by decide) ?_
            refine lv_istore_n (lv' := [(3, .int 1), (2, .int (rf_st3 f p1 0)), (0, .ref mo), (1, .int p1)]) hx hb dX11_ends_75 rfl hl (by decide) rfl (fun ls hl => ?_)
            refine lv_aload_n hx hb dX11_ends_76 rfl (lv_at hl 2 rfl) ?_
            refine lv_iload_n hx hb dX11_ends_77 rfl (lv_at hl 3 rfl) ?_
            refine lv_iload_n hx hb dX11_ends_78 rfl (lv_at hl 0 rfl) ?_
            refine ty_kv (wr := []) (wc := ([(rf_MO mo mw ma mf m0 m1 mu mv u0 u1 iz th mb mn mpt mbg mwr mwk mlf men), (rf_RW ct 0 mw 958 f)] ++ ws_32)) (va_runV (As := [.int p1, .int 1]) (rest := []) ⟨hx, hb, hml, hown, hts⟩ (m_X11_records l D ct S ws_32 ph xx mo mw ma mf m0 m1 mu mv u0 u1 iz mb th mn mpt mbg mwr mwk mlf men f G cx p1 (1 : Int32) _ hT h_mu h_mv h_u0 h_u1 hph hy1 hR hc) (cm_V 2 hts kc_X11_records ki_RX11 kl_RX11_268 kv_X11_records kx_X11_records kd_X11_records ⟨Nat.le_of_ble_eq_true rfl, Nat.le_of_ble_eq_true rfl⟩) (ty_preE (wr := []) (wc := ([(rf_MO mo mw ma mf m0 m1 mu mv u0 u1 iz th mb mn mpt mbg mwr mwk mlf men), (rf_RW ct 0 mw 958 f)] ++ ws_32)) (ci := 11) (q0 := 0) hP hK hD hS hA hX rfl rfl) rfl rfl hl.1 rfl (lv_room (Nat.le_of_ble_eq_true rfl)) dX11_ends_79 ⟨Nat.le_of_ble_eq_true rfl, Nat.le_of_ble_eq_true rfl⟩) hP hD hS hA (fun u H locs hw_51 hP hD hS => ?_)
            obtain ⟨ws_52, f1_53⟩ := u
            obtain ⟨hT, hp_54⟩ := hw_51
            have hp_54 : rf_R G cx f1_53 ∧ rf_sm f f1_53 := hp_54
            have hR_55 := hp_54.1
            have hM_56 := rf_smt (rf_smr f) hp_54.2
            have ho_57 := rf_ons hR hc hp_54.2 ho
            have hP : va_P D vwCl ([(rf_MO mo mw ma mf m0 m1 mu mv u0 u1 iz th mb mn mpt mbg mwr mwk mlf men), (rf_RW ct 0 mw 958 f1_53)] ++ ws_52) H := hP
            have hD : va_D A ([(rf_MO mo mw ma mf m0 m1 mu mv u0 u1 iz th mb mn mpt mbg mwr mwk mlf men), (rf_RW ct 0 mw 958 f1_53)] ++ ws_52) := hD
            refine lv_iload_n hx hb dX11_ends_82 rfl (lv_at hl 0 rfl) ?_
            refine lv_if_eq (tgt := 108) hx hb dX11_ends_83 (by decide) (fun hc => absurd hc (by decide)) (fun _ => ?_)
            refine lv_aload_n hx hb dX11_ends_86 rfl (lv_at hl 2 rfl) ?_
            refine lv_iload_n hx hb dX11_ends_87 rfl (lv_at hl 3 rfl) ?_
            refine lv_bipush (v := 20) hx hb dX11_ends_88 (by decide) ?_
            refine lv_aload_n hx hb dX11_ends_90 rfl (lv_at hl 2 rfl) ?_
            refine lv_iload_n hx hb dX11_ends_91 rfl (lv_at hl 3 rfl) ?_
            refine lv_iconst (v := 1) hx hb dX11_ends_92 (by decide) ?_
            have hP : va_P D vwCl ([(rf_RW ct 0 mw 958 f1_53), (rf_MO mo mw ma mf m0 m1 mu mv u0 u1 iz th mb mn mpt mbg mwr mwk mlf men)] ++ ws_52) H := ty_permP hP (ty_ordp (E := [(rf_MO mo mw ma mf m0 m1 mu mv u0 u1 iz th mb mn mpt mbg mwr mwk mlf men), (rf_RW ct 0 mw 958 f1_53)]) (E2 := [(rf_RW ct 0 mw 958 f1_53), (rf_MO mo mw ma mf m0 m1 mu mv u0 u1 iz th mb mn mpt mbg mwr mwk mlf men)]) (n := 2) [1, 0] rfl rfl (by decide))
            have hD : va_D A ([(rf_RW ct 0 mw 958 f1_53), (rf_MO mo mw ma mf m0 m1 mu mv u0 u1 iz th mb mn mpt mbg mwr mwk mlf men)] ++ ws_52) := ty_permD hD (ty_ordp (E := [(rf_MO mo mw ma mf m0 m1 mu mv u0 u1 iz th mb mn mpt mbg mwr mwk mlf men), (rf_RW ct 0 mw 958 f1_53)]) (E2 := [(rf_RW ct 0 mw 958 f1_53), (rf_MO mo mw ma mf m0 m1 mu mv u0 u1 iz th mb mn mpt mbg mwr mwk mlf men)]) (n := 2) [1, 0] rfl rfl (by decide))
            refine ty_kl (wr := [(rf_RW ct 0 mw 958 f1_53)]) (wc := ([(rf_MO mo mw ma mf m0 m1 mu mv u0 u1 iz th mb mn mpt mbg mwr mwk mlf men)] ++ ws_52)) (va_runV (As := [.int p1, .int 1]) (rest := [.int 20, .int p1, .ref mo]) ⟨hx, hb, hml, hown, hts⟩ (m_X11_sum l D ct S ws_52 ph xx mo mw ma mf m0 m1 mu mv u0 u1 iz mb th mn mpt mbg mwr mwk mlf men p1 (1 : Int32) _ hT h_mu h_mv h_u0 h_u1 hph hy1 (rf_c6 hR_55 hc) (by decide)) (cm_V 2 hts kc_X11_sum ki_RX11 kl_RX11_261 kv_X11_sum kx_X11_sum kd_X11_sum ⟨Nat.le_of_ble_eq_true rfl, Nat.le_of_ble_eq_true rfl⟩) (ty_preE (wr := [(rf_RW ct 0 mw 958 f1_53)]) (wc := ([(rf_MO mo mw ma mf m0 m1 mu mv u0 u1 iz th mb mn mpt mbg mwr mwk mlf men)] ++ ws_52)) (ci := 11) (q0 := 1) hP hK hD hS hA hX rfl rfl) rfl rfl hl.1 rfl (lv_room (Nat.le_of_ble_eq_true rfl)) dX11_ends_93 ⟨Nat.le_of_ble_eq_true rfl, Nat.le_of_ble_eq_true rfl⟩) hP hD hS hA (fun r_58 u H locs hw_59 hP hD hS => ?_)
            obtain ⟨ws_60, rfl⟩ : ∃ z, z = u := ⟨_, rfl⟩
            have hT := hw_59
            have hP : va_P D vwCl ([(rf_RW ct 0 mw 958 f1_53), (rf_MO mo mw ma mf m0 m1 mu mv u0 u1 iz th mb mn mpt mbg mwr mwk mlf men)] ++ ws_60) H := hP
            have hD : va_D A ([(rf_RW ct 0 mw 958 f1_53), (rf_MO mo mw ma mf m0 m1 mu mv u0 u1 iz th mb mn mpt mbg mwr mwk mlf men)] ++ ws_60) := hD
            refine lv_aload_n hx hb dX11_ends_96 rfl (lv_at hl 2 rfl) ?_
            refine lv_iload_n hx hb dX11_ends_97 rfl (lv_at hl 3 rfl) ?_
            refine lv_bipush (v := 6) hx hb dX11_ends_98 (by decide) ?_
            refine ty_kl (wr := [(rf_RW ct 0 mw 958 f1_53)]) (wc := ([(rf_MO mo mw ma mf m0 m1 mu mv u0 u1 iz th mb mn mpt mbg mwr mwk mlf men)] ++ ws_60)) (va_runV (As := [.int p1, .int 6]) (rest := [.long r_58, .int 20, .int p1, .ref mo]) ⟨hx, hb, hml, hown, hts⟩ (m_X11_sum l D ct S ws_60 ph xx mo mw ma mf m0 m1 mu mv u0 u1 iz mb th mn mpt mbg mwr mwk mlf men p1 (6 : Int32) _ hT h_mu h_mv h_u0 h_u1 hph hy1 (rf_c6 hR_55 hc) (by decide)) (cm_V 2 hts kc_X11_sum ki_RX11 kl_RX11_261 kv_X11_sum kx_X11_sum kd_X11_sum ⟨Nat.le_of_ble_eq_true rfl, Nat.le_of_ble_eq_true rfl⟩) (ty_preE (wr := [(rf_RW ct 0 mw 958 f1_53)]) (wc := ([(rf_MO mo mw ma mf m0 m1 mu mv u0 u1 iz th mb mn mpt mbg mwr mwk mlf men)] ++ ws_60)) (ci := 11) (q0 := 1) hP hK hD hS hA hX rfl rfl) rfl rfl hl.1 rfl (lv_room (Nat.le_of_ble_eq_true rfl)) dX11_ends_100 ⟨Nat.le_of_ble_eq_true rfl, Nat.le_of_ble_eq_true rfl⟩) hP hD hS hA (fun r_61 u H locs hw_62 hP hD hS => ?_)
            obtain ⟨ws_63, rfl⟩ : ∃ z, z = u := ⟨_, rfl⟩
            have hT := hw_62
            have hP : va_P D vwCl ([(rf_RW ct 0 mw 958 f1_53), (rf_MO mo mw ma mf m0 m1 mu mv u0 u1 iz th mb mn mpt mbg mwr mwk mlf men)] ++ ws_63) H := hP
            have hD : va_D A ([(rf_RW ct 0 mw 958 f1_53), (rf_MO mo mw ma mf m0 m1 mu mv u0 u1 iz th mb mn mpt mbg mwr mwk mlf men)] ++ ws_63) := hD
            refine lv_lsub hx hb dX11_ends_103 ?_
            refine lv_topl (fun x_64 _ => ?_)
            refine lv_l2i hx hb dX11_ends_104 rfl ?_
            refine lv_topi (fun x_65 _ => ?_)
            have hP : va_P D vwCl ([(rf_MO mo mw ma mf m0 m1 mu mv u0 u1 iz th mb mn mpt mbg mwr mwk mlf men), (rf_RW ct 0 mw 958 f1_53)] ++ ws_63) H := ty_permP hP (ty_ordp (E := [(rf_RW ct 0 mw 958 f1_53), (rf_MO mo mw ma mf m0 m1 mu mv u0 u1 iz th mb mn mpt mbg mwr mwk mlf men)]) (E2 := [(rf_MO mo mw ma mf m0 m1 mu mv u0 u1 iz th mb mn mpt mbg mwr mwk mlf men), (rf_RW ct 0 mw 958 f1_53)]) (n := 2) [1, 0] rfl rfl (by decide))
            have hD : va_D A ([(rf_MO mo mw ma mf m0 m1 mu mv u0 u1 iz th mb mn mpt mbg mwr mwk mlf men), (rf_RW ct 0 mw 958 f1_53)] ++ ws_63) := ty_permD hD (ty_ordp (E := [(rf_RW ct 0 mw 958 f1_53), (rf_MO mo mw ma mf m0 m1 mu mv u0 u1 iz th mb mn mpt mbg mwr mwk mlf men)]) (E2 := [(rf_MO mo mw ma mf m0 m1 mu mv u0 u1 iz th mb mn mpt mbg mwr mwk mlf men), (rf_RW ct 0 mw 958 f1_53)]) (n := 2) [1, 0] rfl rfl (by decide))
            refine ty_kv (wr := []) (wc := ([(rf_MO mo mw ma mf m0 m1 mu mv u0 u1 iz th mb mn mpt mbg mwr mwk mlf men), (rf_RW ct 0 mw 958 f1_53)] ++ ws_63)) (va_runV (As := [.int p1, .int 20, .int x_65]) (rest := []) ⟨hx, hb, hml, hown, hts⟩ (m_put_20 l D ct S ws_63 ph xx mo mw ma mf m0 m1 mu mv u0 u1 iz mb th mn mpt mbg mwr mwk mlf men f1_53 G cx p1 x_65 _ hT h_mu h_mv h_u0 h_u1 hph hy1 hR_55 hc) (cm_V 3 hts kc_X11_put ki_RX11 kl_RX11_234 kv_X11_put kx_X11_put kd_X11_put ⟨Nat.le_of_ble_eq_true rfl, Nat.le_of_ble_eq_true rfl⟩) (ty_preE (wr := []) (wc := ([(rf_MO mo mw ma mf m0 m1 mu mv u0 u1 iz th mb mn mpt mbg mwr mwk mlf men), (rf_RW ct 0 mw 958 f1_53)] ++ ws_63)) (ci := 11) (q0 := 0) hP hK hD hS hA hX rfl rfl) rfl rfl hl.1 rfl (lv_room (Nat.le_of_ble_eq_true rfl)) dX11_ends_105 ⟨Nat.le_of_ble_eq_true rfl, Nat.le_of_ble_eq_true rfl⟩) hP hD hS hA (fun u H locs hw_67 hP hD hS => ?_)
            obtain ⟨ws_68, f1_69⟩ := u
            obtain ⟨hT, hp_70⟩ := hw_67
            have hp_70 : rf_R G cx f1_69 ∧ rf_sm f1_53 f1_69 ∧ f1_69 = upd f1_53 (244 + 54 * p1.toInt.toNat + 20) x_65 := hp_70
            have hR_71 := hp_70.1
            have hM_72 := rf_smt hM_56 hp_70.2.1
            have ho_73 := rf_ons hR_55 hc hp_70.2.1 ho_57
            have hP : va_P D vwCl ([(rf_MO mo mw ma mf m0 m1 mu mv u0 u1 iz th mb mn mpt mbg mwr mwk mlf men), (rf_RW ct 0 mw 958 f1_69)] ++ ws_68) H := hP
            have hD : va_D A ([(rf_MO mo mw ma mf m0 m1 mu mv u0 u1 iz th mb mn mpt mbg mwr mwk mlf men), (rf_RW ct 0 mw 958 f1_69)] ++ ws_68) := hD
            refine lv_aload_n hx hb dX11_ends_108 rfl (lv_at hl 2 rfl) ?_
            refine lv_iload_n hx hb dX11_ends_109 rfl (lv_at hl 3 rfl) ?_
            refine ty_kv (wr := []) (wc := ([(rf_MO mo mw ma mf m0 m1 mu mv u0 u1 iz th mb mn mpt mbg mwr mwk mlf men), (rf_RW ct 0 mw 958 f1_69)] ++ ws_68)) (va_runV (As := [.int p1]) (rest := []) ⟨hx, hb, hml, hown, hts⟩ (m_X11_clears l D ct S ws_68 ph xx mo mw ma mf m0 m1 mu mv u0 u1 iz mb th mn mpt mbg mwr mwk mlf men f1_69 G cx p1 _ hT h_mu h_mv h_u0 h_u1 hph hy1 hy11 hR_71 hc) (cm_V 1 hts kc_X11_clears ki_RX11 kl_RX11_272 kv_X11_clears kx_X11_clears kd_X11_clears ⟨Nat.le_of_ble_eq_true rfl, Nat.le_of_ble_eq_true rfl⟩) (ty_preE (wr := []) (wc := ([(rf_MO mo mw ma mf m0 m1 mu mv u0 u1 iz th mb mn mpt mbg mwr mwk mlf men), (rf_RW ct 0 mw 958 f1_69)] ++ ws_68)) (ci := 11) (q0 := 0) hP hK hD hS hA hX rfl rfl) rfl rfl hl.1 rfl (lv_room (Nat.le_of_ble_eq_true rfl)) dX11_ends_110 ⟨Nat.le_of_ble_eq_true rfl, Nat.le_of_ble_eq_true rfl⟩) hP hD hS hA (fun u H locs hw_75 hP hD hS => ?_)
            obtain ⟨ws_76, f1_77⟩ := u
            obtain ⟨hT, hp_78⟩ := hw_75
            have hp_78 : rf_R G cx f1_77 ∧ rf_sm f1_69 f1_77 := hp_78
            have hR_79 := hp_78.1
            have hM_80 := rf_smt hM_72 hp_78.2
            have ho_81 := rf_ons hR_71 hc hp_78.2 ho_73
            have hP : va_P D vwCl ([(rf_MO mo mw ma mf m0 m1 mu mv u0 u1 iz th mb mn mpt mbg mwr mwk mlf men), (rf_RW ct 0 mw 958 f1_77)] ++ ws_76) H := hP
            have hD : va_D A ([(rf_MO mo mw ma mf m0 m1 mu mv u0 u1 iz th mb mn mpt mbg mwr mwk mlf men), (rf_RW ct 0 mw 958 f1_77)] ++ ws_76) := hD
            exact W.vret hx hb hr (fun t ht hW => ⟨⟨(ws_76, f1_77), rfl, ⟨hT, ⟨hR_79, hM_80⟩⟩, by rw [ht]; exact hP, by rw [hAe]; exact hD⟩, hS.F ht⟩) hS.2.2 dX11_ends_113
      · exact W.vret hx hb hr (fun t ht hW => ⟨⟨(ws_3, f), rfl, ⟨hT, ⟨hR, (rf_smr f)⟩⟩, by rw [ht]; exact hP, by rw [hAe]; exact hD⟩, hS.F ht⟩) hS.2.2 dX11_ends_43
    · refine lv_aload_n hx hb dX11_ends_25 rfl (lv_at hl 1 rfl) ?_
      refine lv_iload_n hx hb dX11_ends_26 rfl (lv_at hl 2 rfl) ?_
      refine lv_bipush (v := 19) hx hb dX11_ends_27 (by decide) ?_
      refine lv_aload_n hx hb dX11_ends_29 rfl (lv_at hl 1 rfl) ?_
      refine lv_iload_n hx hb dX11_ends_30 rfl (lv_at hl 2 rfl) ?_
      refine lv_iconst (v := 5) hx hb dX11_ends_31 (by decide) ?_
      refine ty_ki (wr := []) (wc := ([(rf_MO mo mw ma mf m0 m1 mu mv u0 u1 iz th mb mn mpt mbg mwr mwk mlf men), (rf_RW ct 0 mw 958 f)] ++ ws_3)) (va_runV (As := [.int p1, .int 5]) (rest := [.int 19, .int p1, .ref mo]) ⟨hx, hb, hml, hown, hts⟩ (m_of_5 l D ct S ws_3 ph xx mo mw ma mf m0 m1 mu mv u0 u1 iz mb th mn mpt mbg mwr mwk mlf men f G cx p1 _ hT h_mu h_mv h_u0 h_u1 hph hy1 hR hc) (cm_V 2 hts kc_X11_of ki_RX11 kl_RX11_209 kv_X11_of kx_X11_of kd_X11_of ⟨Nat.le_of_ble_eq_true rfl, Nat.le_of_ble_eq_true rfl⟩) (ty_preE (wr := []) (wc := ([(rf_MO mo mw ma mf m0 m1 mu mv u0 u1 iz th mb mn mpt mbg mwr mwk mlf men), (rf_RW ct 0 mw 958 f)] ++ ws_3)) (ci := 11) (q0 := 0) hP hK hD hS hA hX rfl rfl) rfl rfl hl.1 rfl (lv_room (Nat.le_of_ble_eq_true rfl)) dX11_ends_32 ⟨Nat.le_of_ble_eq_true rfl, Nat.le_of_ble_eq_true rfl⟩) hP hD hS hA (fun r_82 u H locs hw_83 hP hD hS => ?_)
      obtain ⟨ws_84, rfl⟩ : ∃ z, z = u := ⟨_, rfl⟩
      obtain ⟨hT, rfl⟩ := hw_83
      have hP : va_P D vwCl ([(rf_MO mo mw ma mf m0 m1 mu mv u0 u1 iz th mb mn mpt mbg mwr mwk mlf men), (rf_RW ct 0 mw 958 f)] ++ ws_84) H := hP
      have hD : va_D A ([(rf_MO mo mw ma mf m0 m1 mu mv u0 u1 iz th mb mn mpt mbg mwr mwk mlf men), (rf_RW ct 0 mw 958 f)] ++ ws_84) := hD
      refine ty_kv (wr := []) (wc := ([(rf_MO mo mw ma mf m0 m1 mu mv u0 u1 iz th mb mn mpt mbg mwr mwk mlf men), (rf_RW ct 0 mw 958 f)] ++ ws_84)) (va_runV (As := [.int p1, .int 19, .int (rf_of f p1 5)]) (rest := []) ⟨hx, hb, hml, hown, hts⟩ (m_put_19 l D ct S ws_84 ph xx mo mw ma mf m0 m1 mu mv u0 u1 iz mb th mn mpt mbg mwr mwk mlf men f G cx p1 (rf_of f p1 5) _ hT h_mu h_mv h_u0 h_u1 hph hy1 hR hc) (cm_V 3 hts kc_X11_put ki_RX11 kl_RX11_234 kv_X11_put kx_X11_put kd_X11_put ⟨Nat.le_of_ble_eq_true rfl, Nat.le_of_ble_eq_true rfl⟩) (ty_preE (wr := []) (wc := ([(rf_MO mo mw ma mf m0 m1 mu mv u0 u1 iz th mb mn mpt mbg mwr mwk mlf men), (rf_RW ct 0 mw 958 f)] ++ ws_84)) (ci := 11) (q0 := 0) hP hK hD hS hA hX rfl rfl) rfl rfl hl.1 rfl (lv_room (Nat.le_of_ble_eq_true rfl)) dX11_ends_35 ⟨Nat.le_of_ble_eq_true rfl, Nat.le_of_ble_eq_true rfl⟩) hP hD hS hA (fun u H locs hw_86 hP hD hS => ?_)
      obtain ⟨ws_87, f1_88⟩ := u
      obtain ⟨hT, hp_89⟩ := hw_86
      have hp_89 : rf_R G cx f1_88 ∧ rf_sm f f1_88 ∧ f1_88 = upd f (244 + 54 * p1.toInt.toNat + 19) (rf_of f p1 5) := hp_89
      have hR_90 := hp_89.1
      have hM_91 := rf_smt (rf_smr f) hp_89.2.1
      have ho_92 := rf_ons hR hc hp_89.2.1 ho
      have hP : va_P D vwCl ([(rf_MO mo mw ma mf m0 m1 mu mv u0 u1 iz th mb mn mpt mbg mwr mwk mlf men), (rf_RW ct 0 mw 958 f1_88)] ++ ws_87) H := hP
      have hD : va_D A ([(rf_MO mo mw ma mf m0 m1 mu mv u0 u1 iz th mb mn mpt mbg mwr mwk mlf men), (rf_RW ct 0 mw 958 f1_88)] ++ ws_87) := hD
      refine lv_iload_n hx hb dX11_ends_38 rfl (lv_at hl 0 rfl) ?_
      refine lv_iconst (v := 2) hx hb dX11_ends_39 (by decide) ?_
      refine lv_icmp_eq (tgt := 44) hx hb dX11_ends_40 (by decide) (fun hc_93 => ?_) (fun hc_93 => ?_)
      · refine lv_aload_n hx hb dX11_ends_44 rfl (lv_at hl 1 rfl) ?_
        refine lv_iload_n hx hb dX11_ends_45 rfl (lv_at hl 2 rfl) ?_
        refine lv_bipush (v := 21) hx hb dX11_ends_46 (by decide) ?_
        refine ty_ki (wr := []) (wc := ([(rf_MO mo mw ma mf m0 m1 mu mv u0 u1 iz th mb mn mpt mbg mwr mwk mlf men), (rf_RW ct 0 mw 958 f1_88)] ++ ws_87)) (va_runV (As := [.int p1, .int 21]) (rest := []) ⟨hx, hb, hml, hown, hts⟩ (m_of_21 l D ct S ws_87 ph xx mo mw ma mf m0 m1 mu mv u0 u1 iz mb th mn mpt mbg mwr mwk mlf men f1_88 G cx p1 _ hT h_mu h_mv h_u0 h_u1 hph hy1 hR_90 hc) (cm_V 2 hts kc_X11_of ki_RX11 kl_RX11_209 kv_X11_of kx_X11_of kd_X11_of ⟨Nat.le_of_ble_eq_true rfl, Nat.le_of_ble_eq_true rfl⟩) (ty_preE (wr := []) (wc := ([(rf_MO mo mw ma mf m0 m1 mu mv u0 u1 iz th mb mn mpt mbg mwr mwk mlf men), (rf_RW ct 0 mw 958 f1_88)] ++ ws_87)) (ci := 11) (q0 := 0) hP hK hD hS hA hX rfl rfl) rfl rfl hl.1 rfl (lv_room (Nat.le_of_ble_eq_true rfl)) dX11_ends_48 ⟨Nat.le_of_ble_eq_true rfl, Nat.le_of_ble_eq_true rfl⟩) hP hD hS hA (fun r_94 u H locs hw_95 hP hD hS => ?_)
        obtain ⟨ws_96, rfl⟩ : ∃ z, z = u := ⟨_, rfl⟩
        obtain ⟨hT, rfl⟩ := hw_95
        have hP : va_P D vwCl ([(rf_MO mo mw ma mf m0 m1 mu mv u0 u1 iz th mb mn mpt mbg mwr mwk mlf men), (rf_RW ct 0 mw 958 f1_88)] ++ ws_96) H := hP
        have hD : va_D A ([(rf_MO mo mw ma mf m0 m1 mu mv u0 u1 iz th mb mn mpt mbg mwr mwk mlf men), (rf_RW ct 0 mw 958 f1_88)] ++ ws_96) := hD
        refine lv_iconst (v := 1) hx hb dX11_ends_51 (by decide) ?_
        refine lv_icmp_ne (tgt := 74) hx hb dX11_ends_52 (by decide) (fun hc_97 => ?_) (fun hc_97 => ?_)
        · refine lv_iconst (v := 0) hx hb dX11_ends_74 (by decide) ?_
          refine lv_istore_n (lv' := [(3, .int 0), (2, .int (rf_st3 f p1 0)), (0, .ref mo), (1, .int p1)]) hx hb dX11_ends_75 rfl hl (by decide) rfl (fun ls hl => ?_)
          refine lv_aload_n hx hb dX11_ends_76 rfl (lv_at hl 2 rfl) ?_
          refine lv_iload_n hx hb dX11_ends_77 rfl (lv_at hl 3 rfl) ?_
          refine lv_iload_n hx hb dX11_ends_78 rfl (lv_at hl 0 rfl) ?_
          refine ty_kv (wr := []) (wc := ([(rf_MO mo mw ma mf m0 m1 mu mv u0 u1 iz th mb mn mpt mbg mwr mwk mlf men), (rf_RW ct 0 mw 958 f1_88)] ++ ws_96)) (va_runV (As := [.int p1, .int 0]) (rest := []) ⟨hx, hb, hml, hown, hts⟩ (m_X11_records l D ct S ws_96 ph xx mo mw ma mf m0 m1 mu mv u0 u1 iz mb th mn mpt mbg mwr mwk mlf men f1_88 G cx p1 (0 : Int32) _ hT h_mu h_mv h_u0 h_u1 hph hy1 hR_90 hc) (cm_V 2 hts kc_X11_records ki_RX11 kl_RX11_268 kv_X11_records kx_X11_records kd_X11_records ⟨Nat.le_of_ble_eq_true rfl, Nat.le_of_ble_eq_true rfl⟩) (ty_preE (wr := []) (wc := ([(rf_MO mo mw ma mf m0 m1 mu mv u0 u1 iz th mb mn mpt mbg mwr mwk mlf men), (rf_RW ct 0 mw 958 f1_88)] ++ ws_96)) (ci := 11) (q0 := 0) hP hK hD hS hA hX rfl rfl) rfl rfl hl.1 rfl (lv_room (Nat.le_of_ble_eq_true rfl)) dX11_ends_79 ⟨Nat.le_of_ble_eq_true rfl, Nat.le_of_ble_eq_true rfl⟩) hP hD hS hA (fun u H locs hw_99 hP hD hS => ?_)
          obtain ⟨ws_100, f1_101⟩ := u
          obtain ⟨hT, hp_102⟩ := hw_99
          have hp_102 : rf_R G cx f1_101 ∧ rf_sm f1_88 f1_101 := hp_102
          have hR_103 := hp_102.1
          have hM_104 := rf_smt hM_91 hp_102.2
          have ho_105 := rf_ons hR_90 hc hp_102.2 ho_92
          have hP : va_P D vwCl ([(rf_MO mo mw ma mf m0 m1 mu mv u0 u1 iz th mb mn mpt mbg mwr mwk mlf men), (rf_RW ct 0 mw 958 f1_101)] ++ ws_100) H := hP
          have hD : va_D A ([(rf_MO mo mw ma mf m0 m1 mu mv u0 u1 iz th mb mn mpt mbg mwr mwk mlf men), (rf_RW ct 0 mw 958 f1_101)] ++ ws_100) := hD
          refine lv_iload_n hx hb dX11_ends_82 rfl (lv_at hl 0 rfl) ?_
          refine lv_if_eq (tgt := 108) hx hb dX11_ends_83 (by decide) (fun _ => ?_) (fun hc => absurd (by decide) hc)
          refine lv_aload_n hx hb dX11_ends_108 rfl (lv_at hl 2 rfl) ?_
          refine lv_iload_n hx hb dX11_ends_109 rfl (lv_at hl 3 rfl) ?_
          refine ty_kv (wr := []) (wc := ([(rf_MO mo mw ma mf m0 m1 mu mv u0 u1 iz th mb mn mpt mbg mwr mwk mlf men), (rf_RW ct 0 mw 958 f1_101)] ++ ws_100)) (va_runV (As := [.int p1]) (rest := []) ⟨hx, hb, hml, hown, hts⟩ (m_X11_clears l D ct S ws_100 ph xx mo mw ma mf m0 m1 mu mv u0 u1 iz mb th mn mpt mbg mwr mwk mlf men f1_101 G cx p1 _ hT h_mu h_mv h_u0 h_u1 hph hy1 hy11 hR_103 hc) (cm_V 1 hts kc_X11_clears ki_RX11 kl_RX11_272 kv_X11_clears kx_X11_clears kd_X11_clears ⟨Nat.le_of_ble_eq_true rfl, Nat.le_of_ble_eq_true rfl⟩) (ty_preE (wr := []) (wc := ([(rf_MO mo mw ma mf m0 m1 mu mv u0 u1 iz th mb mn mpt mbg mwr mwk mlf men), (rf_RW ct 0 mw 958 f1_101)] ++ ws_100)) (ci := 11) (q0 := 0) hP hK hD hS hA hX rfl rfl) rfl rfl hl.1 rfl (lv_room (Nat.le_of_ble_eq_true rfl)) dX11_ends_110 ⟨Nat.le_of_ble_eq_true rfl, Nat.le_of_ble_eq_true rfl⟩) hP hD hS hA (fun u H locs hw_107 hP hD hS => ?_)
          obtain ⟨ws_108, f1_109⟩ := u
          obtain ⟨hT, hp_110⟩ := hw_107
          have hp_110 : rf_R G cx f1_109 ∧ rf_sm f1_101 f1_109 := hp_110
          have hR_111 := hp_110.1
          have hM_112 := rf_smt hM_104 hp_110.2
          have ho_113 := rf_ons hR_103 hc hp_110.2 ho_105
          have hP : va_P D vwCl ([(rf_MO mo mw ma mf m0 m1 mu mv u0 u1 iz th mb mn mpt mbg mwr mwk mlf men), (rf_RW ct 0 mw 958 f1_109)] ++ ws_108) H := hP
          have hD : va_D A ([(rf_MO mo mw ma mf m0 m1 mu mv u0 u1 iz th mb mn mpt mbg mwr mwk mlf men), (rf_RW ct 0 mw 958 f1_109)] ++ ws_108) := hD
          exact W.vret hx hb hr (fun t ht hW => ⟨⟨(ws_108, f1_109), rfl, ⟨hT, ⟨hR_111, hM_112⟩⟩, by rw [ht]; exact hP, by rw [hAe]; exact hD⟩, hS.F ht⟩) hS.2.2 dX11_ends_113
        · refine lv_aload_n hx hb dX11_ends_55 rfl (lv_at hl 1 rfl) ?_
          refine lv_iload_n hx hb dX11_ends_56 rfl (lv_at hl 2 rfl) ?_
          refine lv_iconst (v := 5) hx hb dX11_ends_57 (by decide) ?_
          refine ty_ki (wr := []) (wc := ([(rf_MO mo mw ma mf m0 m1 mu mv u0 u1 iz th mb mn mpt mbg mwr mwk mlf men), (rf_RW ct 0 mw 958 f1_88)] ++ ws_96)) (va_runV (As := [.int p1, .int 5]) (rest := []) ⟨hx, hb, hml, hown, hts⟩ (m_of_5 l D ct S ws_96 ph xx mo mw ma mf m0 m1 mu mv u0 u1 iz mb th mn mpt mbg mwr mwk mlf men f1_88 G cx p1 _ hT h_mu h_mv h_u0 h_u1 hph hy1 hR_90 hc) (cm_V 2 hts kc_X11_of ki_RX11 kl_RX11_209 kv_X11_of kx_X11_of kd_X11_of ⟨Nat.le_of_ble_eq_true rfl, Nat.le_of_ble_eq_true rfl⟩) (ty_preE (wr := []) (wc := ([(rf_MO mo mw ma mf m0 m1 mu mv u0 u1 iz th mb mn mpt mbg mwr mwk mlf men), (rf_RW ct 0 mw 958 f1_88)] ++ ws_96)) (ci := 11) (q0 := 0) hP hK hD hS hA hX rfl rfl) rfl rfl hl.1 rfl (lv_room (Nat.le_of_ble_eq_true rfl)) dX11_ends_58 ⟨Nat.le_of_ble_eq_true rfl, Nat.le_of_ble_eq_true rfl⟩) hP hD hS hA (fun r_114 u H locs hw_115 hP hD hS => ?_)
          obtain ⟨ws_116, rfl⟩ : ∃ z, z = u := ⟨_, rfl⟩
          obtain ⟨hT, rfl⟩ := hw_115
          have hP : va_P D vwCl ([(rf_MO mo mw ma mf m0 m1 mu mv u0 u1 iz th mb mn mpt mbg mwr mwk mlf men), (rf_RW ct 0 mw 958 f1_88)] ++ ws_116) H := hP
          have hD : va_D A ([(rf_MO mo mw ma mf m0 m1 mu mv u0 u1 iz th mb mn mpt mbg mwr mwk mlf men), (rf_RW ct 0 mw 958 f1_88)] ++ ws_116) := hD
          refine lv_aload_n hx hb dX11_ends_61 rfl (lv_at hl 1 rfl) ?_
          refine lv_iload_n hx hb dX11_ends_62 rfl (lv_at hl 2 rfl) ?_
          refine lv_iconst (v := 2) hx hb dX11_ends_63 (by decide) ?_
          refine ty_ki (wr := []) (wc := ([(rf_MO mo mw ma mf m0 m1 mu mv u0 u1 iz th mb mn mpt mbg mwr mwk mlf men), (rf_RW ct 0 mw 958 f1_88)] ++ ws_116)) (va_runV (As := [.int p1, .int 2]) (rest := [.int (rf_of f1_88 p1 5)]) ⟨hx, hb, hml, hown, hts⟩ (m_step_2 l D ct S ws_116 ph xx mo mw ma mf m0 m1 mu mv u0 u1 iz mb th mn mpt mbg mwr mwk mlf men f1_88 G cx p1 _ hT h_mu h_mv h_u0 h_u1 hph hy1 hR_90 hc ho_92) (cm_V 2 hts kc_X11_step ki_RX11 kl_RX11_228 kv_X11_step kx_X11_step kd_X11_step ⟨Nat.le_of_ble_eq_true rfl, Nat.le_of_ble_eq_true rfl⟩) (ty_preE (wr := []) (wc := ([(rf_MO mo mw ma mf m0 m1 mu mv u0 u1 iz th mb mn mpt mbg mwr mwk mlf men), (rf_RW ct 0 mw 958 f1_88)] ++ ws_116)) (ci := 11) (q0 := 0) hP hK hD hS hA hX rfl rfl) rfl rfl hl.1 rfl (lv_room (Nat.le_of_ble_eq_true rfl)) dX11_ends_64 ⟨Nat.le_of_ble_eq_true rfl, Nat.le_of_ble_eq_true rfl⟩) hP hD hS hA (fun r_117 u H locs hw_118 hP hD hS => ?_)
          obtain ⟨ws_119, rfl⟩ : ∃ z, z = u := ⟨_, rfl⟩
          obtain ⟨hT, rfl⟩ := hw_118
          have hP : va_P D vwCl ([(rf_MO mo mw ma mf m0 m1 mu mv u0 u1 iz th mb mn mpt mbg mwr mwk mlf men), (rf_RW ct 0 mw 958 f1_88)] ++ ws_119) H := hP
          have hD : va_D A ([(rf_MO mo mw ma mf m0 m1 mu mv u0 u1 iz th mb mn mpt mbg mwr mwk mlf men), (rf_RW ct 0 mw 958 f1_88)] ++ ws_119) := hD
          refine lv_icmp_gt (tgt := 74) hx hb dX11_ends_67 (by decide) (fun hc_120 => ?_) (fun hc_120 => ?_)
          · refine lv_iconst (v := 0) hx hb dX11_ends_74 (by decide) ?_
            refine lv_istore_n (lv' := [(3, .int 0), (2, .int (rf_st3 f p1 0)), (0, .ref mo), (1, .int p1)]) hx hb dX11_ends_75 rfl hl (by decide) rfl (fun ls hl => ?_)
            refine lv_aload_n hx hb dX11_ends_76 rfl (lv_at hl 2 rfl) ?_
            refine lv_iload_n hx hb dX11_ends_77 rfl (lv_at hl 3 rfl) ?_
            refine lv_iload_n hx hb dX11_ends_78 rfl (lv_at hl 0 rfl) ?_
            refine ty_kv (wr := []) (wc := ([(rf_MO mo mw ma mf m0 m1 mu mv u0 u1 iz th mb mn mpt mbg mwr mwk mlf men), (rf_RW ct 0 mw 958 f1_88)] ++ ws_119)) (va_runV (As := [.int p1, .int 0]) (rest := []) ⟨hx, hb, hml, hown, hts⟩ (m_X11_records l D ct S ws_119 ph xx mo mw ma mf m0 m1 mu mv u0 u1 iz mb th mn mpt mbg mwr mwk mlf men f1_88 G cx p1 (0 : Int32) _ hT h_mu h_mv h_u0 h_u1 hph hy1 hR_90 hc) (cm_V 2 hts kc_X11_records ki_RX11 kl_RX11_268 kv_X11_records kx_X11_records kd_X11_records ⟨Nat.le_of_ble_eq_true rfl, Nat.le_of_ble_eq_true rfl⟩) (ty_preE (wr := []) (wc := ([(rf_MO mo mw ma mf m0 m1 mu mv u0 u1 iz th mb mn mpt mbg mwr mwk mlf men), (rf_RW ct 0 mw 958 f1_88)] ++ ws_119)) (ci := 11) (q0 := 0) hP hK hD hS hA hX rfl rfl) rfl rfl hl.1 rfl (lv_room (Nat.le_of_ble_eq_true rfl)) dX11_ends_79 ⟨Nat.le_of_ble_eq_true rfl, Nat.le_of_ble_eq_true rfl⟩) hP hD hS hA (fun u H locs hw_122 hP hD hS => ?_)
            obtain ⟨ws_123, f1_124⟩ := u
            obtain ⟨hT, hp_125⟩ := hw_122
            have hp_125 : rf_R G cx f1_124 ∧ rf_sm f1_88 f1_124 := hp_125
            have hR_126 := hp_125.1
            have hM_127 := rf_smt hM_91 hp_125.2
            have ho_128 := rf_ons hR_90 hc hp_125.2 ho_92
            have hP : va_P D vwCl ([(rf_MO mo mw ma mf m0 m1 mu mv u0 u1 iz th mb mn mpt mbg mwr mwk mlf men), (rf_RW ct 0 mw 958 f1_124)] ++ ws_123) H := hP
            have hD : va_D A ([(rf_MO mo mw ma mf m0 m1 mu mv u0 u1 iz th mb mn mpt mbg mwr mwk mlf men), (rf_RW ct 0 mw 958 f1_124)] ++ ws_123) := hD
            refine lv_iload_n hx hb dX11_ends_82 rfl (lv_at hl 0 rfl) ?_
            refine lv_if_eq (tgt := 108) hx hb dX11_ends_83 (by decide) (fun _ => ?_) (fun hc => absurd (by decide) hc)
            refine lv_aload_n hx hb dX11_ends_108 rfl (lv_at hl 2 rfl) ?_
            refine lv_iload_n hx hb dX11_ends_109 rfl (lv_at hl 3 rfl) ?_
            refine ty_kv (wr := []) (wc := ([(rf_MO mo mw ma mf m0 m1 mu mv u0 u1 iz th mb mn mpt mbg mwr mwk mlf men), (rf_RW ct 0 mw 958 f1_124)] ++ ws_123)) (va_runV (As := [.int p1]) (rest := []) ⟨hx, hb, hml, hown, hts⟩ (m_X11_clears l D ct S ws_123 ph xx mo mw ma mf m0 m1 mu mv u0 u1 iz mb th mn mpt mbg mwr mwk mlf men f1_124 G cx p1 _ hT h_mu h_mv h_u0 h_u1 hph hy1 hy11 hR_126 hc) (cm_V 1 hts kc_X11_clears ki_RX11 kl_RX11_272 kv_X11_clears kx_X11_clears kd_X11_clears ⟨Nat.le_of_ble_eq_true rfl, Nat.le_of_ble_eq_true rfl⟩) (ty_preE (wr := []) (wc := ([(rf_MO mo mw ma mf m0 m1 mu mv u0 u1 iz th mb mn mpt mbg mwr mwk mlf men), (rf_RW ct 0 mw 958 f1_124)] ++ ws_123)) (ci := 11) (q0 := 0) hP hK hD hS hA hX rfl rfl) rfl rfl hl.1 rfl (lv_room (Nat.le_of_ble_eq_true rfl)) dX11_ends_110 ⟨Nat.le_of_ble_eq_true rfl, Nat.le_of_ble_eq_true rfl⟩) hP hD hS hA (fun u H locs hw_130 hP hD hS => ?_)
            obtain ⟨ws_131, f1_132⟩ := u
            obtain ⟨hT, hp_133⟩ := hw_130
            have hp_133 : rf_R G cx f1_132 ∧ rf_sm f1_124 f1_132 := hp_133
            have hR_134 := hp_133.1
            have hM_135 := rf_smt hM_127 hp_133.2
            have ho_136 := rf_ons hR_126 hc hp_133.2 ho_128
            have hP : va_P D vwCl ([(rf_MO mo mw ma mf m0 m1 mu mv u0 u1 iz th mb mn mpt mbg mwr mwk mlf men), (rf_RW ct 0 mw 958 f1_132)] ++ ws_131) H := hP
            have hD : va_D A ([(rf_MO mo mw ma mf m0 m1 mu mv u0 u1 iz th mb mn mpt mbg mwr mwk mlf men), (rf_RW ct 0 mw 958 f1_132)] ++ ws_131) := hD
            exact W.vret hx hb hr (fun t ht hW => ⟨⟨(ws_131, f1_132), rfl, ⟨hT, ⟨hR_134, hM_135⟩⟩, by rw [ht]; exact hP, by rw [hAe]; exact hD⟩, hS.F ht⟩) hS.2.2 dX11_ends_113
          · refine lv_iconst (v := 1) hx hb dX11_ends_70 (by decide) ?_
            refine lv_goto (tgt := 75) hx hb dX11_ends_71 (by decide) ?_
            refine lv_istore_n (lv' := [(3, .int 1), (2, .int (rf_st3 f p1 0)), (0, .ref mo), (1, .int p1)]) hx hb dX11_ends_75 rfl hl (by decide) rfl (fun ls hl => ?_)
            refine lv_aload_n hx hb dX11_ends_76 rfl (lv_at hl 2 rfl) ?_
            refine lv_iload_n hx hb dX11_ends_77 rfl (lv_at hl 3 rfl) ?_
            refine lv_iload_n hx hb dX11_ends_78 rfl (lv_at hl 0 rfl) ?_
            refine ty_kv (wr := []) (wc := ([(rf_MO mo mw ma mf m0 m1 mu mv u0 u1 iz th mb mn mpt mbg mwr mwk mlf men), (rf_RW ct 0 mw 958 f1_88)] ++ ws_119)) (va_runV (As := [.int p1, .int 1]) (rest := []) ⟨hx, hb, hml, hown, hts⟩ (m_X11_records l D ct S ws_119 ph xx mo mw ma mf m0 m1 mu mv u0 u1 iz mb th mn mpt mbg mwr mwk mlf men f1_88 G cx p1 (1 : Int32) _ hT h_mu h_mv h_u0 h_u1 hph hy1 hR_90 hc) (cm_V 2 hts kc_X11_records ki_RX11 kl_RX11_268 kv_X11_records kx_X11_records kd_X11_records ⟨Nat.le_of_ble_eq_true rfl, Nat.le_of_ble_eq_true rfl⟩) (ty_preE (wr := []) (wc := ([(rf_MO mo mw ma mf m0 m1 mu mv u0 u1 iz th mb mn mpt mbg mwr mwk mlf men), (rf_RW ct 0 mw 958 f1_88)] ++ ws_119)) (ci := 11) (q0 := 0) hP hK hD hS hA hX rfl rfl) rfl rfl hl.1 rfl (lv_room (Nat.le_of_ble_eq_true rfl)) dX11_ends_79 ⟨Nat.le_of_ble_eq_true rfl, Nat.le_of_ble_eq_true rfl⟩) hP hD hS hA (fun u H locs hw_138 hP hD hS => ?_)
            obtain ⟨ws_139, f1_140⟩ := u
            obtain ⟨hT, hp_141⟩ := hw_138
            have hp_141 : rf_R G cx f1_140 ∧ rf_sm f1_88 f1_140 := hp_141
            have hR_142 := hp_141.1
            have hM_143 := rf_smt hM_91 hp_141.2
            have ho_144 := rf_ons hR_90 hc hp_141.2 ho_92
            have hP : va_P D vwCl ([(rf_MO mo mw ma mf m0 m1 mu mv u0 u1 iz th mb mn mpt mbg mwr mwk mlf men), (rf_RW ct 0 mw 958 f1_140)] ++ ws_139) H := hP
            have hD : va_D A ([(rf_MO mo mw ma mf m0 m1 mu mv u0 u1 iz th mb mn mpt mbg mwr mwk mlf men), (rf_RW ct 0 mw 958 f1_140)] ++ ws_139) := hD
            refine lv_iload_n hx hb dX11_ends_82 rfl (lv_at hl 0 rfl) ?_
            refine lv_if_eq (tgt := 108) hx hb dX11_ends_83 (by decide) (fun hc => absurd hc (by decide)) (fun _ => ?_)
            refine lv_aload_n hx hb dX11_ends_86 rfl (lv_at hl 2 rfl) ?_
            refine lv_iload_n hx hb dX11_ends_87 rfl (lv_at hl 3 rfl) ?_
            refine lv_bipush (v := 20) hx hb dX11_ends_88 (by decide) ?_
            refine lv_aload_n hx hb dX11_ends_90 rfl (lv_at hl 2 rfl) ?_
            refine lv_iload_n hx hb dX11_ends_91 rfl (lv_at hl 3 rfl) ?_
            refine lv_iconst (v := 1) hx hb dX11_ends_92 (by decide) ?_
            have hP : va_P D vwCl ([(rf_RW ct 0 mw 958 f1_140), (rf_MO mo mw ma mf m0 m1 mu mv u0 u1 iz th mb mn mpt mbg mwr mwk mlf men)] ++ ws_139) H := ty_permP hP (ty_ordp (E := [(rf_MO mo mw ma mf m0 m1 mu mv u0 u1 iz th mb mn mpt mbg mwr mwk mlf men), (rf_RW ct 0 mw 958 f1_140)]) (E2 := [(rf_RW ct 0 mw 958 f1_140), (rf_MO mo mw ma mf m0 m1 mu mv u0 u1 iz th mb mn mpt mbg mwr mwk mlf men)]) (n := 2) [1, 0] rfl rfl (by decide))
            have hD : va_D A ([(rf_RW ct 0 mw 958 f1_140), (rf_MO mo mw ma mf m0 m1 mu mv u0 u1 iz th mb mn mpt mbg mwr mwk mlf men)] ++ ws_139) := ty_permD hD (ty_ordp (E := [(rf_MO mo mw ma mf m0 m1 mu mv u0 u1 iz th mb mn mpt mbg mwr mwk mlf men), (rf_RW ct 0 mw 958 f1_140)]) (E2 := [(rf_RW ct 0 mw 958 f1_140), (rf_MO mo mw ma mf m0 m1 mu mv u0 u1 iz th mb mn mpt mbg mwr mwk mlf men)]) (n := 2) [1, 0] rfl rfl (by decide))
            refine ty_kl (wr := [(rf_RW ct 0 mw 958 f1_140)]) (wc := ([(rf_MO mo mw ma mf m0 m1 mu mv u0 u1 iz th mb mn mpt mbg mwr mwk mlf men)] ++ ws_139)) (va_runV (As := [.int p1, .int 1]) (rest := [.int 20, .int p1, .ref mo]) ⟨hx, hb, hml, hown, hts⟩ (m_X11_sum l D ct S ws_139 ph xx mo mw ma mf m0 m1 mu mv u0 u1 iz mb th mn mpt mbg mwr mwk mlf men p1 (1 : Int32) _ hT h_mu h_mv h_u0 h_u1 hph hy1 (rf_c6 hR_142 hc) (by decide)) (cm_V 2 hts kc_X11_sum ki_RX11 kl_RX11_261 kv_X11_sum kx_X11_sum kd_X11_sum ⟨Nat.le_of_ble_eq_true rfl, Nat.le_of_ble_eq_true rfl⟩) (ty_preE (wr := [(rf_RW ct 0 mw 958 f1_140)]) (wc := ([(rf_MO mo mw ma mf m0 m1 mu mv u0 u1 iz th mb mn mpt mbg mwr mwk mlf men)] ++ ws_139)) (ci := 11) (q0 := 1) hP hK hD hS hA hX rfl rfl) rfl rfl hl.1 rfl (lv_room (Nat.le_of_ble_eq_true rfl)) dX11_ends_93 ⟨Nat.le_of_ble_eq_true rfl, Nat.le_of_ble_eq_true rfl⟩) hP hD hS hA (fun r_145 u H locs hw_146 hP hD hS => ?_)
            obtain ⟨ws_147, rfl⟩ : ∃ z, z = u := ⟨_, rfl⟩
            have hT := hw_146
            have hP : va_P D vwCl ([(rf_RW ct 0 mw 958 f1_140), (rf_MO mo mw ma mf m0 m1 mu mv u0 u1 iz th mb mn mpt mbg mwr mwk mlf men)] ++ ws_147) H := hP
            have hD : va_D A ([(rf_RW ct 0 mw 958 f1_140), (rf_MO mo mw ma mf m0 m1 mu mv u0 u1 iz th mb mn mpt mbg mwr mwk mlf men)] ++ ws_147) := hD
            refine lv_aload_n hx hb dX11_ends_96 rfl (lv_at hl 2 rfl) ?_
            refine lv_iload_n hx hb dX11_ends_97 rfl (lv_at hl 3 rfl) ?_
            refine lv_bipush (v := 6) hx hb dX11_ends_98 (by decide) ?_
            refine ty_kl (wr := [(rf_RW ct 0 mw 958 f1_140)]) (wc := ([(rf_MO mo mw ma mf m0 m1 mu mv u0 u1 iz th mb mn mpt mbg mwr mwk mlf men)] ++ ws_147)) (va_runV (As := [.int p1, .int 6]) (rest := [.long r_145, .int 20, .int p1, .ref mo]) ⟨hx, hb, hml, hown, hts⟩ (m_X11_sum l D ct S ws_147 ph xx mo mw ma mf m0 m1 mu mv u0 u1 iz mb th mn mpt mbg mwr mwk mlf men p1 (6 : Int32) _ hT h_mu h_mv h_u0 h_u1 hph hy1 (rf_c6 hR_142 hc) (by decide)) (cm_V 2 hts kc_X11_sum ki_RX11 kl_RX11_261 kv_X11_sum kx_X11_sum kd_X11_sum ⟨Nat.le_of_ble_eq_true rfl, Nat.le_of_ble_eq_true rfl⟩) (ty_preE (wr := [(rf_RW ct 0 mw 958 f1_140)]) (wc := ([(rf_MO mo mw ma mf m0 m1 mu mv u0 u1 iz th mb mn mpt mbg mwr mwk mlf men)] ++ ws_147)) (ci := 11) (q0 := 1) hP hK hD hS hA hX rfl rfl) rfl rfl hl.1 rfl (lv_room (Nat.le_of_ble_eq_true rfl)) dX11_ends_100 ⟨Nat.le_of_ble_eq_true rfl, Nat.le_of_ble_eq_true rfl⟩) hP hD hS hA (fun r_148 u H locs hw_149 hP hD hS => ?_)
            obtain ⟨ws_150, rfl⟩ : ∃ z, z = u := ⟨_, rfl⟩
            have hT := hw_149
            have hP : va_P D vwCl ([(rf_RW ct 0 mw 958 f1_140), (rf_MO mo mw ma mf m0 m1 mu mv u0 u1 iz th mb mn mpt mbg mwr mwk mlf men)] ++ ws_150) H := hP
            have hD : va_D A ([(rf_RW ct 0 mw 958 f1_140), (rf_MO mo mw ma mf m0 m1 mu mv u0 u1 iz th mb mn mpt mbg mwr mwk mlf men)] ++ ws_150) := hD
            refine lv_lsub hx hb dX11_ends_103 ?_
            refine lv_topl (fun x_151 _ => ?_)
            refine lv_l2i hx hb dX11_ends_104 rfl ?_
            refine lv_topi (fun x_152 _ => ?_)
            have hP : va_P D vwCl ([(rf_MO mo mw ma mf m0 m1 mu mv u0 u1 iz th mb mn mpt mbg mwr mwk mlf men), (rf_RW ct 0 mw 958 f1_140)] ++ ws_150) H := ty_permP hP (ty_ordp (E := [(rf_RW ct 0 mw 958 f1_140), (rf_MO mo mw ma mf m0 m1 mu mv u0 u1 iz th mb mn mpt mbg mwr mwk mlf men)]) (E2 := [(rf_MO mo mw ma mf m0 m1 mu mv u0 u1 iz th mb mn mpt mbg mwr mwk mlf men), (rf_RW ct 0 mw 958 f1_140)]) (n := 2) [1, 0] rfl rfl (by decide))
            have hD : va_D A ([(rf_MO mo mw ma mf m0 m1 mu mv u0 u1 iz th mb mn mpt mbg mwr mwk mlf men), (rf_RW ct 0 mw 958 f1_140)] ++ ws_150) := ty_permD hD (ty_ordp (E := [(rf_RW ct 0 mw 958 f1_140), (rf_MO mo mw ma mf m0 m1 mu mv u0 u1 iz th mb mn mpt mbg mwr mwk mlf men)]) (E2 := [(rf_MO mo mw ma mf m0 m1 mu mv u0 u1 iz th mb mn mpt mbg mwr mwk mlf men), (rf_RW ct 0 mw 958 f1_140)]) (n := 2) [1, 0] rfl rfl (by decide))
            refine ty_kv (wr := []) (wc := ([(rf_MO mo mw ma mf m0 m1 mu mv u0 u1 iz th mb mn mpt mbg mwr mwk mlf men), (rf_RW ct 0 mw 958 f1_140)] ++ ws_150)) (va_runV (As := [.int p1, .int 20, .int x_152]) (rest := []) ⟨hx, hb, hml, hown, hts⟩ (m_put_20 l D ct S ws_150 ph xx mo mw ma mf m0 m1 mu mv u0 u1 iz mb th mn mpt mbg mwr mwk mlf men f1_140 G cx p1 x_152 _ hT h_mu h_mv h_u0 h_u1 hph hy1 hR_142 hc) (cm_V 3 hts kc_X11_put ki_RX11 kl_RX11_234 kv_X11_put kx_X11_put kd_X11_put ⟨Nat.le_of_ble_eq_true rfl, Nat.le_of_ble_eq_true rfl⟩) (ty_preE (wr := []) (wc := ([(rf_MO mo mw ma mf m0 m1 mu mv u0 u1 iz th mb mn mpt mbg mwr mwk mlf men), (rf_RW ct 0 mw 958 f1_140)] ++ ws_150)) (ci := 11) (q0 := 0) hP hK hD hS hA hX rfl rfl) rfl rfl hl.1 rfl (lv_room (Nat.le_of_ble_eq_true rfl)) dX11_ends_105 ⟨Nat.le_of_ble_eq_true rfl, Nat.le_of_ble_eq_true rfl⟩) hP hD hS hA (fun u H locs hw_154 hP hD hS => ?_)
            obtain ⟨ws_155, f1_156⟩ := u
            obtain ⟨hT, hp_157⟩ := hw_154
            have hp_157 : rf_R G cx f1_156 ∧ rf_sm f1_140 f1_156 ∧ f1_156 = upd f1_140 (244 + 54 * p1.toInt.toNat + 20) x_152 := hp_157
            have hR_158 := hp_157.1
            have hM_159 := rf_smt hM_143 hp_157.2.1
            have ho_160 := rf_ons hR_142 hc hp_157.2.1 ho_144
            have hP : va_P D vwCl ([(rf_MO mo mw ma mf m0 m1 mu mv u0 u1 iz th mb mn mpt mbg mwr mwk mlf men), (rf_RW ct 0 mw 958 f1_156)] ++ ws_155) H := hP
            have hD : va_D A ([(rf_MO mo mw ma mf m0 m1 mu mv u0 u1 iz th mb mn mpt mbg mwr mwk mlf men), (rf_RW ct 0 mw 958 f1_156)] ++ ws_155) := hD
            refine lv_aload_n hx hb dX11_ends_108 rfl (lv_at hl 2 rfl) ?_
            refine lv_iload_n hx hb dX11_ends_109 rfl (lv_at hl 3 rfl) ?_
            refine ty_kv (wr := []) (wc := ([(rf_MO mo mw ma mf m0 m1 mu mv u0 u1 iz th mb mn mpt mbg mwr mwk mlf men), (rf_RW ct 0 mw 958 f1_156)] ++ ws_155)) (va_runV (As := [.int p1]) (rest := []) ⟨hx, hb, hml, hown, hts⟩ (m_X11_clears l D ct S ws_155 ph xx mo mw ma mf m0 m1 mu mv u0 u1 iz mb th mn mpt mbg mwr mwk mlf men f1_156 G cx p1 _ hT h_mu h_mv h_u0 h_u1 hph hy1 hy11 hR_158 hc) (cm_V 1 hts kc_X11_clears ki_RX11 kl_RX11_272 kv_X11_clears kx_X11_clears kd_X11_clears ⟨Nat.le_of_ble_eq_true rfl, Nat.le_of_ble_eq_true rfl⟩) (ty_preE (wr := []) (wc := ([(rf_MO mo mw ma mf m0 m1 mu mv u0 u1 iz th mb mn mpt mbg mwr mwk mlf men), (rf_RW ct 0 mw 958 f1_156)] ++ ws_155)) (ci := 11) (q0 := 0) hP hK hD hS hA hX rfl rfl) rfl rfl hl.1 rfl (lv_room (Nat.le_of_ble_eq_true rfl)) dX11_ends_110 ⟨Nat.le_of_ble_eq_true rfl, Nat.le_of_ble_eq_true rfl⟩) hP hD hS hA (fun u H locs hw_162 hP hD hS => ?_)
            obtain ⟨ws_163, f1_164⟩ := u
            obtain ⟨hT, hp_165⟩ := hw_162
            have hp_165 : rf_R G cx f1_164 ∧ rf_sm f1_156 f1_164 := hp_165
            have hR_166 := hp_165.1
            have hM_167 := rf_smt hM_159 hp_165.2
            have ho_168 := rf_ons hR_158 hc hp_165.2 ho_160
            have hP : va_P D vwCl ([(rf_MO mo mw ma mf m0 m1 mu mv u0 u1 iz th mb mn mpt mbg mwr mwk mlf men), (rf_RW ct 0 mw 958 f1_164)] ++ ws_163) H := hP
            have hD : va_D A ([(rf_MO mo mw ma mf m0 m1 mu mv u0 u1 iz th mb mn mpt mbg mwr mwk mlf men), (rf_RW ct 0 mw 958 f1_164)] ++ ws_163) := hD
            exact W.vret hx hb hr (fun t ht hW => ⟨⟨(ws_163, f1_164), rfl, ⟨hT, ⟨hR_166, hM_167⟩⟩, by rw [ht]; exact hP, by rw [hAe]; exact hD⟩, hS.F ht⟩) hS.2.2 dX11_ends_113
      · exact W.vret hx hb hr (fun t ht hW => ⟨⟨(ws_87, f1_88), rfl, ⟨hT, ⟨hR_90, hM_91⟩⟩, by rw [ht]; exact hP, by rw [hAe]; exact hD⟩, hS.F ht⟩) hS.2.2 dX11_ends_43
  · refine lv_aload_n hx hb dX11_ends_12 rfl (lv_at hl 1 rfl) ?_
    refine lv_iload_n hx hb dX11_ends_13 rfl (lv_at hl 2 rfl) ?_
    refine lv_bipush (v := 21) hx hb dX11_ends_14 (by decide) ?_
    refine lv_iconst (v := 1) hx hb dX11_ends_16 (by decide) ?_
    refine ty_kv (wr := []) (wc := ([(rf_MO mo mw ma mf m0 m1 mu mv u0 u1 iz th mb mn mpt mbg mwr mwk mlf men), (rf_RW ct 0 mw 958 f)] ++ ws_3)) (va_runV (As := [.int p1, .int 21, .int 1]) (rest := []) ⟨hx, hb, hml, hown, hts⟩ (m_put_21 l D ct S ws_3 ph xx mo mw ma mf m0 m1 mu mv u0 u1 iz mb th mn mpt mbg mwr mwk mlf men f G cx p1 (1 : Int32) _ hT h_mu h_mv h_u0 h_u1 hph hy1 hR hc) (cm_V 3 hts kc_X11_put ki_RX11 kl_RX11_234 kv_X11_put kx_X11_put kd_X11_put ⟨Nat.le_of_ble_eq_true rfl, Nat.le_of_ble_eq_true rfl⟩) (ty_preE (wr := []) (wc := ([(rf_MO mo mw ma mf m0 m1 mu mv u0 u1 iz th mb mn mpt mbg mwr mwk mlf men), (rf_RW ct 0 mw 958 f)] ++ ws_3)) (ci := 11) (q0 := 0) hP hK hD hS hA hX rfl rfl) rfl rfl hl.1 rfl (lv_room (Nat.le_of_ble_eq_true rfl)) dX11_ends_17 ⟨Nat.le_of_ble_eq_true rfl, Nat.le_of_ble_eq_true rfl⟩) hP hD hS hA (fun u H locs hw_170 hP hD hS => ?_)
    obtain ⟨ws_171, f1_172⟩ := u
    obtain ⟨hT, hp_173⟩ := hw_170
    have hp_173 : rf_R G cx f1_172 ∧ rf_sm f f1_172 ∧ f1_172 = upd f (244 + 54 * p1.toInt.toNat + 21) (1 : Int32) := hp_173
    have hR_174 := hp_173.1
    have hM_175 := rf_smt (rf_smr f) hp_173.2.1
    have ho_176 := rf_ons hR hc hp_173.2.1 ho
    have hP : va_P D vwCl ([(rf_MO mo mw ma mf m0 m1 mu mv u0 u1 iz th mb mn mpt mbg mwr mwk mlf men), (rf_RW ct 0 mw 958 f1_172)] ++ ws_171) H := hP
    have hD : va_D A ([(rf_MO mo mw ma mf m0 m1 mu mv u0 u1 iz th mb mn mpt mbg mwr mwk mlf men), (rf_RW ct 0 mw 958 f1_172)] ++ ws_171) := hD
    refine lv_iload_n hx hb dX11_ends_20 rfl (lv_at hl 0 rfl) ?_
    refine lv_iconst (v := 3) hx hb dX11_ends_21 (by decide) ?_
    refine lv_icmp_ne (tgt := 38) hx hb dX11_ends_22 (by decide) (fun hc_177 => ?_) (fun hc_177 => ?_)
    · refine lv_iload_n hx hb dX11_ends_38 rfl (lv_at hl 0 rfl) ?_
      refine lv_iconst (v := 2) hx hb dX11_ends_39 (by decide) ?_
      refine lv_icmp_eq (tgt := 44) hx hb dX11_ends_40 (by decide) (fun hc_178 => ?_) (fun hc_178 => ?_)
      · refine lv_aload_n hx hb dX11_ends_44 rfl (lv_at hl 1 rfl) ?_
        refine lv_iload_n hx hb dX11_ends_45 rfl (lv_at hl 2 rfl) ?_
        refine lv_bipush (v := 21) hx hb dX11_ends_46 (by decide) ?_
        refine ty_ki (wr := []) (wc := ([(rf_MO mo mw ma mf m0 m1 mu mv u0 u1 iz th mb mn mpt mbg mwr mwk mlf men), (rf_RW ct 0 mw 958 f1_172)] ++ ws_171)) (va_runV (As := [.int p1, .int 21]) (rest := []) ⟨hx, hb, hml, hown, hts⟩ (m_of_21 l D ct S ws_171 ph xx mo mw ma mf m0 m1 mu mv u0 u1 iz mb th mn mpt mbg mwr mwk mlf men f1_172 G cx p1 _ hT h_mu h_mv h_u0 h_u1 hph hy1 hR_174 hc) (cm_V 2 hts kc_X11_of ki_RX11 kl_RX11_209 kv_X11_of kx_X11_of kd_X11_of ⟨Nat.le_of_ble_eq_true rfl, Nat.le_of_ble_eq_true rfl⟩) (ty_preE (wr := []) (wc := ([(rf_MO mo mw ma mf m0 m1 mu mv u0 u1 iz th mb mn mpt mbg mwr mwk mlf men), (rf_RW ct 0 mw 958 f1_172)] ++ ws_171)) (ci := 11) (q0 := 0) hP hK hD hS hA hX rfl rfl) rfl rfl hl.1 rfl (lv_room (Nat.le_of_ble_eq_true rfl)) dX11_ends_48 ⟨Nat.le_of_ble_eq_true rfl, Nat.le_of_ble_eq_true rfl⟩) hP hD hS hA (fun r_179 u H locs hw_180 hP hD hS => ?_)
        obtain ⟨ws_181, rfl⟩ : ∃ z, z = u := ⟨_, rfl⟩
        obtain ⟨hT, rfl⟩ := hw_180
        have hP : va_P D vwCl ([(rf_MO mo mw ma mf m0 m1 mu mv u0 u1 iz th mb mn mpt mbg mwr mwk mlf men), (rf_RW ct 0 mw 958 f1_172)] ++ ws_181) H := hP
        have hD : va_D A ([(rf_MO mo mw ma mf m0 m1 mu mv u0 u1 iz th mb mn mpt mbg mwr mwk mlf men), (rf_RW ct 0 mw 958 f1_172)] ++ ws_181) := hD
        refine lv_iconst (v := 1) hx hb dX11_ends_51 (by decide) ?_
        refine lv_icmp_ne (tgt := 74) hx hb dX11_ends_52 (by decide) (fun hc_182 => ?_) (fun hc_182 => ?_)
        · refine lv_iconst (v := 0) hx hb dX11_ends_74 (by decide) ?_
          refine lv_istore_n (lv' := [(3, .int 0), (2, .int (rf_st3 f p1 0)), (0, .ref mo), (1, .int p1)]) hx hb dX11_ends_75 rfl hl (by decide) rfl (fun ls hl => ?_)
          refine lv_aload_n hx hb dX11_ends_76 rfl (lv_at hl 2 rfl) ?_
          refine lv_iload_n hx hb dX11_ends_77 rfl (lv_at hl 3 rfl) ?_
          refine lv_iload_n hx hb dX11_ends_78 rfl (lv_at hl 0 rfl) ?_
          refine ty_kv (wr := []) (wc := ([(rf_MO mo mw ma mf m0 m1 mu mv u0 u1 iz th mb mn mpt mbg mwr mwk mlf men), (rf_RW ct 0 mw 958 f1_172)] ++ ws_181)) (va_runV (As := [.int p1, .int 0]) (rest := []) ⟨hx, hb, hml, hown, hts⟩ (m_X11_records l D ct S ws_181 ph xx mo mw ma mf m0 m1 mu mv u0 u1 iz mb th mn mpt mbg mwr mwk mlf men f1_172 G cx p1 (0 : Int32) _ hT h_mu h_mv h_u0 h_u1 hph hy1 hR_174 hc) (cm_V 2 hts kc_X11_records ki_RX11 kl_RX11_268 kv_X11_records kx_X11_records kd_X11_records ⟨Nat.le_of_ble_eq_true rfl, Nat.le_of_ble_eq_true rfl⟩) (ty_preE (wr := []) (wc := ([(rf_MO mo mw ma mf m0 m1 mu mv u0 u1 iz th mb mn mpt mbg mwr mwk mlf men), (rf_RW ct 0 mw 958 f1_172)] ++ ws_181)) (ci := 11) (q0 := 0) hP hK hD hS hA hX rfl rfl) rfl rfl hl.1 rfl (lv_room (Nat.le_of_ble_eq_true rfl)) dX11_ends_79 ⟨Nat.le_of_ble_eq_true rfl, Nat.le_of_ble_eq_true rfl⟩) hP hD hS hA (fun u H locs hw_184 hP hD hS => ?_)
          obtain ⟨ws_185, f1_186⟩ := u
          obtain ⟨hT, hp_187⟩ := hw_184
          have hp_187 : rf_R G cx f1_186 ∧ rf_sm f1_172 f1_186 := hp_187
          have hR_188 := hp_187.1
          have hM_189 := rf_smt hM_175 hp_187.2
          have ho_190 := rf_ons hR_174 hc hp_187.2 ho_176
          have hP : va_P D vwCl ([(rf_MO mo mw ma mf m0 m1 mu mv u0 u1 iz th mb mn mpt mbg mwr mwk mlf men), (rf_RW ct 0 mw 958 f1_186)] ++ ws_185) H := hP
          have hD : va_D A ([(rf_MO mo mw ma mf m0 m1 mu mv u0 u1 iz th mb mn mpt mbg mwr mwk mlf men), (rf_RW ct 0 mw 958 f1_186)] ++ ws_185) := hD
          refine lv_iload_n hx hb dX11_ends_82 rfl (lv_at hl 0 rfl) ?_
          refine lv_if_eq (tgt := 108) hx hb dX11_ends_83 (by decide) (fun _ => ?_) (fun hc => absurd (by decide) hc)
          refine lv_aload_n hx hb dX11_ends_108 rfl (lv_at hl 2 rfl) ?_
          refine lv_iload_n hx hb dX11_ends_109 rfl (lv_at hl 3 rfl) ?_
          refine ty_kv (wr := []) (wc := ([(rf_MO mo mw ma mf m0 m1 mu mv u0 u1 iz th mb mn mpt mbg mwr mwk mlf men), (rf_RW ct 0 mw 958 f1_186)] ++ ws_185)) (va_runV (As := [.int p1]) (rest := []) ⟨hx, hb, hml, hown, hts⟩ (m_X11_clears l D ct S ws_185 ph xx mo mw ma mf m0 m1 mu mv u0 u1 iz mb th mn mpt mbg mwr mwk mlf men f1_186 G cx p1 _ hT h_mu h_mv h_u0 h_u1 hph hy1 hy11 hR_188 hc) (cm_V 1 hts kc_X11_clears ki_RX11 kl_RX11_272 kv_X11_clears kx_X11_clears kd_X11_clears ⟨Nat.le_of_ble_eq_true rfl, Nat.le_of_ble_eq_true rfl⟩) (ty_preE (wr := []) (wc := ([(rf_MO mo mw ma mf m0 m1 mu mv u0 u1 iz th mb mn mpt mbg mwr mwk mlf men), (rf_RW ct 0 mw 958 f1_186)] ++ ws_185)) (ci := 11) (q0 := 0) hP hK hD hS hA hX rfl rfl) rfl rfl hl.1 rfl (lv_room (Nat.le_of_ble_eq_true rfl)) dX11_ends_110 ⟨Nat.le_of_ble_eq_true rfl, Nat.le_of_ble_eq_true rfl⟩) hP hD hS hA (fun u H locs hw_192 hP hD hS => ?_)
          obtain ⟨ws_193, f1_194⟩ := u
          obtain ⟨hT, hp_195⟩ := hw_192
          have hp_195 : rf_R G cx f1_194 ∧ rf_sm f1_186 f1_194 := hp_195
          have hR_196 := hp_195.1
          have hM_197 := rf_smt hM_189 hp_195.2
          have ho_198 := rf_ons hR_188 hc hp_195.2 ho_190
          have hP : va_P D vwCl ([(rf_MO mo mw ma mf m0 m1 mu mv u0 u1 iz th mb mn mpt mbg mwr mwk mlf men), (rf_RW ct 0 mw 958 f1_194)] ++ ws_193) H := hP
          have hD : va_D A ([(rf_MO mo mw ma mf m0 m1 mu mv u0 u1 iz th mb mn mpt mbg mwr mwk mlf men), (rf_RW ct 0 mw 958 f1_194)] ++ ws_193) := hD
          exact W.vret hx hb hr (fun t ht hW => ⟨⟨(ws_193, f1_194), rfl, ⟨hT, ⟨hR_196, hM_197⟩⟩, by rw [ht]; exact hP, by rw [hAe]; exact hD⟩, hS.F ht⟩) hS.2.2 dX11_ends_113
        · refine lv_aload_n hx hb dX11_ends_55 rfl (lv_at hl 1 rfl) ?_
          refine lv_iload_n hx hb dX11_ends_56 rfl (lv_at hl 2 rfl) ?_
          refine lv_iconst (v := 5) hx hb dX11_ends_57 (by decide) ?_
          refine ty_ki (wr := []) (wc := ([(rf_MO mo mw ma mf m0 m1 mu mv u0 u1 iz th mb mn mpt mbg mwr mwk mlf men), (rf_RW ct 0 mw 958 f1_172)] ++ ws_181)) (va_runV (As := [.int p1, .int 5]) (rest := []) ⟨hx, hb, hml, hown, hts⟩ (m_of_5 l D ct S ws_181 ph xx mo mw ma mf m0 m1 mu mv u0 u1 iz mb th mn mpt mbg mwr mwk mlf men f1_172 G cx p1 _ hT h_mu h_mv h_u0 h_u1 hph hy1 hR_174 hc) (cm_V 2 hts kc_X11_of ki_RX11 kl_RX11_209 kv_X11_of kx_X11_of kd_X11_of ⟨Nat.le_of_ble_eq_true rfl, Nat.le_of_ble_eq_true rfl⟩) (ty_preE (wr := []) (wc := ([(rf_MO mo mw ma mf m0 m1 mu mv u0 u1 iz th mb mn mpt mbg mwr mwk mlf men), (rf_RW ct 0 mw 958 f1_172)] ++ ws_181)) (ci := 11) (q0 := 0) hP hK hD hS hA hX rfl rfl) rfl rfl hl.1 rfl (lv_room (Nat.le_of_ble_eq_true rfl)) dX11_ends_58 ⟨Nat.le_of_ble_eq_true rfl, Nat.le_of_ble_eq_true rfl⟩) hP hD hS hA (fun r_199 u H locs hw_200 hP hD hS => ?_)
          obtain ⟨ws_201, rfl⟩ : ∃ z, z = u := ⟨_, rfl⟩
          obtain ⟨hT, rfl⟩ := hw_200
          have hP : va_P D vwCl ([(rf_MO mo mw ma mf m0 m1 mu mv u0 u1 iz th mb mn mpt mbg mwr mwk mlf men), (rf_RW ct 0 mw 958 f1_172)] ++ ws_201) H := hP
          have hD : va_D A ([(rf_MO mo mw ma mf m0 m1 mu mv u0 u1 iz th mb mn mpt mbg mwr mwk mlf men), (rf_RW ct 0 mw 958 f1_172)] ++ ws_201) := hD
          refine lv_aload_n hx hb dX11_ends_61 rfl (lv_at hl 1 rfl) ?_
          refine lv_iload_n hx hb dX11_ends_62 rfl (lv_at hl 2 rfl) ?_
          refine lv_iconst (v := 2) hx hb dX11_ends_63 (by decide) ?_
          refine ty_ki (wr := []) (wc := ([(rf_MO mo mw ma mf m0 m1 mu mv u0 u1 iz th mb mn mpt mbg mwr mwk mlf men), (rf_RW ct 0 mw 958 f1_172)] ++ ws_201)) (va_runV (As := [.int p1, .int 2]) (rest := [.int (rf_of f1_172 p1 5)]) ⟨hx, hb, hml, hown, hts⟩ (m_step_2 l D ct S ws_201 ph xx mo mw ma mf m0 m1 mu mv u0 u1 iz mb th mn mpt mbg mwr mwk mlf men f1_172 G cx p1 _ hT h_mu h_mv h_u0 h_u1 hph hy1 hR_174 hc ho_176) (cm_V 2 hts kc_X11_step ki_RX11 kl_RX11_228 kv_X11_step kx_X11_step kd_X11_step ⟨Nat.le_of_ble_eq_true rfl, Nat.le_of_ble_eq_true rfl⟩) (ty_preE (wr := []) (wc := ([(rf_MO mo mw ma mf m0 m1 mu mv u0 u1 iz th mb mn mpt mbg mwr mwk mlf men), (rf_RW ct 0 mw 958 f1_172)] ++ ws_201)) (ci := 11) (q0 := 0) hP hK hD hS hA hX rfl rfl) rfl rfl hl.1 rfl (lv_room (Nat.le_of_ble_eq_true rfl)) dX11_ends_64 ⟨Nat.le_of_ble_eq_true rfl, Nat.le_of_ble_eq_true rfl⟩) hP hD hS hA (fun r_202 u H locs hw_203 hP hD hS => ?_)
          obtain ⟨ws_204, rfl⟩ : ∃ z, z = u := ⟨_, rfl⟩
          obtain ⟨hT, rfl⟩ := hw_203
          have hP : va_P D vwCl ([(rf_MO mo mw ma mf m0 m1 mu mv u0 u1 iz th mb mn mpt mbg mwr mwk mlf men), (rf_RW ct 0 mw 958 f1_172)] ++ ws_204) H := hP
          have hD : va_D A ([(rf_MO mo mw ma mf m0 m1 mu mv u0 u1 iz th mb mn mpt mbg mwr mwk mlf men), (rf_RW ct 0 mw 958 f1_172)] ++ ws_204) := hD
          refine lv_icmp_gt (tgt := 74) hx hb dX11_ends_67 (by decide) (fun hc_205 => ?_) (fun hc_205 => ?_)
          · refine lv_iconst (v := 0) hx hb dX11_ends_74 (by decide) ?_
            refine lv_istore_n (lv' := [(3, .int 0), (2, .int (rf_st3 f p1 0)), (0, .ref mo), (1, .int p1)]) hx hb dX11_ends_75 rfl hl (by decide) rfl (fun ls hl => ?_)
            refine lv_aload_n hx hb dX11_ends_76 rfl (lv_at hl 2 rfl) ?_
            refine lv_iload_n hx hb dX11_ends_77 rfl (lv_at hl 3 rfl) ?_
            refine lv_iload_n hx hb dX11_ends_78 rfl (lv_at hl 0 rfl) ?_
            refine ty_kv (wr := []) (wc := ([(rf_MO mo mw ma mf m0 m1 mu mv u0 u1 iz th mb mn mpt mbg mwr mwk mlf men), (rf_RW ct 0 mw 958 f1_172)] ++ ws_204)) (va_runV (As := [.int p1, .int 0]) (rest := []) ⟨hx, hb, hml, hown, hts⟩ (m_X11_records l D ct S ws_204 ph xx mo mw ma mf m0 m1 mu mv u0 u1 iz mb th mn mpt mbg mwr mwk mlf men f1_172 G cx p1 (0 : Int32) _ hT h_mu h_mv h_u0 h_u1 hph hy1 hR_174 hc) (cm_V 2 hts kc_X11_records ki_RX11 kl_RX11_268 kv_X11_records kx_X11_records kd_X11_records ⟨Nat.le_of_ble_eq_true rfl, Nat.le_of_ble_eq_true rfl⟩) (ty_preE (wr := []) (wc := ([(rf_MO mo mw ma mf m0 m1 mu mv u0 u1 iz th mb mn mpt mbg mwr mwk mlf men), (rf_RW ct 0 mw 958 f1_172)] ++ ws_204)) (ci := 11) (q0 := 0) hP hK hD hS hA hX rfl rfl) rfl rfl hl.1 rfl (lv_room (Nat.le_of_ble_eq_true rfl)) dX11_ends_79 ⟨Nat.le_of_ble_eq_true rfl, Nat.le_of_ble_eq_true rfl⟩) hP hD hS hA (fun u H locs hw_207 hP hD hS => ?_)
            obtain ⟨ws_208, f1_209⟩ := u
            obtain ⟨hT, hp_210⟩ := hw_207
            have hp_210 : rf_R G cx f1_209 ∧ rf_sm f1_172 f1_209 := hp_210
            have hR_211 := hp_210.1
            have hM_212 := rf_smt hM_175 hp_210.2
            have ho_213 := rf_ons hR_174 hc hp_210.2 ho_176
            have hP : va_P D vwCl ([(rf_MO mo mw ma mf m0 m1 mu mv u0 u1 iz th mb mn mpt mbg mwr mwk mlf men), (rf_RW ct 0 mw 958 f1_209)] ++ ws_208) H := hP
            have hD : va_D A ([(rf_MO mo mw ma mf m0 m1 mu mv u0 u1 iz th mb mn mpt mbg mwr mwk mlf men), (rf_RW ct 0 mw 958 f1_209)] ++ ws_208) := hD
            refine lv_iload_n hx hb dX11_ends_82 rfl (lv_at hl 0 rfl) ?_
            refine lv_if_eq (tgt := 108) hx hb dX11_ends_83 (by decide) (fun _ => ?_) (fun hc => absurd (by decide) hc)
            refine lv_aload_n hx hb dX11_ends_108 rfl (lv_at hl 2 rfl) ?_
            refine lv_iload_n hx hb dX11_ends_109 rfl (lv_at hl 3 rfl) ?_
            refine ty_kv (wr := []) (wc := ([(rf_MO mo mw ma mf m0 m1 mu mv u0 u1 iz th mb mn mpt mbg mwr mwk mlf men), (rf_RW ct 0 mw 958 f1_209)] ++ ws_208)) (va_runV (As := [.int p1]) (rest := []) ⟨hx, hb, hml, hown, hts⟩ (m_X11_clears l D ct S ws_208 ph xx mo mw ma mf m0 m1 mu mv u0 u1 iz mb th mn mpt mbg mwr mwk mlf men f1_209 G cx p1 _ hT h_mu h_mv h_u0 h_u1 hph hy1 hy11 hR_211 hc) (cm_V 1 hts kc_X11_clears ki_RX11 kl_RX11_272 kv_X11_clears kx_X11_clears kd_X11_clears ⟨Nat.le_of_ble_eq_true rfl, Nat.le_of_ble_eq_true rfl⟩) (ty_preE (wr := []) (wc := ([(rf_MO mo mw ma mf m0 m1 mu mv u0 u1 iz th mb mn mpt mbg mwr mwk mlf men), (rf_RW ct 0 mw 958 f1_209)] ++ ws_208)) (ci := 11) (q0 := 0) hP hK hD hS hA hX rfl rfl) rfl rfl hl.1 rfl (lv_room (Nat.le_of_ble_eq_true rfl)) dX11_ends_110 ⟨Nat.le_of_ble_eq_true rfl, Nat.le_of_ble_eq_true rfl⟩) hP hD hS hA (fun u H locs hw_215 hP hD hS => ?_)
            obtain ⟨ws_216, f1_217⟩ := u
            obtain ⟨hT, hp_218⟩ := hw_215
            have hp_218 : rf_R G cx f1_217 ∧ rf_sm f1_209 f1_217 := hp_218
            have hR_219 := hp_218.1
            have hM_220 := rf_smt hM_212 hp_218.2
            have ho_221 := rf_ons hR_211 hc hp_218.2 ho_213
            have hP : va_P D vwCl ([(rf_MO mo mw ma mf m0 m1 mu mv u0 u1 iz th mb mn mpt mbg mwr mwk mlf men), (rf_RW ct 0 mw 958 f1_217)] ++ ws_216) H := hP
            have hD : va_D A ([(rf_MO mo mw ma mf m0 m1 mu mv u0 u1 iz th mb mn mpt mbg mwr mwk mlf men), (rf_RW ct 0 mw 958 f1_217)] ++ ws_216) := hD
            exact W.vret hx hb hr (fun t ht hW => ⟨⟨(ws_216, f1_217), rfl, ⟨hT, ⟨hR_219, hM_220⟩⟩, by rw [ht]; exact hP, by rw [hAe]; exact hD⟩, hS.F ht⟩) hS.2.2 dX11_ends_113
          · refine lv_iconst (v := 1) hx hb dX11_ends_70 (by decide) ?_
            refine lv_goto (tgt := 75) hx hb dX11_ends_71 (by decide) ?_
            refine lv_istore_n (lv' := [(3, .int 1), (2, .int (rf_st3 f p1 0)), (0, .ref mo), (1, .int p1)]) hx hb dX11_ends_75 rfl hl (by decide) rfl (fun ls hl => ?_)
            refine lv_aload_n hx hb dX11_ends_76 rfl (lv_at hl 2 rfl) ?_
            refine lv_iload_n hx hb dX11_ends_77 rfl (lv_at hl 3 rfl) ?_
            refine lv_iload_n hx hb dX11_ends_78 rfl (lv_at hl 0 rfl) ?_
            refine ty_kv (wr := []) (wc := ([(rf_MO mo mw ma mf m0 m1 mu mv u0 u1 iz th mb mn mpt mbg mwr mwk mlf men), (rf_RW ct 0 mw 958 f1_172)] ++ ws_204)) (va_runV (As := [.int p1, .int 1]) (rest := []) ⟨hx, hb, hml, hown, hts⟩ (m_X11_records l D ct S ws_204 ph xx mo mw ma mf m0 m1 mu mv u0 u1 iz mb th mn mpt mbg mwr mwk mlf men f1_172 G cx p1 (1 : Int32) _ hT h_mu h_mv h_u0 h_u1 hph hy1 hR_174 hc) (cm_V 2 hts kc_X11_records ki_RX11 kl_RX11_268 kv_X11_records kx_X11_records kd_X11_records ⟨Nat.le_of_ble_eq_true rfl, Nat.le_of_ble_eq_true rfl⟩) (ty_preE (wr := []) (wc := ([(rf_MO mo mw ma mf m0 m1 mu mv u0 u1 iz th mb mn mpt mbg mwr mwk mlf men), (rf_RW ct 0 mw 958 f1_172)] ++ ws_204)) (ci := 11) (q0 := 0) hP hK hD hS hA hX rfl rfl) rfl rfl hl.1 rfl (lv_room (Nat.le_of_ble_eq_true rfl)) dX11_ends_79 ⟨Nat.le_of_ble_eq_true rfl, Nat.le_of_ble_eq_true rfl⟩) hP hD hS hA (fun u H locs hw_223 hP hD hS => ?_)
            obtain ⟨ws_224, f1_225⟩ := u
            obtain ⟨hT, hp_226⟩ := hw_223
            have hp_226 : rf_R G cx f1_225 ∧ rf_sm f1_172 f1_225 := hp_226
            have hR_227 := hp_226.1
            have hM_228 := rf_smt hM_175 hp_226.2
            have ho_229 := rf_ons hR_174 hc hp_226.2 ho_176
            have hP : va_P D vwCl ([(rf_MO mo mw ma mf m0 m1 mu mv u0 u1 iz th mb mn mpt mbg mwr mwk mlf men), (rf_RW ct 0 mw 958 f1_225)] ++ ws_224) H := hP
            have hD : va_D A ([(rf_MO mo mw ma mf m0 m1 mu mv u0 u1 iz th mb mn mpt mbg mwr mwk mlf men), (rf_RW ct 0 mw 958 f1_225)] ++ ws_224) := hD
            refine lv_iload_n hx hb dX11_ends_82 rfl (lv_at hl 0 rfl) ?_
            refine lv_if_eq (tgt := 108) hx hb dX11_ends_83 (by decide) (fun hc => absurd hc (by decide)) (fun _ => ?_)
            refine lv_aload_n hx hb dX11_ends_86 rfl (lv_at hl 2 rfl) ?_
            refine lv_iload_n hx hb dX11_ends_87 rfl (lv_at hl 3 rfl) ?_
            refine lv_bipush (v := 20) hx hb dX11_ends_88 (by decide) ?_
            refine lv_aload_n hx hb dX11_ends_90 rfl (lv_at hl 2 rfl) ?_
            refine lv_iload_n hx hb dX11_ends_91 rfl (lv_at hl 3 rfl) ?_
            refine lv_iconst (v := 1) hx hb dX11_ends_92 (by decide) ?_
            have hP : va_P D vwCl ([(rf_RW ct 0 mw 958 f1_225), (rf_MO mo mw ma mf m0 m1 mu mv u0 u1 iz th mb mn mpt mbg mwr mwk mlf men)] ++ ws_224) H := ty_permP hP (ty_ordp (E := [(rf_MO mo mw ma mf m0 m1 mu mv u0 u1 iz th mb mn mpt mbg mwr mwk mlf men), (rf_RW ct 0 mw 958 f1_225)]) (E2 := [(rf_RW ct 0 mw 958 f1_225), (rf_MO mo mw ma mf m0 m1 mu mv u0 u1 iz th mb mn mpt mbg mwr mwk mlf men)]) (n := 2) [1, 0] rfl rfl (by decide))
            have hD : va_D A ([(rf_RW ct 0 mw 958 f1_225), (rf_MO mo mw ma mf m0 m1 mu mv u0 u1 iz th mb mn mpt mbg mwr mwk mlf men)] ++ ws_224) := ty_permD hD (ty_ordp (E := [(rf_MO mo mw ma mf m0 m1 mu mv u0 u1 iz th mb mn mpt mbg mwr mwk mlf men), (rf_RW ct 0 mw 958 f1_225)]) (E2 := [(rf_RW ct 0 mw 958 f1_225), (rf_MO mo mw ma mf m0 m1 mu mv u0 u1 iz th mb mn mpt mbg mwr mwk mlf men)]) (n := 2) [1, 0] rfl rfl (by decide))
            refine ty_kl (wr := [(rf_RW ct 0 mw 958 f1_225)]) (wc := ([(rf_MO mo mw ma mf m0 m1 mu mv u0 u1 iz th mb mn mpt mbg mwr mwk mlf men)] ++ ws_224)) (va_runV (As := [.int p1, .int 1]) (rest := [.int 20, .int p1, .ref mo]) ⟨hx, hb, hml, hown, hts⟩ (m_X11_sum l D ct S ws_224 ph xx mo mw ma mf m0 m1 mu mv u0 u1 iz mb th mn mpt mbg mwr mwk mlf men p1 (1 : Int32) _ hT h_mu h_mv h_u0 h_u1 hph hy1 (rf_c6 hR_227 hc) (by decide)) (cm_V 2 hts kc_X11_sum ki_RX11 kl_RX11_261 kv_X11_sum kx_X11_sum kd_X11_sum ⟨Nat.le_of_ble_eq_true rfl, Nat.le_of_ble_eq_true rfl⟩) (ty_preE (wr := [(rf_RW ct 0 mw 958 f1_225)]) (wc := ([(rf_MO mo mw ma mf m0 m1 mu mv u0 u1 iz th mb mn mpt mbg mwr mwk mlf men)] ++ ws_224)) (ci := 11) (q0 := 1) hP hK hD hS hA hX rfl rfl) rfl rfl hl.1 rfl (lv_room (Nat.le_of_ble_eq_true rfl)) dX11_ends_93 ⟨Nat.le_of_ble_eq_true rfl, Nat.le_of_ble_eq_true rfl⟩) hP hD hS hA (fun r_230 u H locs hw_231 hP hD hS => ?_)
            obtain ⟨ws_232, rfl⟩ : ∃ z, z = u := ⟨_, rfl⟩
            have hT := hw_231
            have hP : va_P D vwCl ([(rf_RW ct 0 mw 958 f1_225), (rf_MO mo mw ma mf m0 m1 mu mv u0 u1 iz th mb mn mpt mbg mwr mwk mlf men)] ++ ws_232) H := hP
            have hD : va_D A ([(rf_RW ct 0 mw 958 f1_225), (rf_MO mo mw ma mf m0 m1 mu mv u0 u1 iz th mb mn mpt mbg mwr mwk mlf men)] ++ ws_232) := hD
            refine lv_aload_n hx hb dX11_ends_96 rfl (lv_at hl 2 rfl) ?_
            refine lv_iload_n hx hb dX11_ends_97 rfl (lv_at hl 3 rfl) ?_
            refine lv_bipush (v := 6) hx hb dX11_ends_98 (by decide) ?_
            refine ty_kl (wr := [(rf_RW ct 0 mw 958 f1_225)]) (wc := ([(rf_MO mo mw ma mf m0 m1 mu mv u0 u1 iz th mb mn mpt mbg mwr mwk mlf men)] ++ ws_232)) (va_runV (As := [.int p1, .int 6]) (rest := [.long r_230, .int 20, .int p1, .ref mo]) ⟨hx, hb, hml, hown, hts⟩ (m_X11_sum l D ct S ws_232 ph xx mo mw ma mf m0 m1 mu mv u0 u1 iz mb th mn mpt mbg mwr mwk mlf men p1 (6 : Int32) _ hT h_mu h_mv h_u0 h_u1 hph hy1 (rf_c6 hR_227 hc) (by decide)) (cm_V 2 hts kc_X11_sum ki_RX11 kl_RX11_261 kv_X11_sum kx_X11_sum kd_X11_sum ⟨Nat.le_of_ble_eq_true rfl, Nat.le_of_ble_eq_true rfl⟩) (ty_preE (wr := [(rf_RW ct 0 mw 958 f1_225)]) (wc := ([(rf_MO mo mw ma mf m0 m1 mu mv u0 u1 iz th mb mn mpt mbg mwr mwk mlf men)] ++ ws_232)) (ci := 11) (q0 := 1) hP hK hD hS hA hX rfl rfl) rfl rfl hl.1 rfl (lv_room (Nat.le_of_ble_eq_true rfl)) dX11_ends_100 ⟨Nat.le_of_ble_eq_true rfl, Nat.le_of_ble_eq_true rfl⟩) hP hD hS hA (fun r_233 u H locs hw_234 hP hD hS => ?_)
            obtain ⟨ws_235, rfl⟩ : ∃ z, z = u := ⟨_, rfl⟩
            have hT := hw_234
            have hP : va_P D vwCl ([(rf_RW ct 0 mw 958 f1_225), (rf_MO mo mw ma mf m0 m1 mu mv u0 u1 iz th mb mn mpt mbg mwr mwk mlf men)] ++ ws_235) H := hP
            have hD : va_D A ([(rf_RW ct 0 mw 958 f1_225), (rf_MO mo mw ma mf m0 m1 mu mv u0 u1 iz th mb mn mpt mbg mwr mwk mlf men)] ++ ws_235) := hD
            refine lv_lsub hx hb dX11_ends_103 ?_
            refine lv_topl (fun x_236 _ => ?_)
            refine lv_l2i hx hb dX11_ends_104 rfl ?_
            refine lv_topi (fun x_237 _ => ?_)
            have hP : va_P D vwCl ([(rf_MO mo mw ma mf m0 m1 mu mv u0 u1 iz th mb mn mpt mbg mwr mwk mlf men), (rf_RW ct 0 mw 958 f1_225)] ++ ws_235) H := ty_permP hP (ty_ordp (E := [(rf_RW ct 0 mw 958 f1_225), (rf_MO mo mw ma mf m0 m1 mu mv u0 u1 iz th mb mn mpt mbg mwr mwk mlf men)]) (E2 := [(rf_MO mo mw ma mf m0 m1 mu mv u0 u1 iz th mb mn mpt mbg mwr mwk mlf men), (rf_RW ct 0 mw 958 f1_225)]) (n := 2) [1, 0] rfl rfl (by decide))
            have hD : va_D A ([(rf_MO mo mw ma mf m0 m1 mu mv u0 u1 iz th mb mn mpt mbg mwr mwk mlf men), (rf_RW ct 0 mw 958 f1_225)] ++ ws_235) := ty_permD hD (ty_ordp (E := [(rf_RW ct 0 mw 958 f1_225), (rf_MO mo mw ma mf m0 m1 mu mv u0 u1 iz th mb mn mpt mbg mwr mwk mlf men)]) (E2 := [(rf_MO mo mw ma mf m0 m1 mu mv u0 u1 iz th mb mn mpt mbg mwr mwk mlf men), (rf_RW ct 0 mw 958 f1_225)]) (n := 2) [1, 0] rfl rfl (by decide))
            refine ty_kv (wr := []) (wc := ([(rf_MO mo mw ma mf m0 m1 mu mv u0 u1 iz th mb mn mpt mbg mwr mwk mlf men), (rf_RW ct 0 mw 958 f1_225)] ++ ws_235)) (va_runV (As := [.int p1, .int 20, .int x_237]) (rest := []) ⟨hx, hb, hml, hown, hts⟩ (m_put_20 l D ct S ws_235 ph xx mo mw ma mf m0 m1 mu mv u0 u1 iz mb th mn mpt mbg mwr mwk mlf men f1_225 G cx p1 x_237 _ hT h_mu h_mv h_u0 h_u1 hph hy1 hR_227 hc) (cm_V 3 hts kc_X11_put ki_RX11 kl_RX11_234 kv_X11_put kx_X11_put kd_X11_put ⟨Nat.le_of_ble_eq_true rfl, Nat.le_of_ble_eq_true rfl⟩) (ty_preE (wr := []) (wc := ([(rf_MO mo mw ma mf m0 m1 mu mv u0 u1 iz th mb mn mpt mbg mwr mwk mlf men), (rf_RW ct 0 mw 958 f1_225)] ++ ws_235)) (ci := 11) (q0 := 0) hP hK hD hS hA hX rfl rfl) rfl rfl hl.1 rfl (lv_room (Nat.le_of_ble_eq_true rfl)) dX11_ends_105 ⟨Nat.le_of_ble_eq_true rfl, Nat.le_of_ble_eq_true rfl⟩) hP hD hS hA (fun u H locs hw_239 hP hD hS => ?_)
            obtain ⟨ws_240, f1_241⟩ := u
            obtain ⟨hT, hp_242⟩ := hw_239
            have hp_242 : rf_R G cx f1_241 ∧ rf_sm f1_225 f1_241 ∧ f1_241 = upd f1_225 (244 + 54 * p1.toInt.toNat + 20) x_237 := hp_242
            have hR_243 := hp_242.1
            have hM_244 := rf_smt hM_228 hp_242.2.1
            have ho_245 := rf_ons hR_227 hc hp_242.2.1 ho_229
            have hP : va_P D vwCl ([(rf_MO mo mw ma mf m0 m1 mu mv u0 u1 iz th mb mn mpt mbg mwr mwk mlf men), (rf_RW ct 0 mw 958 f1_241)] ++ ws_240) H := hP
            have hD : va_D A ([(rf_MO mo mw ma mf m0 m1 mu mv u0 u1 iz th mb mn mpt mbg mwr mwk mlf men), (rf_RW ct 0 mw 958 f1_241)] ++ ws_240) := hD
            refine lv_aload_n hx hb dX11_ends_108 rfl (lv_at hl 2 rfl) ?_
            refine lv_iload_n hx hb dX11_ends_109 rfl (lv_at hl 3 rfl) ?_
            refine ty_kv (wr := []) (wc := ([(rf_MO mo mw ma mf m0 m1 mu mv u0 u1 iz th mb mn mpt mbg mwr mwk mlf men), (rf_RW ct 0 mw 958 f1_241)] ++ ws_240)) (va_runV (As := [.int p1]) (rest := []) ⟨hx, hb, hml, hown, hts⟩ (m_X11_clears l D ct S ws_240 ph xx mo mw ma mf m0 m1 mu mv u0 u1 iz mb th mn mpt mbg mwr mwk mlf men f1_241 G cx p1 _ hT h_mu h_mv h_u0 h_u1 hph hy1 hy11 hR_243 hc) (cm_V 1 hts kc_X11_clears ki_RX11 kl_RX11_272 kv_X11_clears kx_X11_clears kd_X11_clears ⟨Nat.le_of_ble_eq_true rfl, Nat.le_of_ble_eq_true rfl⟩) (ty_preE (wr := []) (wc := ([(rf_MO mo mw ma mf m0 m1 mu mv u0 u1 iz th mb mn mpt mbg mwr mwk mlf men), (rf_RW ct 0 mw 958 f1_241)] ++ ws_240)) (ci := 11) (q0 := 0) hP hK hD hS hA hX rfl rfl) rfl rfl hl.1 rfl (lv_room (Nat.le_of_ble_eq_true rfl)) dX11_ends_110 ⟨Nat.le_of_ble_eq_true rfl, Nat.le_of_ble_eq_true rfl⟩) hP hD hS hA (fun u H locs hw_247 hP hD hS => ?_)
            obtain ⟨ws_248, f1_249⟩ := u
            obtain ⟨hT, hp_250⟩ := hw_247
            have hp_250 : rf_R G cx f1_249 ∧ rf_sm f1_241 f1_249 := hp_250
            have hR_251 := hp_250.1
            have hM_252 := rf_smt hM_244 hp_250.2
            have ho_253 := rf_ons hR_243 hc hp_250.2 ho_245
            have hP : va_P D vwCl ([(rf_MO mo mw ma mf m0 m1 mu mv u0 u1 iz th mb mn mpt mbg mwr mwk mlf men), (rf_RW ct 0 mw 958 f1_249)] ++ ws_248) H := hP
            have hD : va_D A ([(rf_MO mo mw ma mf m0 m1 mu mv u0 u1 iz th mb mn mpt mbg mwr mwk mlf men), (rf_RW ct 0 mw 958 f1_249)] ++ ws_248) := hD
            exact W.vret hx hb hr (fun t ht hW => ⟨⟨(ws_248, f1_249), rfl, ⟨hT, ⟨hR_251, hM_252⟩⟩, by rw [ht]; exact hP, by rw [hAe]; exact hD⟩, hS.F ht⟩) hS.2.2 dX11_ends_113
      · exact W.vret hx hb hr (fun t ht hW => ⟨⟨(ws_171, f1_172), rfl, ⟨hT, ⟨hR_174, hM_175⟩⟩, by rw [ht]; exact hP, by rw [hAe]; exact hD⟩, hS.F ht⟩) hS.2.2 dX11_ends_43
    · refine lv_aload_n hx hb dX11_ends_25 rfl (lv_at hl 1 rfl) ?_
      refine lv_iload_n hx hb dX11_ends_26 rfl (lv_at hl 2 rfl) ?_
      refine lv_bipush (v := 19) hx hb dX11_ends_27 (by decide) ?_
      refine lv_aload_n hx hb dX11_ends_29 rfl (lv_at hl 1 rfl) ?_
      refine lv_iload_n hx hb dX11_ends_30 rfl (lv_at hl 2 rfl) ?_
      refine lv_iconst (v := 5) hx hb dX11_ends_31 (by decide) ?_
      refine ty_ki (wr := []) (wc := ([(rf_MO mo mw ma mf m0 m1 mu mv u0 u1 iz th mb mn mpt mbg mwr mwk mlf men), (rf_RW ct 0 mw 958 f1_172)] ++ ws_171)) (va_runV (As := [.int p1, .int 5]) (rest := [.int 19, .int p1, .ref mo]) ⟨hx, hb, hml, hown, hts⟩ (m_of_5 l D ct S ws_171 ph xx mo mw ma mf m0 m1 mu mv u0 u1 iz mb th mn mpt mbg mwr mwk mlf men f1_172 G cx p1 _ hT h_mu h_mv h_u0 h_u1 hph hy1 hR_174 hc) (cm_V 2 hts kc_X11_of ki_RX11 kl_RX11_209 kv_X11_of kx_X11_of kd_X11_of ⟨Nat.le_of_ble_eq_true rfl, Nat.le_of_ble_eq_true rfl⟩) (ty_preE (wr := []) (wc := ([(rf_MO mo mw ma mf m0 m1 mu mv u0 u1 iz th mb mn mpt mbg mwr mwk mlf men), (rf_RW ct 0 mw 958 f1_172)] ++ ws_171)) (ci := 11) (q0 := 0) hP hK hD hS hA hX rfl rfl) rfl rfl hl.1 rfl (lv_room (Nat.le_of_ble_eq_true rfl)) dX11_ends_32 ⟨Nat.le_of_ble_eq_true rfl, Nat.le_of_ble_eq_true rfl⟩) hP hD hS hA (fun r_254 u H locs hw_255 hP hD hS => ?_)
      obtain ⟨ws_256, rfl⟩ : ∃ z, z = u := ⟨_, rfl⟩
      obtain ⟨hT, rfl⟩ := hw_255
      have hP : va_P D vwCl ([(rf_MO mo mw ma mf m0 m1 mu mv u0 u1 iz th mb mn mpt mbg mwr mwk mlf men), (rf_RW ct 0 mw 958 f1_172)] ++ ws_256) H := hP
      have hD : va_D A ([(rf_MO mo mw ma mf m0 m1 mu mv u0 u1 iz th mb mn mpt mbg mwr mwk mlf men), (rf_RW ct 0 mw 958 f1_172)] ++ ws_256) := hD
      refine ty_kv (wr := []) (wc := ([(rf_MO mo mw ma mf m0 m1 mu mv u0 u1 iz th mb mn mpt mbg mwr mwk mlf men), (rf_RW ct 0 mw 958 f1_172)] ++ ws_256)) (va_runV (As := [.int p1, .int 19, .int (rf_of f1_172 p1 5)]) (rest := []) ⟨hx, hb, hml, hown, hts⟩ (m_put_19 l D ct S ws_256 ph xx mo mw ma mf m0 m1 mu mv u0 u1 iz mb th mn mpt mbg mwr mwk mlf men f1_172 G cx p1 (rf_of f1_172 p1 5) _ hT h_mu h_mv h_u0 h_u1 hph hy1 hR_174 hc) (cm_V 3 hts kc_X11_put ki_RX11 kl_RX11_234 kv_X11_put kx_X11_put kd_X11_put ⟨Nat.le_of_ble_eq_true rfl, Nat.le_of_ble_eq_true rfl⟩) (ty_preE (wr := []) (wc := ([(rf_MO mo mw ma mf m0 m1 mu mv u0 u1 iz th mb mn mpt mbg mwr mwk mlf men), (rf_RW ct 0 mw 958 f1_172)] ++ ws_256)) (ci := 11) (q0 := 0) hP hK hD hS hA hX rfl rfl) rfl rfl hl.1 rfl (lv_room (Nat.le_of_ble_eq_true rfl)) dX11_ends_35 ⟨Nat.le_of_ble_eq_true rfl, Nat.le_of_ble_eq_true rfl⟩) hP hD hS hA (fun u H locs hw_258 hP hD hS => ?_)
      obtain ⟨ws_259, f1_260⟩ := u
      obtain ⟨hT, hp_261⟩ := hw_258
      have hp_261 : rf_R G cx f1_260 ∧ rf_sm f1_172 f1_260 ∧ f1_260 = upd f1_172 (244 + 54 * p1.toInt.toNat + 19) (rf_of f1_172 p1 5) := hp_261
      have hR_262 := hp_261.1
      have hM_263 := rf_smt hM_175 hp_261.2.1
      have ho_264 := rf_ons hR_174 hc hp_261.2.1 ho_176
      have hP : va_P D vwCl ([(rf_MO mo mw ma mf m0 m1 mu mv u0 u1 iz th mb mn mpt mbg mwr mwk mlf men), (rf_RW ct 0 mw 958 f1_260)] ++ ws_259) H := hP
      have hD : va_D A ([(rf_MO mo mw ma mf m0 m1 mu mv u0 u1 iz th mb mn mpt mbg mwr mwk mlf men), (rf_RW ct 0 mw 958 f1_260)] ++ ws_259) := hD
      refine lv_iload_n hx hb dX11_ends_38 rfl (lv_at hl 0 rfl) ?_
      refine lv_iconst (v := 2) hx hb dX11_ends_39 (by decide) ?_
      refine lv_icmp_eq (tgt := 44) hx hb dX11_ends_40 (by decide) (fun hc_265 => ?_) (fun hc_265 => ?_)
      · refine lv_aload_n hx hb dX11_ends_44 rfl (lv_at hl 1 rfl) ?_
        refine lv_iload_n hx hb dX11_ends_45 rfl (lv_at hl 2 rfl) ?_
        refine lv_bipush (v := 21) hx hb dX11_ends_46 (by decide) ?_
        refine ty_ki (wr := []) (wc := ([(rf_MO mo mw ma mf m0 m1 mu mv u0 u1 iz th mb mn mpt mbg mwr mwk mlf men), (rf_RW ct 0 mw 958 f1_260)] ++ ws_259)) (va_runV (As := [.int p1, .int 21]) (rest := []) ⟨hx, hb, hml, hown, hts⟩ (m_of_21 l D ct S ws_259 ph xx mo mw ma mf m0 m1 mu mv u0 u1 iz mb th mn mpt mbg mwr mwk mlf men f1_260 G cx p1 _ hT h_mu h_mv h_u0 h_u1 hph hy1 hR_262 hc) (cm_V 2 hts kc_X11_of ki_RX11 kl_RX11_209 kv_X11_of kx_X11_of kd_X11_of ⟨Nat.le_of_ble_eq_true rfl, Nat.le_of_ble_eq_true rfl⟩) (ty_preE (wr := []) (wc := ([(rf_MO mo mw ma mf m0 m1 mu mv u0 u1 iz th mb mn mpt mbg mwr mwk mlf men), (rf_RW ct 0 mw 958 f1_260)] ++ ws_259)) (ci := 11) (q0 := 0) hP hK hD hS hA hX rfl rfl) rfl rfl hl.1 rfl (lv_room (Nat.le_of_ble_eq_true rfl)) dX11_ends_48 ⟨Nat.le_of_ble_eq_true rfl, Nat.le_of_ble_eq_true rfl⟩) hP hD hS hA (fun r_266 u H locs hw_267 hP hD hS => ?_)
        obtain ⟨ws_268, rfl⟩ : ∃ z, z = u := ⟨_, rfl⟩
        obtain ⟨hT, rfl⟩ := hw_267
        have hP : va_P D vwCl ([(rf_MO mo mw ma mf m0 m1 mu mv u0 u1 iz th mb mn mpt mbg mwr mwk mlf men), (rf_RW ct 0 mw 958 f1_260)] ++ ws_268) H := hP
        have hD : va_D A ([(rf_MO mo mw ma mf m0 m1 mu mv u0 u1 iz th mb mn mpt mbg mwr mwk mlf men), (rf_RW ct 0 mw 958 f1_260)] ++ ws_268) := hD
        refine lv_iconst (v := 1) hx hb dX11_ends_51 (by decide) ?_
        refine lv_icmp_ne (tgt := 74) hx hb dX11_ends_52 (by decide) (fun hc_269 => ?_) (fun hc_269 => ?_)
        · refine lv_iconst (v := 0) hx hb dX11_ends_74 (by decide) ?_
          refine lv_istore_n (lv' := [(3, .int 0), (2, .int (rf_st3 f p1 0)), (0, .ref mo), (1, .int p1)]) hx hb dX11_ends_75 rfl hl (by decide) rfl (fun ls hl => ?_)
          refine lv_aload_n hx hb dX11_ends_76 rfl (lv_at hl 2 rfl) ?_
          refine lv_iload_n hx hb dX11_ends_77 rfl (lv_at hl 3 rfl) ?_
          refine lv_iload_n hx hb dX11_ends_78 rfl (lv_at hl 0 rfl) ?_
          refine ty_kv (wr := []) (wc := ([(rf_MO mo mw ma mf m0 m1 mu mv u0 u1 iz th mb mn mpt mbg mwr mwk mlf men), (rf_RW ct 0 mw 958 f1_260)] ++ ws_268)) (va_runV (As := [.int p1, .int 0]) (rest := []) ⟨hx, hb, hml, hown, hts⟩ (m_X11_records l D ct S ws_268 ph xx mo mw ma mf m0 m1 mu mv u0 u1 iz mb th mn mpt mbg mwr mwk mlf men f1_260 G cx p1 (0 : Int32) _ hT h_mu h_mv h_u0 h_u1 hph hy1 hR_262 hc) (cm_V 2 hts kc_X11_records ki_RX11 kl_RX11_268 kv_X11_records kx_X11_records kd_X11_records ⟨Nat.le_of_ble_eq_true rfl, Nat.le_of_ble_eq_true rfl⟩) (ty_preE (wr := []) (wc := ([(rf_MO mo mw ma mf m0 m1 mu mv u0 u1 iz th mb mn mpt mbg mwr mwk mlf men), (rf_RW ct 0 mw 958 f1_260)] ++ ws_268)) (ci := 11) (q0 := 0) hP hK hD hS hA hX rfl rfl) rfl rfl hl.1 rfl (lv_room (Nat.le_of_ble_eq_true rfl)) dX11_ends_79 ⟨Nat.le_of_ble_eq_true rfl, Nat.le_of_ble_eq_true rfl⟩) hP hD hS hA (fun u H locs hw_271 hP hD hS => ?_)
          obtain ⟨ws_272, f1_273⟩ := u
          obtain ⟨hT, hp_274⟩ := hw_271
          have hp_274 : rf_R G cx f1_273 ∧ rf_sm f1_260 f1_273 := hp_274
          have hR_275 := hp_274.1
          have hM_276 := rf_smt hM_263 hp_274.2
          have ho_277 := rf_ons hR_262 hc hp_274.2 ho_264
          have hP : va_P D vwCl ([(rf_MO mo mw ma mf m0 m1 mu mv u0 u1 iz th mb mn mpt mbg mwr mwk mlf men), (rf_RW ct 0 mw 958 f1_273)] ++ ws_272) H := hP
          have hD : va_D A ([(rf_MO mo mw ma mf m0 m1 mu mv u0 u1 iz th mb mn mpt mbg mwr mwk mlf men), (rf_RW ct 0 mw 958 f1_273)] ++ ws_272) := hD
          refine lv_iload_n hx hb dX11_ends_82 rfl (lv_at hl 0 rfl) ?_
          refine lv_if_eq (tgt := 108) hx hb dX11_ends_83 (by decide) (fun _ => ?_) (fun hc => absurd (by decide) hc)
          refine lv_aload_n hx hb dX11_ends_108 rfl (lv_at hl 2 rfl) ?_
          refine lv_iload_n hx hb dX11_ends_109 rfl (lv_at hl 3 rfl) ?_
          refine ty_kv (wr := []) (wc := ([(rf_MO mo mw ma mf m0 m1 mu mv u0 u1 iz th mb mn mpt mbg mwr mwk mlf men), (rf_RW ct 0 mw 958 f1_273)] ++ ws_272)) (va_runV (As := [.int p1]) (rest := []) ⟨hx, hb, hml, hown, hts⟩ (m_X11_clears l D ct S ws_272 ph xx mo mw ma mf m0 m1 mu mv u0 u1 iz mb th mn mpt mbg mwr mwk mlf men f1_273 G cx p1 _ hT h_mu h_mv h_u0 h_u1 hph hy1 hy11 hR_275 hc) (cm_V 1 hts kc_X11_clears ki_RX11 kl_RX11_272 kv_X11_clears kx_X11_clears kd_X11_clears ⟨Nat.le_of_ble_eq_true rfl, Nat.le_of_ble_eq_true rfl⟩) (ty_preE (wr := []) (wc := ([(rf_MO mo mw ma mf m0 m1 mu mv u0 u1 iz th mb mn mpt mbg mwr mwk mlf men), (rf_RW ct 0 mw 958 f1_273)] ++ ws_272)) (ci := 11) (q0 := 0) hP hK hD hS hA hX rfl rfl) rfl rfl hl.1 rfl (lv_room (Nat.le_of_ble_eq_true rfl)) dX11_ends_110 ⟨Nat.le_of_ble_eq_true rfl, Nat.le_of_ble_eq_true rfl⟩) hP hD hS hA (fun u H locs hw_279 hP hD hS => ?_)
          obtain ⟨ws_280, f1_281⟩ := u
          obtain ⟨hT, hp_282⟩ := hw_279
          have hp_282 : rf_R G cx f1_281 ∧ rf_sm f1_273 f1_281 := hp_282
          have hR_283 := hp_282.1
          have hM_284 := rf_smt hM_276 hp_282.2
          have ho_285 := rf_ons hR_275 hc hp_282.2 ho_277
          have hP : va_P D vwCl ([(rf_MO mo mw ma mf m0 m1 mu mv u0 u1 iz th mb mn mpt mbg mwr mwk mlf men), (rf_RW ct 0 mw 958 f1_281)] ++ ws_280) H := hP
          have hD : va_D A ([(rf_MO mo mw ma mf m0 m1 mu mv u0 u1 iz th mb mn mpt mbg mwr mwk mlf men), (rf_RW ct 0 mw 958 f1_281)] ++ ws_280) := hD
          exact W.vret hx hb hr (fun t ht hW => ⟨⟨(ws_280, f1_281), rfl, ⟨hT, ⟨hR_283, hM_284⟩⟩, by rw [ht]; exact hP, by rw [hAe]; exact hD⟩, hS.F ht⟩) hS.2.2 dX11_ends_113
        · refine lv_aload_n hx hb dX11_ends_55 rfl (lv_at hl 1 rfl) ?_
          refine lv_iload_n hx hb dX11_ends_56 rfl (lv_at hl 2 rfl) ?_
          refine lv_iconst (v := 5) hx hb dX11_ends_57 (by decide) ?_
          refine ty_ki (wr := []) (wc := ([(rf_MO mo mw ma mf m0 m1 mu mv u0 u1 iz th mb mn mpt mbg mwr mwk mlf men), (rf_RW ct 0 mw 958 f1_260)] ++ ws_268)) (va_runV (As := [.int p1, .int 5]) (rest := []) ⟨hx, hb, hml, hown, hts⟩ (m_of_5 l D ct S ws_268 ph xx mo mw ma mf m0 m1 mu mv u0 u1 iz mb th mn mpt mbg mwr mwk mlf men f1_260 G cx p1 _ hT h_mu h_mv h_u0 h_u1 hph hy1 hR_262 hc) (cm_V 2 hts kc_X11_of ki_RX11 kl_RX11_209 kv_X11_of kx_X11_of kd_X11_of ⟨Nat.le_of_ble_eq_true rfl, Nat.le_of_ble_eq_true rfl⟩) (ty_preE (wr := []) (wc := ([(rf_MO mo mw ma mf m0 m1 mu mv u0 u1 iz th mb mn mpt mbg mwr mwk mlf men), (rf_RW ct 0 mw 958 f1_260)] ++ ws_268)) (ci := 11) (q0 := 0) hP hK hD hS hA hX rfl rfl) rfl rfl hl.1 rfl (lv_room (Nat.le_of_ble_eq_true rfl)) dX11_ends_58 ⟨Nat.le_of_ble_eq_true rfl, Nat.le_of_ble_eq_true rfl⟩) hP hD hS hA (fun r_286 u H locs hw_287 hP hD hS => ?_)
          obtain ⟨ws_288, rfl⟩ : ∃ z, z = u := ⟨_, rfl⟩
          obtain ⟨hT, rfl⟩ := hw_287
          have hP : va_P D vwCl ([(rf_MO mo mw ma mf m0 m1 mu mv u0 u1 iz th mb mn mpt mbg mwr mwk mlf men), (rf_RW ct 0 mw 958 f1_260)] ++ ws_288) H := hP
          have hD : va_D A ([(rf_MO mo mw ma mf m0 m1 mu mv u0 u1 iz th mb mn mpt mbg mwr mwk mlf men), (rf_RW ct 0 mw 958 f1_260)] ++ ws_288) := hD
          refine lv_aload_n hx hb dX11_ends_61 rfl (lv_at hl 1 rfl) ?_
          refine lv_iload_n hx hb dX11_ends_62 rfl (lv_at hl 2 rfl) ?_
          refine lv_iconst (v := 2) hx hb dX11_ends_63 (by decide) ?_
          refine ty_ki (wr := []) (wc := ([(rf_MO mo mw ma mf m0 m1 mu mv u0 u1 iz th mb mn mpt mbg mwr mwk mlf men), (rf_RW ct 0 mw 958 f1_260)] ++ ws_288)) (va_runV (As := [.int p1, .int 2]) (rest := [.int (rf_of f1_260 p1 5)]) ⟨hx, hb, hml, hown, hts⟩ (m_step_2 l D ct S ws_288 ph xx mo mw ma mf m0 m1 mu mv u0 u1 iz mb th mn mpt mbg mwr mwk mlf men f1_260 G cx p1 _ hT h_mu h_mv h_u0 h_u1 hph hy1 hR_262 hc ho_264) (cm_V 2 hts kc_X11_step ki_RX11 kl_RX11_228 kv_X11_step kx_X11_step kd_X11_step ⟨Nat.le_of_ble_eq_true rfl, Nat.le_of_ble_eq_true rfl⟩) (ty_preE (wr := []) (wc := ([(rf_MO mo mw ma mf m0 m1 mu mv u0 u1 iz th mb mn mpt mbg mwr mwk mlf men), (rf_RW ct 0 mw 958 f1_260)] ++ ws_288)) (ci := 11) (q0 := 0) hP hK hD hS hA hX rfl rfl) rfl rfl hl.1 rfl (lv_room (Nat.le_of_ble_eq_true rfl)) dX11_ends_64 ⟨Nat.le_of_ble_eq_true rfl, Nat.le_of_ble_eq_true rfl⟩) hP hD hS hA (fun r_289 u H locs hw_290 hP hD hS => ?_)
          obtain ⟨ws_291, rfl⟩ : ∃ z, z = u := ⟨_, rfl⟩
          obtain ⟨hT, rfl⟩ := hw_290
          have hP : va_P D vwCl ([(rf_MO mo mw ma mf m0 m1 mu mv u0 u1 iz th mb mn mpt mbg mwr mwk mlf men), (rf_RW ct 0 mw 958 f1_260)] ++ ws_291) H := hP
          have hD : va_D A ([(rf_MO mo mw ma mf m0 m1 mu mv u0 u1 iz th mb mn mpt mbg mwr mwk mlf men), (rf_RW ct 0 mw 958 f1_260)] ++ ws_291) := hD
          refine lv_icmp_gt (tgt := 74) hx hb dX11_ends_67 (by decide) (fun hc_292 => ?_) (fun hc_292 => ?_)
          · refine lv_iconst (v := 0) hx hb dX11_ends_74 (by decide) ?_
            refine lv_istore_n (lv' := [(3, .int 0), (2, .int (rf_st3 f p1 0)), (0, .ref mo), (1, .int p1)]) hx hb dX11_ends_75 rfl hl (by decide) rfl (fun ls hl => ?_)
            refine lv_aload_n hx hb dX11_ends_76 rfl (lv_at hl 2 rfl) ?_
            refine lv_iload_n hx hb dX11_ends_77 rfl (lv_at hl 3 rfl) ?_
            refine lv_iload_n hx hb dX11_ends_78 rfl (lv_at hl 0 rfl) ?_
            refine ty_kv (wr := []) (wc := ([(rf_MO mo mw ma mf m0 m1 mu mv u0 u1 iz th mb mn mpt mbg mwr mwk mlf men), (rf_RW ct 0 mw 958 f1_260)] ++ ws_291)) (va_runV (As := [.int p1, .int 0]) (rest := []) ⟨hx, hb, hml, hown, hts⟩ (m_X11_records l D ct S ws_291 ph xx mo mw ma mf m0 m1 mu mv u0 u1 iz mb th mn mpt mbg mwr mwk mlf men f1_260 G cx p1 (0 : Int32) _ hT h_mu h_mv h_u0 h_u1 hph hy1 hR_262 hc) (cm_V 2 hts kc_X11_records ki_RX11 kl_RX11_268 kv_X11_records kx_X11_records kd_X11_records ⟨Nat.le_of_ble_eq_true rfl, Nat.le_of_ble_eq_true rfl⟩) (ty_preE (wr := []) (wc := ([(rf_MO mo mw ma mf m0 m1 mu mv u0 u1 iz th mb mn mpt mbg mwr mwk mlf men), (rf_RW ct 0 mw 958 f1_260)] ++ ws_291)) (ci := 11) (q0 := 0) hP hK hD hS hA hX rfl rfl) rfl rfl hl.1 rfl (lv_room (Nat.le_of_ble_eq_true rfl)) dX11_ends_79 ⟨Nat.le_of_ble_eq_true rfl, Nat.le_of_ble_eq_true rfl⟩) hP hD hS hA (fun u H locs hw_294 hP hD hS => ?_)
            obtain ⟨ws_295, f1_296⟩ := u
            obtain ⟨hT, hp_297⟩ := hw_294
            have hp_297 : rf_R G cx f1_296 ∧ rf_sm f1_260 f1_296 := hp_297
            have hR_298 := hp_297.1
            have hM_299 := rf_smt hM_263 hp_297.2
            have ho_300 := rf_ons hR_262 hc hp_297.2 ho_264
            have hP : va_P D vwCl ([(rf_MO mo mw ma mf m0 m1 mu mv u0 u1 iz th mb mn mpt mbg mwr mwk mlf men), (rf_RW ct 0 mw 958 f1_296)] ++ ws_295) H := hP
            have hD : va_D A ([(rf_MO mo mw ma mf m0 m1 mu mv u0 u1 iz th mb mn mpt mbg mwr mwk mlf men), (rf_RW ct 0 mw 958 f1_296)] ++ ws_295) := hD
            refine lv_iload_n hx hb dX11_ends_82 rfl (lv_at hl 0 rfl) ?_
            refine lv_if_eq (tgt := 108) hx hb dX11_ends_83 (by decide) (fun _ => ?_) (fun hc => absurd (by decide) hc)
            refine lv_aload_n hx hb dX11_ends_108 rfl (lv_at hl 2 rfl) ?_
            refine lv_iload_n hx hb dX11_ends_109 rfl (lv_at hl 3 rfl) ?_
            refine ty_kv (wr := []) (wc := ([(rf_MO mo mw ma mf m0 m1 mu mv u0 u1 iz th mb mn mpt mbg mwr mwk mlf men), (rf_RW ct 0 mw 958 f1_296)] ++ ws_295)) (va_runV (As := [.int p1]) (rest := []) ⟨hx, hb, hml, hown, hts⟩ (m_X11_clears l D ct S ws_295 ph xx mo mw ma mf m0 m1 mu mv u0 u1 iz mb th mn mpt mbg mwr mwk mlf men f1_296 G cx p1 _ hT h_mu h_mv h_u0 h_u1 hph hy1 hy11 hR_298 hc) (cm_V 1 hts kc_X11_clears ki_RX11 kl_RX11_272 kv_X11_clears kx_X11_clears kd_X11_clears ⟨Nat.le_of_ble_eq_true rfl, Nat.le_of_ble_eq_true rfl⟩) (ty_preE (wr := []) (wc := ([(rf_MO mo mw ma mf m0 m1 mu mv u0 u1 iz th mb mn mpt mbg mwr mwk mlf men), (rf_RW ct 0 mw 958 f1_296)] ++ ws_295)) (ci := 11) (q0 := 0) hP hK hD hS hA hX rfl rfl) rfl rfl hl.1 rfl (lv_room (Nat.le_of_ble_eq_true rfl)) dX11_ends_110 ⟨Nat.le_of_ble_eq_true rfl, Nat.le_of_ble_eq_true rfl⟩) hP hD hS hA (fun u H locs hw_302 hP hD hS => ?_)
            obtain ⟨ws_303, f1_304⟩ := u
            obtain ⟨hT, hp_305⟩ := hw_302
            have hp_305 : rf_R G cx f1_304 ∧ rf_sm f1_296 f1_304 := hp_305
            have hR_306 := hp_305.1
            have hM_307 := rf_smt hM_299 hp_305.2
            have ho_308 := rf_ons hR_298 hc hp_305.2 ho_300
            have hP : va_P D vwCl ([(rf_MO mo mw ma mf m0 m1 mu mv u0 u1 iz th mb mn mpt mbg mwr mwk mlf men), (rf_RW ct 0 mw 958 f1_304)] ++ ws_303) H := hP
            have hD : va_D A ([(rf_MO mo mw ma mf m0 m1 mu mv u0 u1 iz th mb mn mpt mbg mwr mwk mlf men), (rf_RW ct 0 mw 958 f1_304)] ++ ws_303) := hD
            exact W.vret hx hb hr (fun t ht hW => ⟨⟨(ws_303, f1_304), rfl, ⟨hT, ⟨hR_306, hM_307⟩⟩, by rw [ht]; exact hP, by rw [hAe]; exact hD⟩, hS.F ht⟩) hS.2.2 dX11_ends_113
          · refine lv_iconst (v := 1) hx hb dX11_ends_70 (by decide) ?_
            refine lv_goto (tgt := 75) hx hb dX11_ends_71 (by decide) ?_
            refine lv_istore_n (lv' := [(3, .int 1), (2, .int (rf_st3 f p1 0)), (0, .ref mo), (1, .int p1)]) hx hb dX11_ends_75 rfl hl (by decide) rfl (fun ls hl => ?_)
            refine lv_aload_n hx hb dX11_ends_76 rfl (lv_at hl 2 rfl) ?_
            refine lv_iload_n hx hb dX11_ends_77 rfl (lv_at hl 3 rfl) ?_
            refine lv_iload_n hx hb dX11_ends_78 rfl (lv_at hl 0 rfl) ?_
            refine ty_kv (wr := []) (wc := ([(rf_MO mo mw ma mf m0 m1 mu mv u0 u1 iz th mb mn mpt mbg mwr mwk mlf men), (rf_RW ct 0 mw 958 f1_260)] ++ ws_291)) (va_runV (As := [.int p1, .int 1]) (rest := []) ⟨hx, hb, hml, hown, hts⟩ (m_X11_records l D ct S ws_291 ph xx mo mw ma mf m0 m1 mu mv u0 u1 iz mb th mn mpt mbg mwr mwk mlf men f1_260 G cx p1 (1 : Int32) _ hT h_mu h_mv h_u0 h_u1 hph hy1 hR_262 hc) (cm_V 2 hts kc_X11_records ki_RX11 kl_RX11_268 kv_X11_records kx_X11_records kd_X11_records ⟨Nat.le_of_ble_eq_true rfl, Nat.le_of_ble_eq_true rfl⟩) (ty_preE (wr := []) (wc := ([(rf_MO mo mw ma mf m0 m1 mu mv u0 u1 iz th mb mn mpt mbg mwr mwk mlf men), (rf_RW ct 0 mw 958 f1_260)] ++ ws_291)) (ci := 11) (q0 := 0) hP hK hD hS hA hX rfl rfl) rfl rfl hl.1 rfl (lv_room (Nat.le_of_ble_eq_true rfl)) dX11_ends_79 ⟨Nat.le_of_ble_eq_true rfl, Nat.le_of_ble_eq_true rfl⟩) hP hD hS hA (fun u H locs hw_310 hP hD hS => ?_)
            obtain ⟨ws_311, f1_312⟩ := u
            obtain ⟨hT, hp_313⟩ := hw_310
            have hp_313 : rf_R G cx f1_312 ∧ rf_sm f1_260 f1_312 := hp_313
            have hR_314 := hp_313.1
            have hM_315 := rf_smt hM_263 hp_313.2
            have ho_316 := rf_ons hR_262 hc hp_313.2 ho_264
            have hP : va_P D vwCl ([(rf_MO mo mw ma mf m0 m1 mu mv u0 u1 iz th mb mn mpt mbg mwr mwk mlf men), (rf_RW ct 0 mw 958 f1_312)] ++ ws_311) H := hP
            have hD : va_D A ([(rf_MO mo mw ma mf m0 m1 mu mv u0 u1 iz th mb mn mpt mbg mwr mwk mlf men), (rf_RW ct 0 mw 958 f1_312)] ++ ws_311) := hD
            refine lv_iload_n hx hb dX11_ends_82 rfl (lv_at hl 0 rfl) ?_
            refine lv_if_eq (tgt := 108) hx hb dX11_ends_83 (by decide) (fun hc => absurd hc (by decide)) (fun _ => ?_)
            refine lv_aload_n hx hb dX11_ends_86 rfl (lv_at hl 2 rfl) ?_
            refine lv_iload_n hx hb dX11_ends_87 rfl (lv_at hl 3 rfl) ?_
            refine lv_bipush (v := 20) hx hb dX11_ends_88 (by decide) ?_
            refine lv_aload_n hx hb dX11_ends_90 rfl (lv_at hl 2 rfl) ?_
            refine lv_iload_n hx hb dX11_ends_91 rfl (lv_at hl 3 rfl) ?_
            refine lv_iconst (v := 1) hx hb dX11_ends_92 (by decide) ?_
            have hP : va_P D vwCl ([(rf_RW ct 0 mw 958 f1_312), (rf_MO mo mw ma mf m0 m1 mu mv u0 u1 iz th mb mn mpt mbg mwr mwk mlf men)] ++ ws_311) H := ty_permP hP (ty_ordp (E := [(rf_MO mo mw ma mf m0 m1 mu mv u0 u1 iz th mb mn mpt mbg mwr mwk mlf men), (rf_RW ct 0 mw 958 f1_312)]) (E2 := [(rf_RW ct 0 mw 958 f1_312), (rf_MO mo mw ma mf m0 m1 mu mv u0 u1 iz th mb mn mpt mbg mwr mwk mlf men)]) (n := 2) [1, 0] rfl rfl (by decide))
            have hD : va_D A ([(rf_RW ct 0 mw 958 f1_312), (rf_MO mo mw ma mf m0 m1 mu mv u0 u1 iz th mb mn mpt mbg mwr mwk mlf men)] ++ ws_311) := ty_permD hD (ty_ordp (E := [(rf_MO mo mw ma mf m0 m1 mu mv u0 u1 iz th mb mn mpt mbg mwr mwk mlf men), (rf_RW ct 0 mw 958 f1_312)]) (E2 := [(rf_RW ct 0 mw 958 f1_312), (rf_MO mo mw ma mf m0 m1 mu mv u0 u1 iz th mb mn mpt mbg mwr mwk mlf men)]) (n := 2) [1, 0] rfl rfl (by decide))
            refine ty_kl (wr := [(rf_RW ct 0 mw 958 f1_312)]) (wc := ([(rf_MO mo mw ma mf m0 m1 mu mv u0 u1 iz th mb mn mpt mbg mwr mwk mlf men)] ++ ws_311)) (va_runV (As := [.int p1, .int 1]) (rest := [.int 20, .int p1, .ref mo]) ⟨hx, hb, hml, hown, hts⟩ (m_X11_sum l D ct S ws_311 ph xx mo mw ma mf m0 m1 mu mv u0 u1 iz mb th mn mpt mbg mwr mwk mlf men p1 (1 : Int32) _ hT h_mu h_mv h_u0 h_u1 hph hy1 (rf_c6 hR_314 hc) (by decide)) (cm_V 2 hts kc_X11_sum ki_RX11 kl_RX11_261 kv_X11_sum kx_X11_sum kd_X11_sum ⟨Nat.le_of_ble_eq_true rfl, Nat.le_of_ble_eq_true rfl⟩) (ty_preE (wr := [(rf_RW ct 0 mw 958 f1_312)]) (wc := ([(rf_MO mo mw ma mf m0 m1 mu mv u0 u1 iz th mb mn mpt mbg mwr mwk mlf men)] ++ ws_311)) (ci := 11) (q0 := 1) hP hK hD hS hA hX rfl rfl) rfl rfl hl.1 rfl (lv_room (Nat.le_of_ble_eq_true rfl)) dX11_ends_93 ⟨Nat.le_of_ble_eq_true rfl, Nat.le_of_ble_eq_true rfl⟩) hP hD hS hA (fun r_317 u H locs hw_318 hP hD hS => ?_)
            obtain ⟨ws_319, rfl⟩ : ∃ z, z = u := ⟨_, rfl⟩
            have hT := hw_318
            have hP : va_P D vwCl ([(rf_RW ct 0 mw 958 f1_312), (rf_MO mo mw ma mf m0 m1 mu mv u0 u1 iz th mb mn mpt mbg mwr mwk mlf men)] ++ ws_319) H := hP
            have hD : va_D A ([(rf_RW ct 0 mw 958 f1_312), (rf_MO mo mw ma mf m0 m1 mu mv u0 u1 iz th mb mn mpt mbg mwr mwk mlf men)] ++ ws_319) := hD
            refine lv_aload_n hx hb dX11_ends_96 rfl (lv_at hl 2 rfl) ?_
            refine lv_iload_n hx hb dX11_ends_97 rfl (lv_at hl 3 rfl) ?_
            refine lv_bipush (v := 6) hx hb dX11_ends_98 (by decide) ?_
            refine ty_kl (wr := [(rf_RW ct 0 mw 958 f1_312)]) (wc := ([(rf_MO mo mw ma mf m0 m1 mu mv u0 u1 iz th mb mn mpt mbg mwr mwk mlf men)] ++ ws_319)) (va_runV (As := [.int p1, .int 6]) (rest := [.long r_317, .int 20, .int p1, .ref mo]) ⟨hx, hb, hml, hown, hts⟩ (m_X11_sum l D ct S ws_319 ph xx mo mw ma mf m0 m1 mu mv u0 u1 iz mb th mn mpt mbg mwr mwk mlf men p1 (6 : Int32) _ hT h_mu h_mv h_u0 h_u1 hph hy1 (rf_c6 hR_314 hc) (by decide)) (cm_V 2 hts kc_X11_sum ki_RX11 kl_RX11_261 kv_X11_sum kx_X11_sum kd_X11_sum ⟨Nat.le_of_ble_eq_true rfl, Nat.le_of_ble_eq_true rfl⟩) (ty_preE (wr := [(rf_RW ct 0 mw 958 f1_312)]) (wc := ([(rf_MO mo mw ma mf m0 m1 mu mv u0 u1 iz th mb mn mpt mbg mwr mwk mlf men)] ++ ws_319)) (ci := 11) (q0 := 1) hP hK hD hS hA hX rfl rfl) rfl rfl hl.1 rfl (lv_room (Nat.le_of_ble_eq_true rfl)) dX11_ends_100 ⟨Nat.le_of_ble_eq_true rfl, Nat.le_of_ble_eq_true rfl⟩) hP hD hS hA (fun r_320 u H locs hw_321 hP hD hS => ?_)
            obtain ⟨ws_322, rfl⟩ : ∃ z, z = u := ⟨_, rfl⟩
            have hT := hw_321
            have hP : va_P D vwCl ([(rf_RW ct 0 mw 958 f1_312), (rf_MO mo mw ma mf m0 m1 mu mv u0 u1 iz th mb mn mpt mbg mwr mwk mlf men)] ++ ws_322) H := hP
            have hD : va_D A ([(rf_RW ct 0 mw 958 f1_312), (rf_MO mo mw ma mf m0 m1 mu mv u0 u1 iz th mb mn mpt mbg mwr mwk mlf men)] ++ ws_322) := hD
            refine lv_lsub hx hb dX11_ends_103 ?_
            refine lv_topl (fun x_323 _ => ?_)
            refine lv_l2i hx hb dX11_ends_104 rfl ?_
            refine lv_topi (fun x_324 _ => ?_)
            have hP : va_P D vwCl ([(rf_MO mo mw ma mf m0 m1 mu mv u0 u1 iz th mb mn mpt mbg mwr mwk mlf men), (rf_RW ct 0 mw 958 f1_312)] ++ ws_322) H := ty_permP hP (ty_ordp (E := [(rf_RW ct 0 mw 958 f1_312), (rf_MO mo mw ma mf m0 m1 mu mv u0 u1 iz th mb mn mpt mbg mwr mwk mlf men)]) (E2 := [(rf_MO mo mw ma mf m0 m1 mu mv u0 u1 iz th mb mn mpt mbg mwr mwk mlf men), (rf_RW ct 0 mw 958 f1_312)]) (n := 2) [1, 0] rfl rfl (by decide))
            have hD : va_D A ([(rf_MO mo mw ma mf m0 m1 mu mv u0 u1 iz th mb mn mpt mbg mwr mwk mlf men), (rf_RW ct 0 mw 958 f1_312)] ++ ws_322) := ty_permD hD (ty_ordp (E := [(rf_RW ct 0 mw 958 f1_312), (rf_MO mo mw ma mf m0 m1 mu mv u0 u1 iz th mb mn mpt mbg mwr mwk mlf men)]) (E2 := [(rf_MO mo mw ma mf m0 m1 mu mv u0 u1 iz th mb mn mpt mbg mwr mwk mlf men), (rf_RW ct 0 mw 958 f1_312)]) (n := 2) [1, 0] rfl rfl (by decide))
            refine ty_kv (wr := []) (wc := ([(rf_MO mo mw ma mf m0 m1 mu mv u0 u1 iz th mb mn mpt mbg mwr mwk mlf men), (rf_RW ct 0 mw 958 f1_312)] ++ ws_322)) (va_runV (As := [.int p1, .int 20, .int x_324]) (rest := []) ⟨hx, hb, hml, hown, hts⟩ (m_put_20 l D ct S ws_322 ph xx mo mw ma mf m0 m1 mu mv u0 u1 iz mb th mn mpt mbg mwr mwk mlf men f1_312 G cx p1 x_324 _ hT h_mu h_mv h_u0 h_u1 hph hy1 hR_314 hc) (cm_V 3 hts kc_X11_put ki_RX11 kl_RX11_234 kv_X11_put kx_X11_put kd_X11_put ⟨Nat.le_of_ble_eq_true rfl, Nat.le_of_ble_eq_true rfl⟩) (ty_preE (wr := []) (wc := ([(rf_MO mo mw ma mf m0 m1 mu mv u0 u1 iz th mb mn mpt mbg mwr mwk mlf men), (rf_RW ct 0 mw 958 f1_312)] ++ ws_322)) (ci := 11) (q0 := 0) hP hK hD hS hA hX rfl rfl) rfl rfl hl.1 rfl (lv_room (Nat.le_of_ble_eq_true rfl)) dX11_ends_105 ⟨Nat.le_of_ble_eq_true rfl, Nat.le_of_ble_eq_true rfl⟩) hP hD hS hA (fun u H locs hw_326 hP hD hS => ?_)
            obtain ⟨ws_327, f1_328⟩ := u
            obtain ⟨hT, hp_329⟩ := hw_326
            have hp_329 : rf_R G cx f1_328 ∧ rf_sm f1_312 f1_328 ∧ f1_328 = upd f1_312 (244 + 54 * p1.toInt.toNat + 20) x_324 := hp_329
            have hR_330 := hp_329.1
            have hM_331 := rf_smt hM_315 hp_329.2.1
            have ho_332 := rf_ons hR_314 hc hp_329.2.1 ho_316
            have hP : va_P D vwCl ([(rf_MO mo mw ma mf m0 m1 mu mv u0 u1 iz th mb mn mpt mbg mwr mwk mlf men), (rf_RW ct 0 mw 958 f1_328)] ++ ws_327) H := hP
            have hD : va_D A ([(rf_MO mo mw ma mf m0 m1 mu mv u0 u1 iz th mb mn mpt mbg mwr mwk mlf men), (rf_RW ct 0 mw 958 f1_328)] ++ ws_327) := hD
            refine lv_aload_n hx hb dX11_ends_108 rfl (lv_at hl 2 rfl) ?_
            refine lv_iload_n hx hb dX11_ends_109 rfl (lv_at hl 3 rfl) ?_
            refine ty_kv (wr := []) (wc := ([(rf_MO mo mw ma mf m0 m1 mu mv u0 u1 iz th mb mn mpt mbg mwr mwk mlf men), (rf_RW ct 0 mw 958 f1_328)] ++ ws_327)) (va_runV (As := [.int p1]) (rest := []) ⟨hx, hb, hml, hown, hts⟩ (m_X11_clears l D ct S ws_327 ph xx mo mw ma mf m0 m1 mu mv u0 u1 iz mb th mn mpt mbg mwr mwk mlf men f1_328 G cx p1 _ hT h_mu h_mv h_u0 h_u1 hph hy1 hy11 hR_330 hc) (cm_V 1 hts kc_X11_clears ki_RX11 kl_RX11_272 kv_X11_clears kx_X11_clears kd_X11_clears ⟨Nat.le_of_ble_eq_true rfl, Nat.le_of_ble_eq_true rfl⟩) (ty_preE (wr := []) (wc := ([(rf_MO mo mw ma mf m0 m1 mu mv u0 u1 iz th mb mn mpt mbg mwr mwk mlf men), (rf_RW ct 0 mw 958 f1_328)] ++ ws_327)) (ci := 11) (q0 := 0) hP hK hD hS hA hX rfl rfl) rfl rfl hl.1 rfl (lv_room (Nat.le_of_ble_eq_true rfl)) dX11_ends_110 ⟨Nat.le_of_ble_eq_true rfl, Nat.le_of_ble_eq_true rfl⟩) hP hD hS hA (fun u H locs hw_334 hP hD hS => ?_)
            obtain ⟨ws_335, f1_336⟩ := u
            obtain ⟨hT, hp_337⟩ := hw_334
            have hp_337 : rf_R G cx f1_336 ∧ rf_sm f1_328 f1_336 := hp_337
            have hR_338 := hp_337.1
            have hM_339 := rf_smt hM_331 hp_337.2
            have ho_340 := rf_ons hR_330 hc hp_337.2 ho_332
            have hP : va_P D vwCl ([(rf_MO mo mw ma mf m0 m1 mu mv u0 u1 iz th mb mn mpt mbg mwr mwk mlf men), (rf_RW ct 0 mw 958 f1_336)] ++ ws_335) H := hP
            have hD : va_D A ([(rf_MO mo mw ma mf m0 m1 mu mv u0 u1 iz th mb mn mpt mbg mwr mwk mlf men), (rf_RW ct 0 mw 958 f1_336)] ++ ws_335) := hD
            exact W.vret hx hb hr (fun t ht hW => ⟨⟨(ws_335, f1_336), rfl, ⟨hT, ⟨hR_338, hM_339⟩⟩, by rw [ht]; exact hP, by rw [hAe]; exact hD⟩, hS.F ht⟩) hS.2.2 dX11_ends_113
      · exact W.vret hx hb hr (fun t ht hW => ⟨⟨(ws_259, f1_260), rfl, ⟨hT, ⟨hR_262, hM_263⟩⟩, by rw [ht]; exact hP, by rw [hAe]; exact hD⟩, hS.F ht⟩) hS.2.2 dX11_ends_43
