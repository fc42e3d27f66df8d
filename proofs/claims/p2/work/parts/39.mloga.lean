theorem dX11_notes_0 : decode cX11_notes 0 = .ok (.aload_n 0, 1) := by decide +kernel
theorem dX11_notes_1 : decode cX11_notes 1 = .ok (.getfield 9, 3) := by decide +kernel
theorem dX11_notes_4 : decode cX11_notes 4 = .ok (.bipush 17, 2) := by decide +kernel
theorem dX11_notes_6 : decode cX11_notes 6 = .ok (.iaload, 1) := by decide +kernel
theorem dX11_notes_7 : decode cX11_notes 7 = .ok (.bipush 60, 2) := by decide +kernel
theorem dX11_notes_9 : decode cX11_notes 9 = .ok (.if_icmp .ne 49, 3) := by decide +kernel
theorem dX11_notes_12 : decode cX11_notes 12 = .ok (.sipush 718, 3) := by decide +kernel
theorem dX11_notes_15 : decode cX11_notes 15 = .ok (.istore 4, 2) := by decide +kernel
theorem dX11_notes_17 : decode cX11_notes 17 = .ok (.iload 4, 2) := by decide +kernel
theorem dX11_notes_19 : decode cX11_notes 19 = .ok (.sipush 954, 3) := by decide +kernel
theorem dX11_notes_22 : decode cX11_notes 22 = .ok (.if_icmp .ge 25, 3) := by decide +kernel
theorem dX11_notes_25 : decode cX11_notes 25 = .ok (.aload_n 0, 1) := by decide +kernel
theorem dX11_notes_26 : decode cX11_notes 26 = .ok (.getfield 9, 3) := by decide +kernel
theorem dX11_notes_29 : decode cX11_notes 29 = .ok (.iload 4, 2) := by decide +kernel
theorem dX11_notes_31 : decode cX11_notes 31 = .ok (.aload_n 0, 1) := by decide +kernel
theorem dX11_notes_32 : decode cX11_notes 32 = .ok (.getfield 9, 3) := by decide +kernel
theorem dX11_notes_35 : decode cX11_notes 35 = .ok (.iload 4, 2) := by decide +kernel
theorem dX11_notes_37 : decode cX11_notes 37 = .ok (.iconst 4, 1) := by decide +kernel
theorem dX11_notes_38 : decode cX11_notes 38 = .ok (.iadd, 1) := by decide +kernel
theorem dX11_notes_39 : decode cX11_notes 39 = .ok (.iaload, 1) := by decide +kernel
theorem dX11_notes_40 : decode cX11_notes 40 = .ok (.iastore, 1) := by decide +kernel
theorem dX11_notes_41 : decode cX11_notes 41 = .ok (.iinc 4 1, 3) := by decide +kernel
theorem dX11_notes_44 : decode cX11_notes 44 = .ok (.goto (-27), 3) := by decide +kernel
theorem dX11_notes_47 : decode cX11_notes 47 = .ok (.aload_n 0, 1) := by decide +kernel
theorem dX11_notes_48 : decode cX11_notes 48 = .ok (.getfield 9, 3) := by decide +kernel
theorem dX11_notes_51 : decode cX11_notes 51 = .ok (.bipush 17, 2) := by decide +kernel
theorem dX11_notes_53 : decode cX11_notes 53 = .ok (.dup2, 1) := by decide +kernel
theorem dX11_notes_54 : decode cX11_notes 54 = .ok (.iaload, 1) := by decide +kernel
theorem dX11_notes_55 : decode cX11_notes 55 = .ok (.iconst 1, 1) := by decide +kernel
theorem dX11_notes_56 : decode cX11_notes 56 = .ok (.isub, 1) := by decide +kernel
theorem dX11_notes_57 : decode cX11_notes 57 = .ok (.iastore, 1) := by decide +kernel
theorem dX11_notes_58 : decode cX11_notes 58 = .ok (.sipush 718, 3) := by decide +kernel
theorem dX11_notes_61 : decode cX11_notes 61 = .ok (.iconst 4, 1) := by decide +kernel
theorem dX11_notes_62 : decode cX11_notes 62 = .ok (.aload_n 0, 1) := by decide +kernel
theorem dX11_notes_63 : decode cX11_notes 63 = .ok (.getfield 9, 3) := by decide +kernel
theorem dX11_notes_66 : decode cX11_notes 66 = .ok (.bipush 17, 2) := by decide +kernel
theorem dX11_notes_68 : decode cX11_notes 68 = .ok (.iaload, 1) := by decide +kernel
theorem dX11_notes_69 : decode cX11_notes 69 = .ok (.imul, 1) := by decide +kernel
theorem dX11_notes_70 : decode cX11_notes 70 = .ok (.iadd, 1) := by decide +kernel
theorem dX11_notes_71 : decode cX11_notes 71 = .ok (.istore 4, 2) := by decide +kernel
theorem dX11_notes_73 : decode cX11_notes 73 = .ok (.aload_n 0, 1) := by decide +kernel
theorem dX11_notes_74 : decode cX11_notes 74 = .ok (.getfield 9, 3) := by decide +kernel
theorem dX11_notes_77 : decode cX11_notes 77 = .ok (.iload 4, 2) := by decide +kernel
theorem dX11_notes_79 : decode cX11_notes 79 = .ok (.aload_n 0, 1) := by decide +kernel
theorem dX11_notes_80 : decode cX11_notes 80 = .ok (.getfield 9, 3) := by decide +kernel
theorem dX11_notes_83 : decode cX11_notes 83 = .ok (.bipush 8, 2) := by decide +kernel
theorem dX11_notes_85 : decode cX11_notes 85 = .ok (.iaload, 1) := by decide +kernel
theorem dX11_notes_86 : decode cX11_notes 86 = .ok (.iastore, 1) := by decide +kernel
theorem dX11_notes_87 : decode cX11_notes 87 = .ok (.aload_n 0, 1) := by decide +kernel
theorem dX11_notes_88 : decode cX11_notes 88 = .ok (.getfield 9, 3) := by decide +kernel
theorem dX11_notes_91 : decode cX11_notes 91 = .ok (.iload 4, 2) := by decide +kernel
theorem dX11_notes_93 : decode cX11_notes 93 = .ok (.iconst 1, 1) := by decide +kernel
theorem dX11_notes_94 : decode cX11_notes 94 = .ok (.iadd, 1) := by decide +kernel
theorem dX11_notes_95 : decode cX11_notes 95 = .ok (.iload_n 1, 1) := by decide +kernel
theorem dX11_notes_96 : decode cX11_notes 96 = .ok (.iastore, 1) := by decide +kernel
theorem dX11_notes_97 : decode cX11_notes 97 = .ok (.aload_n 0, 1) := by decide +kernel
theorem dX11_notes_98 : decode cX11_notes 98 = .ok (.getfield 9, 3) := by decide +kernel
theorem dX11_notes_101 : decode cX11_notes 101 = .ok (.iload 4, 2) := by decide +kernel
theorem dX11_notes_103 : decode cX11_notes 103 = .ok (.iconst 2, 1) := by decide +kernel
theorem dX11_notes_104 : decode cX11_notes 104 = .ok (.iadd, 1) := by decide +kernel
theorem dX11_notes_105 : decode cX11_notes 105 = .ok (.iload_n 2, 1) := by decide +kernel
theorem dX11_notes_106 : decode cX11_notes 106 = .ok (.iastore, 1) := by decide +kernel
theorem dX11_notes_107 : decode cX11_notes 107 = .ok (.aload_n 0, 1) := by decide +kernel
theorem dX11_notes_108 : decode cX11_notes 108 = .ok (.getfield 9, 3) := by decide +kernel
theorem dX11_notes_111 : decode cX11_notes 111 = .ok (.iload 4, 2) := by decide +kernel
theorem dX11_notes_113 : decode cX11_notes 113 = .ok (.iconst 3, 1) := by decide +kernel
theorem dX11_notes_114 : decode cX11_notes 114 = .ok (.iadd, 1) := by decide +kernel
theorem dX11_notes_115 : decode cX11_notes 115 = .ok (.iload_n 3, 1) := by decide +kernel
theorem dX11_notes_116 : decode cX11_notes 116 = .ok (.iastore, 1) := by decide +kernel
theorem dX11_notes_117 : decode cX11_notes 117 = .ok (.aload_n 0, 1) := by decide +kernel
theorem dX11_notes_118 : decode cX11_notes 118 = .ok (.getfield 9, 3) := by decide +kernel
theorem dX11_notes_121 : decode cX11_notes 121 = .ok (.bipush 17, 2) := by decide +kernel
theorem dX11_notes_123 : decode cX11_notes 123 = .ok (.dup2, 1) := by decide +kernel
theorem dX11_notes_124 : decode cX11_notes 124 = .ok (.iaload, 1) := by decide +kernel
theorem dX11_notes_125 : decode cX11_notes 125 = .ok (.iconst 1, 1) := by decide +kernel
theorem dX11_notes_126 : decode cX11_notes 126 = .ok (.iadd, 1) := by decide +kernel
theorem dX11_notes_127 : decode cX11_notes 127 = .ok (.iastore, 1) := by decide +kernel
theorem dX11_notes_128 : decode cX11_notes 128 = .ok (.return_, 1) := by decide +kernel
set_option maxRecDepth 100000 in
set_option maxHeartbeats 4000000 in
theorem m_X11_notes (l : Launch) (D : va_G) (ct : Nat → ClassId) (S : ty_S) (ws : va_W) (mo : Nat) (mw : Nat) (ma : Nat) (mf : Nat) (m0 : Nat) (m1 : Nat) (mu : Nat) (mv : Nat) (u0 : Nat) (u1 : Nat) (iz : Nat) (mb : Nat) (th : Int32) (mn : Int32) (mpt : Int32) (mbg : Int32) (mwr : Int32) (mwk : Int32) (mlf : Int32) (men : Int32) (f : Nat → Int32) (G : Nat → Int32) (cx : Int) (p1 : Int32) (p2 : Int32) (p3 : Int32) (sz : Nat) (hT : ty_W ct S ws) (h_mu : S mu = some (.inr (1, 42))) (h_mv : S mv = some (.inr (1, 42))) (h_u0 : S u0 = some (.inr (1, 42))) (h_u1 : S u1 = some (.inr (1, 42))) (hR : rf_R G cx f) : Met l yX11_notes (ws_ yX11_notes cX11_notes 5 none) ({ frames := 0, cells := 0, slots := 0, locals := 0 } : Room) (va_Pc [.ref mo, .int p1, .int p2, .int p3] (cmP D ct sz ([(mo, .inr (11, [.ref mw, .ref ma, .ref mf, .ref m0, .ref m1, .ref mu, .ref mv, .ref u0, .ref u1, .ref iz, .int th, .ref mb, .int mn, .int mpt, .int mbg, .int mwr, .int mwk, .int mlf, .int men])), (mw, .inl (ct 0, 958, .inl f))] ++ ws))) (va_Qv (fun (u : va_W × (Nat → Int32)) => match u with | (u9, f1) => ty_W ct S u9 ∧ rf_R G cx f1 ∧ rf_sm f f1) (cmB D ([(mo, .inr (11, [.ref mw, .ref ma, .ref mf, .ref m0, .ref m1, .ref mu, .ref mv, .ref u0, .ref u1, .ref iz, .int th, .ref mb, .int mn, .int mpt, .int mbg, .int mwr, .int mwk, .int mlf, .int men])), (mw, .inl (ct 0, 958, .inl f))] ++ ws) sz (fun (u : va_W × (Nat → Int32)) => match u with | (u9, f1) => ([(mo, .inr (11, [.ref mw, .ref ma, .ref mf, .ref m0, .ref m1, .ref mu, .ref mv, .ref u0, .ref u1, .ref iz, .int th, .ref mb, .int mn, .int mpt, .int mbg, .int mwr, .int mwk, .int mlf, .int men])), (mw, .inl (ct 0, 958, .inl f1))] ++ u9))) (va_A ([(mo, .inr (11, [.ref mw, .ref ma, .ref mf, .ref m0, .ref m1, .ref mu, .ref mv, .ref u0, .ref u1, .ref iz, .int th, .ref mb, .int mn, .int mpt, .int mbg, .int mwr, .int mwk, .int mlf, .int men])), (mw, .inl (ct 0, 958, .inl f))] ++ ws) sz)) 0 0 (va_A ([(mo, .inr (11, [.ref mw, .ref ma, .ref mf, .ref m0, .ref m1, .ref mu, .ref mv, .ref u0, .ref u1, .ref iz, .int th, .ref mb, .int mn, .int mpt, .int mbg, .int mwr, .int mwk, .int mlf, .int men])), (mw, .inl (ct 0, 958, .inl f))] ++ ws) sz) := by
  refine Met.ofW (cc := cX11_notes) (maxL := 5) (ret := none) (by decide) rfl ?_
  intro p e s m args below meth c s₁ B hml hv
  obtain ⟨rfl, hsz, hP, hK, hD0, hX⟩ := hv
  have hx := B.exec
  have hb := B.bytes
  have hr := B.returns
  have hts := ws_all (atoms_spec (ws := ws_ yX11_notes cX11_notes 5 none) B.pre)
  have hown : s.vm.findClass RX11 = some m.cls := findClass_of_methodNamed B.named
  have hlocks := B.notSynchronized
  subst hsz
  have hD := hD0.self (sz := s.heap.size)
  generalize hAe : va_A ([(mo, .inr (11, [.ref mw, .ref ma, .ref mf, .ref m0, .ref m1, .ref mu, .ref mv, .ref u0, .ref u1, .ref iz, .int th, .ref mb, .int mn, .int mpt, .int mbg, .int mwr, .int mwk, .int mlf, .int men])), (mw, .inl (ct 0, 958, .inl f))] ++ ws) s.heap.size = A at hD hX ⊢
  have hA : ∀ q : Nat, s.heap.size ≤ q → A q := fun q h => by rw [← hAe]; exact Or.inr h
  have hS : va_S A s.heap s.heap [] := va_S.rf
  have hl := lv_entry ([.ref mo, .int p1, .int p2, .int p3]) (n := 5) (Nat.le_of_ble_eq_true rfl)
  rw [lg_entry_eq]
  generalize (lg_sl ([.ref mo, .int p1, .int p2, .int p3]) ++ List.replicate (5 - (lg_sl ([.ref mo, .int p1, .int p2, .int p3])).length) Slot.unset).toArray = ls at hl ⊢
  have hl : lv_has ls 5 [(0, .ref mo), (1, .int p1), (2, .int p2), (3, .int p3)] := hl
  refine lv_aload_n hx hb dX11_notes_0 rfl (lv_at hl 0 rfl) ?_
  refine va_get (v := .ref mw) (D := D) (ci := 11) (C := RX11) (T := TX11) (N := 19) hx hb hts in_X11 hown hK hP 0 rfl rfl 0 (by decide) (hts _ kl_RX11_9) (fun _ h9 => h9) rfl dX11_notes_1 ?_
  refine lv_bipush (v := 17) hx hb dX11_notes_4 (by decide) ?_
  refine va_iald hx hb hK hP 1 0 rfl rfl (cm_vin (by decide)) dX11_notes_6 ?_
  refine cm_cst (y := (f 17)) (by first | rfl | decide +kernel) ?_
  refine lv_bipush (v := 60) hx hb dX11_notes_7 (by decide) ?_
  refine lv_icmp_ne (tgt := 58) hx hb dX11_notes_9 (by decide) (fun hc_1 => ?_) (fun hc_1 => ?_)
  · have hL_2 : 0 ≤ (f 17).toInt ∧ (f 17).toInt ≤ 59 := (rf_ne60 (N := 60) (by decide) hc_1 hR.2.2.1.2.2)
    refine lv_sipush (v := 718) hx hb dX11_notes_58 (by decide) ?_
    refine lv_iconst (v := 4) hx hb dX11_notes_61 (by decide) ?_
    refine lv_aload_n hx hb dX11_notes_62 rfl (lv_at hl 0 rfl) ?_
    refine va_get (v := .ref mw) (D := D) (ci := 11) (C := RX11) (T := TX11) (N := 19) hx hb hts in_X11 hown hK hP 0 rfl rfl 0 (by decide) (hts _ kl_RX11_9) (fun _ h9 => h9) rfl dX11_notes_63 ?_
    refine lv_bipush (v := 17) hx hb dX11_notes_66 (by decide) ?_
    refine va_iald hx hb hK hP 1 0 rfl rfl (cm_vin (by decide)) dX11_notes_68 ?_
    refine cm_cst (y := (f 17)) (by first | rfl | decide +kernel) ?_
    refine lv_imul hx hb dX11_notes_69 ?_
    refine lv_iadd hx hb dX11_notes_70 ?_
    refine lv_istore (lv' := [(4, .int (718 + (4 * (f 17)))), (0, .ref mo), (1, .int p1), (2, .int p2), (3, .int p3)]) hx hb dX11_notes_71 hl (by decide) rfl (fun ls hl => ?_)
    refine lv_aload_n hx hb dX11_notes_73 rfl (lv_at hl 1 rfl) ?_
    refine va_get (v := .ref mw) (D := D) (ci := 11) (C := RX11) (T := TX11) (N := 19) hx hb hts in_X11 hown hK hP 0 rfl rfl 0 (by decide) (hts _ kl_RX11_9) (fun _ h9 => h9) rfl dX11_notes_74 ?_
    refine lv_iload hx hb dX11_notes_77 (lv_at hl 0 rfl) ?_
    refine lv_aload_n hx hb dX11_notes_79 rfl (lv_at hl 1 rfl) ?_
    refine va_get (v := .ref mw) (D := D) (ci := 11) (C := RX11) (T := TX11) (N := 19) hx hb hts in_X11 hown hK hP 0 rfl rfl 0 (by decide) (hts _ kl_RX11_9) (fun _ h9 => h9) rfl dX11_notes_80 ?_
    refine lv_bipush (v := 8) hx hb dX11_notes_83 (by decide) ?_
    refine va_iald hx hb hK hP 1 0 rfl rfl (cm_vin (by decide)) dX11_notes_85 ?_
    refine cm_cst (y := (f 8)) (by first | rfl | decide +kernel) ?_
    refine va_iast hx hb hK hP hD hS 1 0 rfl rfl (rf_in1 (by have := (rf_nb0 (a := 718) (b := 4) (A := 718) (B := 4) (N := 59) (by decide) (by decide) hL_2 (by decide) (by decide) (by decide) (by decide)); omega)) dX11_notes_86 (fun H locs hP hD hS => ?_)
    have hP : va_P D vwCl ([(mo, .inr (11, [.ref mw, .ref ma, .ref mf, .ref m0, .ref m1, .ref mu, .ref mv, .ref u0, .ref u1, .ref iz, .int th, .ref mb, .int mn, .int mpt, .int mbg, .int mwr, .int mwk, .int mlf, .int men])), (mw, .inl (ct 0, 958, .inl (upd f (718 + (4 * (f 17))).toNatClampNeg (f 8))))] ++ ws) H := hP
    have hD : va_D A ([(mo, .inr (11, [.ref mw, .ref ma, .ref mf, .ref m0, .ref m1, .ref mu, .ref mv, .ref u0, .ref u1, .ref iz, .int th, .ref mb, .int mn, .int mpt, .int mbg, .int mwr, .int mwk, .int mlf, .int men])), (mw, .inl (ct 0, 958, .inl (upd f (718 + (4 * (f 17))).toNatClampNeg (f 8))))] ++ ws) := hD
    have hU_4 : rf_R G cx (upd f (718 + (4 * (f 17))).toNatClampNeg (f 8)) ∧ rf_sm f (upd f (718 + (4 * (f 17))).toNatClampNeg (f 8)) := (rf_free _ hR (Or.inr (rf_ge (rf_nb0 (a := 718) (b := 4) (A := 718) (B := 4) (N := 59) (by decide) (by decide) hL_2 (by decide) (by decide) (by decide) (by decide)).1)))
    generalize hf_7 : (upd f (718 + (4 * (f 17))).toNatClampNeg (f 8)) = f_3 at hP hD hU_4
    have hR_5 := hU_4.1
    have hM_6 := rf_smt (rf_smr f) hU_4.2
    have hq_8 : f_3 17 = f 17 := (rf_u17 hf_7 (rf_ge (rf_nb0 (a := 718) (b := 4) (A := 718) (B := 4) (N := 59) (by decide) (by decide) hL_2 (by decide) (by decide) (by decide) (by decide)).1) (by omega)).trans rfl
    refine lv_aload_n hx hb dX11_notes_87 rfl (lv_at hl 1 rfl) ?_
    refine va_get (v := .ref mw) (D := D) (ci := 11) (C := RX11) (T := TX11) (N := 19) hx hb hts in_X11 hown hK hP 0 rfl rfl 0 (by decide) (hts _ kl_RX11_9) (fun _ h9 => h9) rfl dX11_notes_88 ?_
    refine lv_iload hx hb dX11_notes_91 (lv_at hl 0 rfl) ?_
    refine lv_iconst (v := 1) hx hb dX11_notes_93 (by decide) ?_
    refine lv_iadd hx hb dX11_notes_94 ?_
    refine lv_iload_n hx hb dX11_notes_95 rfl (lv_at hl 2 rfl) ?_
    refine va_iast hx hb hK hP hD hS 1 0 rfl rfl (rf_in1 (by have := (rf_nb (a := 718) (b := 4) (A := 718) (B := 4) (N := 59) (k := 1) (K := 1) (by decide) (by decide) (by decide) hL_2 (by decide) (by decide) (by decide) (by decide) (by decide)); omega)) dX11_notes_96 (fun H locs hP hD hS => ?_)
    have hP : va_P D vwCl ([(mo, .inr (11, [.ref mw, .ref ma, .ref mf, .ref m0, .ref m1, .ref mu, .ref mv, .ref u0, .ref u1, .ref iz, .int th, .ref mb, .int mn, .int mpt, .int mbg, .int mwr, .int mwk, .int mlf, .int men])), (mw, .inl (ct 0, 958, .inl (upd f_3 ((718 + (4 * (f 17))) + 1).toNatClampNeg p1)))] ++ ws) H := hP
    have hD : va_D A ([(mo, .inr (11, [.ref mw, .ref ma, .ref mf, .ref m0, .ref m1, .ref mu, .ref mv, .ref u0, .ref u1, .ref iz, .int th, .ref mb, .int mn, .int mpt, .int mbg, .int mwr, .int mwk, .int mlf, .int men])), (mw, .inl (ct 0, 958, .inl (upd f_3 ((718 + (4 * (f 17))) + 1).toNatClampNeg p1)))] ++ ws) := hD
    have hU_10 : rf_R G cx (upd f_3 ((718 + (4 * (f 17))) + 1).toNatClampNeg p1) ∧ rf_sm f_3 (upd f_3 ((718 + (4 * (f 17))) + 1).toNatClampNeg p1) := (rf_free _ hR_5 (Or.inr (rf_ge (rf_nb (a := 718) (b := 4) (A := 718) (B := 4) (N := 59) (k := 1) (K := 1) (by decide) (by decide) (by decide) hL_2 (by decide) (by decide) (by decide) (by decide) (by decide)).1)))
    generalize hf_13 : (upd f_3 ((718 + (4 * (f 17))) + 1).toNatClampNeg p1) = f_9 at hP hD hU_10
    have hR_11 := hU_10.1
    have hM_12 := rf_smt hM_6 hU_10.2
    have hq_14 : f_9 17 = f 17 := (rf_u17 hf_13 (rf_ge (rf_nb (a := 718) (b := 4) (A := 718) (B := 4) (N := 59) (k := 1) (K := 1) (by decide) (by decide) (by decide) hL_2 (by decide) (by decide) (by decide) (by decide) (by decide)).1) (by omega)).trans hq_8
    refine lv_aload_n hx hb dX11_notes_97 rfl (lv_at hl 1 rfl) ?_
    refine va_get (v := .ref mw) (D := D) (ci := 11) (C := RX11) (T := TX11) (N := 19) hx hb hts in_X11 hown hK hP 0 rfl rfl 0 (by decide) (hts _ kl_RX11_9) (fun _ h9 => h9) rfl dX11_notes_98 ?_
    refine lv_iload hx hb dX11_notes_101 (lv_at hl 0 rfl) ?_
    refine lv_iconst (v := 2) hx hb dX11_notes_103 (by decide) ?_
    refine lv_iadd hx hb dX11_notes_104 ?_
    refine lv_iload_n hx hb dX11_notes_105 rfl (lv_at hl 3 rfl) ?_
    refine va_iast hx hb hK hP hD hS 1 0 rfl rfl (rf_in1 (by have := (rf_nb (a := 718) (b := 4) (A := 718) (B := 4) (N := 59) (k := 2) (K := 2) (by decide) (by decide) (by decide) hL_2 (by decide) (by decide) (by decide) (by decide) (by decide)); omega)) dX11_notes_106 (fun H locs hP hD hS => ?_)
    have hP : va_P D vwCl ([(mo, .inr (11, [.ref mw, .ref ma, .ref mf, .ref m0, .ref m1, .ref mu, .ref mv, .ref u0, .ref u1, .ref iz, .int th, .ref mb, .int mn, .int mpt, .int mbg, .int mwr, .int mwk, .int mlf, .int men])), (mw, .inl (ct 0, 958, .inl (upd f_9 ((718 + (4 * (f 17))) + 2).toNatClampNeg p2)))] ++ ws) H := hP
    have hD : va_D A ([(mo, .inr (11, [.ref mw, .ref ma, .ref mf, .ref m0, .ref m1, .ref mu, .ref mv, .ref u0, .ref u1, .ref iz, .int th, .ref mb, .int mn, .int mpt, .int mbg, .int mwr, .int mwk, .int mlf, .int men])), (mw, .inl (ct 0, 958, .inl (upd f_9 ((718 + (4 * (f 17))) + 2).toNatClampNeg p2)))] ++ ws) := hD
    have hU_16 : rf_R G cx (upd f_9 ((718 + (4 * (f 17))) + 2).toNatClampNeg p2) ∧ rf_sm f_9 (upd f_9 ((718 + (4 * (f 17))) + 2).toNatClampNeg p2) := (rf_free _ hR_11 (Or.inr (rf_ge (rf_nb (a := 718) (b := 4) (A := 718) (B := 4) (N := 59) (k := 2) (K := 2) (by decide) (by decide) (by decide) hL_2 (by decide) (by decide) (by decide) (by decide) (by decide)).1)))
    generalize hf_19 : (upd f_9 ((718 + (4 * (f 17))) + 2).toNatClampNeg p2) = f_15 at hP hD hU_16
    have hR_17 := hU_16.1
    have hM_18 := rf_smt hM_12 hU_16.2
    have hq_20 : f_15 17 = f 17 := (rf_u17 hf_19 (rf_ge (rf_nb (a := 718) (b := 4) (A := 718) (B := 4) (N := 59) (k := 2) (K := 2) (by decide) (by decide) (by decide) hL_2 (by decide) (by decide) (by decide) (by decide) (by decide)).1) (by omega)).trans hq_14
    refine lv_aload_n hx hb dX11_notes_107 rfl (lv_at hl 1 rfl) ?_
    refine va_get (v := .ref mw) (D := D) (ci := 11) (C := RX11) (T := TX11) (N := 19) hx hb hts in_X11 hown hK hP 0 rfl rfl 0 (by decide) (hts _ kl_RX11_9) (fun _ h9 => h9) rfl dX11_notes_108 ?_
    refine lv_iload hx hb dX11_notes_111 (lv_at hl 0 rfl) ?_
    refine lv_iconst (v := 3) hx hb dX11_notes_113 (by decide) ?_
    refine lv_iadd hx hb dX11_notes_114 ?_
    refine lv_iload_n hx hb dX11_notes_115 rfl (lv_at hl 4 rfl) ?_
    refine va_iast hx hb hK hP hD hS 1 0 rfl rfl (rf_in1 (by have := (rf_nb (a := 718) (b := 4) (A := 718) (B := 4) (N := 59) (k := 3) (K := 3) (by decide) (by decide) (by decide) hL_2 (by decide) (by decide) (by decide) (by decide) (by decide)); omega)) dX11_notes_116 (fun H locs hP hD hS => ?_)
    have hP : va_P D vwCl ([(mo, .inr (11, [.ref mw, .ref ma, .ref mf, .ref m0, .ref m1, .ref mu, .ref mv, .ref u0, .ref u1, .ref iz, .int th, .ref mb, .int mn, .int mpt, .int mbg, .int mwr, .int mwk, .int mlf, .int men])), (mw, .inl (ct 0, 958, .inl (upd f_15 ((718 + (4 * (f 17))) + 3).toNatClampNeg p3)))] ++ ws) H := hP
    have hD : va_D A ([(mo, .inr (11, [.ref mw, .ref ma, .ref mf, .ref m0, .ref m1, .ref mu, .ref mv, .ref u0, .ref u1, .ref iz, .int th, .ref mb, .int mn, .int mpt, .int mbg, .int mwr, .int mwk, .int mlf, .int men])), (mw, .inl (ct 0, 958, .inl (upd f_15 ((718 + (4 * (f 17))) + 3).toNatClampNeg p3)))] ++ ws) := hD
    have hU_22 : rf_R G cx (upd f_15 ((718 + (4 * (f 17))) + 3).toNatClampNeg p3) ∧ rf_sm f_15 (upd f_15 ((718 + (4 * (f 17))) + 3).toNatClampNeg p3) := (rf_free _ hR_17 (Or.inr (rf_ge (rf_nb (a := 718) (b := 4) (A := 718) (B := 4) (N := 59) (k := 3) (K := 3) (by decide) (by decide) (by decide) hL_2 (by decide) (by decide) (by decide) (by decide) (by decide)).1)))
    generalize hf_25 : (upd f_15 ((718 + (4 * (f 17))) + 3).toNatClampNeg p3) = f_21 at hP hD hU_22
    have hR_23 := hU_22.1
    have hM_24 := rf_smt hM_18 hU_22.2
    have hq_26 : f_21 17 = f 17 := (rf_u17 hf_25 (rf_ge (rf_nb (a := 718) (b := 4) (A := 718) (B := 4) (N := 59) (k := 3) (K := 3) (by decide) (by decide) (by decide) hL_2 (by decide) (by decide) (by decide) (by decide) (by decide)).1) (by omega)).trans hq_20
    refine lv_aload_n hx hb dX11_notes_117 rfl (lv_at hl 1 rfl) ?_
    refine va_get (v := .ref mw) (D := D) (ci := 11) (C := RX11) (T := TX11) (N := 19) hx hb hts in_X11 hown hK hP 0 rfl rfl 0 (by decide) (hts _ kl_RX11_9) (fun _ h9 => h9) rfl dX11_notes_118 ?_
    refine lv_bipush (v := 17) hx hb dX11_notes_121 (by decide) ?_
    refine lv_dup2_11 hx hb dX11_notes_123 rfl rfl ?_
    refine va_iald hx hb hK hP 1 0 rfl rfl (cm_vin (by decide)) dX11_notes_124 ?_
    refine cm_cst (y := (f_21 17)) (by first | rfl | decide +kernel) ?_
    refine lv_iconst (v := 1) hx hb dX11_notes_125 (by decide) ?_
    refine lv_iadd hx hb dX11_notes_126 ?_
    refine va_iast hx hb hK hP hD hS 1 0 rfl rfl (cm_vin (by decide)) dX11_notes_127 (fun H locs hP hD hS => ?_)
    have hP : va_P D vwCl ([(mo, .inr (11, [.ref mw, .ref ma, .ref mf, .ref m0, .ref m1, .ref mu, .ref mv, .ref u0, .ref u1, .ref iz, .int th, .ref mb, .int mn, .int mpt, .int mbg, .int mwr, .int mwk, .int mlf, .int men])), (mw, .inl (ct 0, 958, .inl (upd f_21 (17 : Int32).toNatClampNeg ((f_21 17) + 1))))] ++ ws) H := hP
    have hD : va_D A ([(mo, .inr (11, [.ref mw, .ref ma, .ref mf, .ref m0, .ref m1, .ref mu, .ref mv, .ref u0, .ref u1, .ref iz, .int th, .ref mb, .int mn, .int mpt, .int mbg, .int mwr, .int mwk, .int mlf, .int men])), (mw, .inl (ct 0, 958, .inl (upd f_21 (17 : Int32).toNatClampNeg ((f_21 17) + 1))))] ++ ws) := hD
    have hU_28 : rf_R G cx (upd f_21 (17 : Int32).toNatClampNeg ((f_21 17) + 1)) ∧ rf_sm f_21 (upd f_21 (17 : Int32).toNatClampNeg ((f_21 17) + 1)) := (rf_num17 hR_23 (by rw [hq_26]; have := rf_inc9 hL_2 (by omega) (by omega); omega))
    generalize hf_31 : (upd f_21 (17 : Int32).toNatClampNeg ((f_21 17) + 1)) = f_27 at hP hD hU_28
    have hR_29 := hU_28.1
    have hM_30 := rf_smt hM_24 hU_28.2
    exact W.vret hx hb hr (fun t ht hW => ⟨⟨(ws, f_27), rfl, ⟨hT, ⟨hR_29, hM_30⟩⟩, by rw [ht]; exact hP, by rw [hAe]; exact hD⟩, hS.F ht⟩) hS.2.2 dX11_notes_128
  · refine lv_sipush (v := 718) hx hb dX11_notes_12 (by decide) ?_
    refine lv_istore (lv' := [(4, .int 718), (0, .ref mo), (1, .int p1), (2, .int p2), (3, .int p3)]) hx hb dX11_notes_15 hl (by decide) rfl (fun ls hl => ?_)
    refine ty_loop (I := fun μ H locs ls => ∃ (ws : va_W) (y_32 : Int32) (f_33 : Nat → Int32), μ = (2147483648 - y_32.toInt).toNat ∧ ty_W ct S ws ∧ va_P D vwCl ([(mo, .inr (11, [.ref mw, .ref ma, .ref mf, .ref m0, .ref m1, .ref mu, .ref mv, .ref u0, .ref u1, .ref iz, .int th, .ref mb, .int mn, .int mpt, .int mbg, .int mwr, .int mwk, .int mlf, .int men])), (mw, .inl (ct 0, 958, .inl f_33))] ++ ws) H ∧ va_D A ([(mo, .inr (11, [.ref mw, .ref ma, .ref mf, .ref m0, .ref m1, .ref mu, .ref mv, .ref u0, .ref u1, .ref iz, .int th, .ref mb, .int mn, .int mpt, .int mbg, .int mwr, .int mwk, .int mlf, .int men])), (mw, .inl (ct 0, 958, .inl f_33))] ++ ws) ∧ va_S A s.heap H locs ∧ lv_has ls 5 [(0, .ref mo), (1, .int p1), (2, .int p2), (3, .int p3), (4, .int y_32)] ∧ rf_R G cx f_33 ∧ rf_sm f f_33 ∧ (718 ≤ y_32.toInt ∧ y_32.toInt ≤ 954) ∧ f_33 17 = 60) ⟨_, ws, (718 : Int32), f, rfl, hT, hP, hD, hS, (lv_sub hl [1, 2, 3, 4, 0] rfl), hR, (rf_smr f), ⟨by decide, by decide⟩, hc_1⟩ (fun μ H locs ls hI ih_17 => ?_)
    obtain ⟨ws, y_32, f_33, rfl, hT, hP, hD, hS, hl, hR_17, hM_17, hex_17⟩ := hI
    refine lv_iload hx hb dX11_notes_17 (lv_at hl 4 rfl) ?_
    refine lv_sipush (v := 954) hx hb dX11_notes_19 (by decide) ?_
    refine lv_icmp_ge (tgt := 47) hx hb dX11_notes_22 (by decide) (fun hc_34 => ?_) (fun hc_34 => ?_)
    · refine lv_aload_n hx hb dX11_notes_47 rfl (lv_at hl 0 rfl) ?_
      refine va_get (v := .ref mw) (D := D) (ci := 11) (C := RX11) (T := TX11) (N := 19) hx hb hts in_X11 hown hK hP 0 rfl rfl 0 (by decide) (hts _ kl_RX11_9) (fun _ h9 => h9) rfl dX11_notes_48 ?_
      refine lv_bipush (v := 17) hx hb dX11_notes_51 (by decide) ?_
      refine lv_dup2_11 hx hb dX11_notes_53 rfl rfl ?_
      refine va_iald hx hb hK hP 1 0 rfl rfl (cm_vin (by decide)) dX11_notes_54 ?_
      refine cm_cst (y := (f_33 17)) (by first | rfl | decide +kernel) ?_
      refine lv_iconst (v := 1) hx hb dX11_notes_55 (by decide) ?_
      refine lv_isub hx hb dX11_notes_56 ?_
      refine va_iast hx hb hK hP hD hS 1 0 rfl rfl (cm_vin (by decide)) dX11_notes_57 (fun H locs hP hD hS => ?_)
      have hP : va_P D vwCl ([(mo, .inr (11, [.ref mw, .ref ma, .ref mf, .ref m0, .ref m1, .ref mu, .ref mv, .ref u0, .ref u1, .ref iz, .int th, .ref mb, .int mn, .int mpt, .int mbg, .int mwr, .int mwk, .int mlf, .int men])), (mw, .inl (ct 0, 958, .inl (upd f_33 (17 : Int32).toNatClampNeg ((f_33 17) - 1))))] ++ ws) H := hP
      have hD : va_D A ([(mo, .inr (11, [.ref mw, .ref ma, .ref mf, .ref m0, .ref m1, .ref mu, .ref mv, .ref u0, .ref u1, .ref iz, .int th, .ref mb, .int mn, .int mpt, .int mbg, .int mwr, .int mwk, .int mlf, .int men])), (mw, .inl (ct 0, 958, .inl (upd f_33 (17 : Int32).toNatClampNeg ((f_33 17) - 1))))] ++ ws) := hD
      have hU_36 : rf_R G cx (upd f_33 (17 : Int32).toNatClampNeg ((f_33 17) - 1)) ∧ rf_sm f_33 (upd f_33 (17 : Int32).toNatClampNeg ((f_33 17) - 1)) := (rf_num17 hR_17 (by rw [hex_17.2]; decide))
      generalize hf_39 : (upd f_33 (17 : Int32).toNatClampNeg ((f_33 17) - 1)) = f_35 at hP hD hU_36
      have hR_37 := hU_36.1
      have hM_38 := rf_smt hM_17 hU_36.2
      have hL_40 : 0 ≤ (f_35 17).toInt ∧ (f_35 17).toInt ≤ 59 := (by rw [rf_at17 hf_39, hex_17.2]; decide)
      refine lv_sipush (v := 718) hx hb dX11_notes_58 (by decide) ?_
      refine lv_iconst (v := 4) hx hb dX11_notes_61 (by decide) ?_
      refine lv_aload_n hx hb dX11_notes_62 rfl (lv_at hl 0 rfl) ?_
      refine va_get (v := .ref mw) (D := D) (ci := 11) (C := RX11) (T := TX11) (N := 19) hx hb hts in_X11 hown hK hP 0 rfl rfl 0 (by decide) (hts _ kl_RX11_9) (fun _ h9 => h9) rfl dX11_notes_63 ?_
      refine lv_bipush (v := 17) hx hb dX11_notes_66 (by decide) ?_
      refine va_iald hx hb hK hP 1 0 rfl rfl (cm_vin (by decide)) dX11_notes_68 ?_
      refine cm_cst (y := (f_35 17)) (by first | rfl | decide +kernel) ?_
      refine lv_imul hx hb dX11_notes_69 ?_
      refine lv_iadd hx hb dX11_notes_70 ?_
      refine lv_istore (lv' := [(4, .int (718 + (4 * (f_35 17)))), (0, .ref mo), (1, .int p1), (2, .int p2), (3, .int p3)]) hx hb dX11_notes_71 hl (by decide) rfl (fun ls hl => ?_)
      refine lv_aload_n hx hb dX11_notes_73 rfl (lv_at hl 1 rfl) ?_
      refine va_get (v := .ref mw) (D := D) (ci := 11) (C := RX11) (T := TX11) (N := 19) hx hb hts in_X11 hown hK hP 0 rfl rfl 0 (by decide) (hts _ kl_RX11_9) (fun _ h9 => h9) rfl dX11_notes_74 ?_
      refine lv_iload hx hb dX11_notes_77 (lv_at hl 0 rfl) ?_
      refine lv_aload_n hx hb dX11_notes_79 rfl (lv_at hl 1 rfl) ?_
      refine va_get (v := .ref mw) (D := D) (ci := 11) (C := RX11) (T := TX11) (N := 19) hx hb hts in_X11 hown hK hP 0 rfl rfl 0 (by decide) (hts _ kl_RX11_9) (fun _ h9 => h9) rfl dX11_notes_80 ?_
      refine lv_bipush (v := 8) hx hb dX11_notes_83 (by decide) ?_
      refine va_iald hx hb hK hP 1 0 rfl rfl (cm_vin (by decide)) dX11_notes_85 ?_
      refine cm_cst (y := (f_35 8)) (by first | rfl | decide +kernel) ?_
      refine va_iast hx hb hK hP hD hS 1 0 rfl rfl (rf_in1 (by have := (rf_nb0 (a := 718) (b := 4) (A := 718) (B := 4) (N := 59) (by decide) (by decide) hL_40 (by decide) (by decide) (by decide) (by decide)); omega)) dX11_notes_86 (fun H locs hP hD hS => ?_)
      have hP : va_P D vwCl ([(mo, .inr (11, [.ref mw, .ref ma, .ref mf, .ref m0, .ref m1, .ref mu, .ref mv, .ref u0, .ref u1, .ref iz, .int th, .ref mb, .int mn, .int mpt, .int mbg, .int mwr, .int mwk, .int mlf, .int men])), (mw, .inl (ct 0, 958, .inl (upd f_35 (718 + (4 * (f_35 17))).toNatClampNeg (f_35 8))))] ++ ws) H := hP
      have hD : va_D A ([(mo, .inr (11, [.ref mw, .ref ma, .ref mf, .ref m0, .ref m1, .ref mu, .ref mv, .ref u0, .ref u1, .ref iz, .int th, .ref mb, .int mn, .int mpt, .int mbg, .int mwr, .int mwk, .int mlf, .int men])), (mw, .inl (ct 0, 958, .inl (upd f_35 (718 + (4 * (f_35 17))).toNatClampNeg (f_35 8))))] ++ ws) := hD
      have hU_42 : rf_R G cx (upd f_35 (718 + (4 * (f_35 17))).toNatClampNeg (f_35 8)) ∧ rf_sm f_35 (upd f_35 (718 + (4 * (f_35 17))).toNatClampNeg (f_35 8)) := (rf_free _ hR_37 (Or.inr (rf_ge (rf_nb0 (a := 718) (b := 4) (A := 718) (B := 4) (N := 59) (by decide) (by decide) hL_40 (by decide) (by decide) (by decide) (by decide)).1)))
      generalize hf_45 : (upd f_35 (718 + (4 * (f_35 17))).toNatClampNeg (f_35 8)) = f_41 at hP hD hU_42
      have hR_43 := hU_42.1
      have hM_44 := rf_smt hM_38 hU_42.2
      have hq_46 : f_41 17 = f_35 17 := (rf_u17 hf_45 (rf_ge (rf_nb0 (a := 718) (b := 4) (A := 718) (B := 4) (N := 59) (by decide) (by decide) hL_40 (by decide) (by decide) (by decide) (by decide)).1) (by omega)).trans rfl
      refine lv_aload_n hx hb dX11_notes_87 rfl (lv_at hl 1 rfl) ?_
      refine va_get (v := .ref mw) (D := D) (ci := 11) (C := RX11) (T := TX11) (N := 19) hx hb hts in_X11 hown hK hP 0 rfl rfl 0 (by decide) (hts _ kl_RX11_9) (fun _ h9 => h9) rfl dX11_notes_88 ?_
      refine lv_iload hx hb dX11_notes_91 (lv_at hl 0 rfl) ?_
      refine lv_iconst (v := 1) hx hb dX11_notes_93 (by decide) ?_
      refine lv_iadd hx hb dX11_notes_94 ?_
      refine lv_iload_n hx hb dX11_notes_95 rfl (lv_at hl 2 rfl) ?_
      refine va_iast hx hb hK hP hD hS 1 0 rfl rfl (rf_in1 (by have := (rf_nb (a := 718) (b := 4) (A := 718) (B := 4) (N := 59) (k := 1) (K := 1) (by decide) (by decide) (by decide) hL_40 (by decide) (by decide) (by decide) (by decide) (by decide)); omega)) dX11_notes_96 (fun H locs hP hD hS => ?_)
      have hP : va_P D vwCl ([(mo, .inr (11, [.ref mw, .ref ma, .ref mf, .ref m0, .ref m1, .ref mu, .ref mv, .ref u0, .ref u1, .ref iz, .int th, .ref mb, .int mn, .int mpt, .int mbg, .int mwr, .int mwk, .int mlf, .int men])), (mw, .inl (ct 0, 958, .inl (upd f_41 ((718 + (4 * (f_35 17))) + 1).toNatClampNeg p1)))] ++ ws) H := hP
      have hD : va_D A ([(mo, .inr (11, [.ref mw, .ref ma, .ref mf, .ref m0, .ref m1, .ref mu, .ref mv, .ref u0, .ref u1, .ref iz, .int th, .ref mb, .int mn, .int mpt, .int mbg, .int mwr, .int mwk, .int mlf, .int men])), (mw, .inl (ct 0, 958, .inl (upd f_41 ((718 + (4 * (f_35 17))) + 1).toNatClampNeg p1)))] ++ ws) := hD
      have hU_48 : rf_R G cx (upd f_41 ((718 + (4 * (f_35 17))) + 1).toNatClampNeg p1) ∧ rf_sm f_41 (upd f_41 ((718 + (4 * (f_35 17))) + 1).toNatClampNeg p1) := (rf_free _ hR_43 (Or.inr (rf_ge (rf_nb (a := 718) (b := 4) (A := 718) (B := 4) (N := 59) (k := 1) (K := 1) (by decide) (by decide) (by decide) hL_40 (by decide) (by decide) (by decide) (by decide) (by decide)).1)))
      generalize hf_51 : (upd f_41 ((718 + (4 * (f_35 17))) + 1).toNatClampNeg p1) = f_47 at hP hD hU_48
      have hR_49 := hU_48.1
      have hM_50 := rf_smt hM_44 hU_48.2
      have hq_52 : f_47 17 = f_35 17 := (rf_u17 hf_51 (rf_ge (rf_nb (a := 718) (b := 4) (A := 718) (B := 4) (N := 59) (k := 1) (K := 1) (by decide) (by decide) (by decide) hL_40 (by decide) (by decide) (by decide) (by decide) (by decide)).1) (by omega)).trans hq_46
      refine lv_aload_n hx hb dX11_notes_97 rfl (lv_at hl 1 rfl) ?_
      refine va_get (v := .ref mw) (D := D) (ci := 11) (C := RX11) (T := TX11) (N := 19) hx hb hts in_X11 hown hK hP 0 rfl rfl 0 (by decide) (hts _ kl_RX11_9) (fun _ h9 => h9) rfl dX11_notes_98 ?_
      refine lv_iload hx hb dX11_notes_101 (lv_at hl 0 rfl) ?_
      refine lv_iconst (v := 2) hx hb dX11_notes_103 (by decide) ?_
      refine lv_iadd hx hb dX11_notes_104 ?_
      refine lv_iload_n hx hb dX11_notes_105 rfl (lv_at hl 3 rfl) ?_
      refine va_iast hx hb hK hP hD hS 1 0 rfl rfl (rf_in1 (by have := (rf_nb (a := 718) (b := 4) (A := 718) (B := 4) (N := 59) (k := 2) (K := 2) (by decide) (by decide) (by decide) hL_40 (by decide) (by decide) (by decide) (by decide) (by decide)); omega)) dX11_notes_106 (fun H locs hP hD hS => ?_)
      have hP : va_P D vwCl ([(mo, .inr (11, [.ref mw, .ref ma, .ref mf, .ref m0, .ref m1, .ref mu, .ref mv, .ref u0, .ref u1, .ref iz, .int th, .ref mb, .int mn, .int mpt, .int mbg, .int mwr, .int mwk, .int mlf, .int men])), (mw, .inl (ct 0, 958, .inl (upd f_47 ((718 + (4 * (f_35 17))) + 2).toNatClampNeg p2)))] ++ ws) H := hP
      have hD : va_D A ([(mo, .inr (11, [.ref mw, .ref ma, .ref mf, .ref m0, .ref m1, .ref mu, .ref mv, .ref u0, .ref u1, .ref iz, .int th, .ref mb, .int mn, .int mpt, .int mbg, .int mwr, .int mwk, .int mlf, .int men])), (mw, .inl (ct 0, 958, .inl (upd f_47 ((718 + (4 * (f_35 17))) + 2).toNatClampNeg p2)))] ++ ws) := hD
      have hU_54 : rf_R G cx (upd f_47 ((718 + (4 * (f_35 17))) + 2).toNatClampNeg p2) ∧ rf_sm f_47 (upd f_47 ((718 + (4 * (f_35 17))) + 2).toNatClampNeg p2) := (rf_free _ hR_49 (Or.inr (rf_ge (rf_nb (a := 718) (b := 4) (A := 718) (B := 4) (N := 59) (k := 2) (K := 2) (by decide) (by decide) (by decide) hL_40 (by decide) (by decide) (by decide) (by decide) (by decide)).1)))
      generalize hf_57 : (upd f_47 ((718 + (4 * (f_35 17))) + 2).toNatClampNeg p2) = f_53 at hP hD hU_54
      have hR_55 := hU_54.1
      have hM_56 := rf_smt hM_50 hU_54.2
      have hq_58 : f_53 17 = f_35 17 := (rf_u17 hf_57 (rf_ge (rf_nb (a := 718) (b := 4) (A := 718) (B := 4) (N := 59) (k := 2) (K := 2) (by decide) (by decide) (by decide) hL_40 (by decide) (by decide) (by decide) (by decide) (by decide)).1) (by omega)).trans hq_52
      refine lv_aload_n hx hb dX11_notes_107 rfl (lv_at hl 1 rfl) ?_
      refine va_get (v := .ref mw) (D := D) (ci := 11) (C := RX11) (T := TX11) (N := 19) hx hb hts in_X11 hown hK hP 0 rfl rfl 0 (by decide) (hts _ kl_RX11_9) (fun _ h9 => h9) rfl dX11_notes_108 ?_
      refine lv_iload hx hb dX11_notes_111 (lv_at hl 0 rfl) ?_
      refine lv_iconst (v := 3) hx hb dX11_notes_113 (by decide) ?_
      refine lv_iadd hx hb dX11_notes_114 ?_
      refine lv_iload_n hx hb dX11_notes_115 rfl (lv_at hl 4 rfl) ?_
      refine va_iast hx hb hK hP hD hS 1 0 rfl rfl (rf_in1 (by have := (rf_nb (a := 718) (b := 4) (A := 718) (B := 4) (N := 59) (k := 3) (K := 3) (by decide) (by decide) (by decide) hL_40 (by decide) (by decide) (by decide) (by decide) (by decide)); omega)) dX11_notes_116 (fun H locs hP hD hS => ?_)
      have hP : va_P D vwCl ([(mo, .inr (11, [.ref mw, .ref ma, .ref mf, .ref m0, .ref m1, .ref mu, .ref mv, .ref u0, .ref u1, .ref iz, .int th, .ref mb, .int mn, .int mpt, .int mbg, .int mwr, .int mwk, .int mlf, .int men])), (mw, .inl (ct 0, 958, .inl (upd f_53 ((718 + (4 * (f_35 17))) + 3).toNatClampNeg p3)))] ++ ws) H := hP
      have hD : va_D A ([(mo, .inr (11, [.ref mw, .ref ma, .ref mf, .ref m0, .ref m1, .ref mu, .ref mv, .ref u0, .ref u1, .ref iz, .int th, .ref mb, .int mn, .int mpt, .int mbg, .int mwr, .int mwk, .int mlf, .int men])), (mw, .inl (ct 0, 958, .inl (upd f_53 ((718 + (4 * (f_35 17))) + 3).toNatClampNeg p3)))] ++ ws) := hD
      have hU_60 : rf_R G cx (upd f_53 ((718 + (4 * (f_35 17))) + 3).toNatClampNeg p3) ∧ rf_sm f_53 (upd f_53 ((718 + (4 * (f_35 17))) + 3).toNatClampNeg p3) := (rf_free _ hR_55 (Or.inr (rf_ge (rf_nb (a := 718) (b := 4) (A := 718) (B := 4) (N := 59) (k := 3) (K := 3) (by decide) (by decide) (by decide) hL_40 (by decide) (by decide) (by decide) (by decide) (by decide)).1)))
      generalize hf_63 : (upd f_53 ((718 + (4 * (f_35 17))) + 3).toNatClampNeg p3) = f_59 at hP hD hU_60
      have hR_61 := hU_60.1
      have hM_62 := rf_smt hM_56 hU_60.2
      have hq_64 : f_59 17 = f_35 17 := (rf_u17 hf_63 (rf_ge (rf_nb (a := 718) (b := 4) (A := 718) (B := 4) (N := 59) (k := 3) (K := 3) (by decide) (by decide) (by decide) hL_40 (by decide) (by decide) (by decide) (by decide) (by decide)).1) (by omega)).trans hq_58
      refine lv_aload_n hx hb dX11_notes_117 rfl (lv_at hl 1 rfl) ?_
      refine va_get (v := .ref mw) (D := D) (ci := 11) (C := RX11) (T := TX11) (N := 19) hx hb hts in_X11 hown hK hP 0 rfl rfl 0 (by decide) (hts _ kl_RX11_9) (fun _ h9 => h9) rfl dX11_notes_118 ?_
      refine lv_bipush (v := 17) hx hb dX11_notes_121 (by decide) ?_
      refine lv_dup2_11 hx hb dX11_notes_123 rfl rfl ?_
      refine va_iald hx hb hK hP 1 0 rfl rfl (cm_vin (by decide)) dX11_notes_124 ?_
      refine cm_cst (y := (f_59 17)) (by first | rfl | decide +kernel) ?_
      refine lv_iconst (v := 1) hx hb dX11_notes_125 (by decide) ?_
      refine lv_iadd hx hb dX11_notes_126 ?_
      refine va_iast hx hb hK hP hD hS 1 0 rfl rfl (cm_vin (by decide)) dX11_notes_127 (fun H locs hP hD hS => ?_)
      have hP : va_P D vwCl ([(mo, .inr (11, [.ref mw, .ref ma, .ref mf, .ref m0, .ref m1, .ref mu, .ref mv, .ref u0, .ref u1, .ref iz, .int th, .ref mb, .int mn, .int mpt, .int mbg, .int mwr, .int mwk, .int mlf, .int men])), (mw, .inl (ct 0, 958, .inl (upd f_59 (17 : Int32).toNatClampNeg ((f_59 17) + 1))))] ++ ws) H := hP
      have hD : va_D A ([(mo, .inr (11, [.ref mw, .ref ma, .ref mf, .ref m0, .ref m1, .ref mu, .ref mv, .ref u0, .ref u1, .ref iz, .int th, .ref mb, .int mn, .int mpt, .int mbg, .int mwr, .int mwk, .int mlf, .int men])), (mw, .inl (ct 0, 958, .inl (upd f_59 (17 : Int32).toNatClampNeg ((f_59 17) + 1))))] ++ ws) := hD
      have hU_66 : rf_R G cx (upd f_59 (17 : Int32).toNatClampNeg ((f_59 17) + 1)) ∧ rf_sm f_59 (upd f_59 (17 : Int32).toNatClampNeg ((f_59 17) + 1)) := (rf_num17 hR_61 (by rw [hq_64]; have := rf_inc9 hL_40 (by omega) (by omega); omega))
      generalize hf_69 : (upd f_59 (17 : Int32).toNatClampNeg ((f_59 17) + 1)) = f_65 at hP hD hU_66
      have hR_67 := hU_66.1
      have hM_68 := rf_smt hM_62 hU_66.2
      exact W.vret hx hb hr (fun t ht hW => ⟨⟨(ws, f_65), rfl, ⟨hT, ⟨hR_67, hM_68⟩⟩, by rw [ht]; exact hP, by rw [hAe]; exact hD⟩, hS.F ht⟩) hS.2.2 dX11_notes_128
    · refine lv_aload_n hx hb dX11_notes_25 rfl (lv_at hl 0 rfl) ?_
      refine va_get (v := .ref mw) (D := D) (ci := 11) (C := RX11) (T := TX11) (N := 19) hx hb hts in_X11 hown hK hP 0 rfl rfl 0 (by decide) (hts _ kl_RX11_9) (fun _ h9 => h9) rfl dX11_notes_26 ?_
      refine lv_iload hx hb dX11_notes_29 (lv_at hl 4 rfl) ?_
      refine lv_aload_n hx hb dX11_notes_31 rfl (lv_at hl 0 rfl) ?_
      refine va_get (v := .ref mw) (D := D) (ci := 11) (C := RX11) (T := TX11) (N := 19) hx hb hts in_X11 hown hK hP 0 rfl rfl 0 (by decide) (hts _ kl_RX11_9) (fun _ h9 => h9) rfl dX11_notes_32 ?_
      refine lv_iload hx hb dX11_notes_35 (lv_at hl 4 rfl) ?_
      refine lv_iconst (v := 4) hx hb dX11_notes_37 (by decide) ?_
      refine lv_iadd hx hb dX11_notes_38 ?_
      refine va_iald hx hb hK hP 1 0 rfl rfl (rf_in2 (K := 4) (by decide) (by have := hex_17.1; have := rf_ng (b := 954) (by decide) hc_34; omega)) dX11_notes_39 ?_
      refine va_iast hx hb hK hP hD hS 1 0 rfl rfl (rf_in1 (by have := hex_17.1; omega)) dX11_notes_40 (fun H locs hP hD hS => ?_)
      have hP : va_P D vwCl ([(mo, .inr (11, [.ref mw, .ref ma, .ref mf, .ref m0, .ref m1, .ref mu, .ref mv, .ref u0, .ref u1, .ref iz, .int th, .ref mb, .int mn, .int mpt, .int mbg, .int mwr, .int mwk, .int mlf, .int men])), (mw, .inl (ct 0, 958, .inl (upd f_33 y_32.toNatClampNeg (f_33 (y_32 + 4).toNatClampNeg))))] ++ ws) H := hP
      have hD : va_D A ([(mo, .inr (11, [.ref mw, .ref ma, .ref mf, .ref m0, .ref m1, .ref mu, .ref mv, .ref u0, .ref u1, .ref iz, .int th, .ref mb, .int mn, .int mpt, .int mbg, .int mwr, .int mwk, .int mlf, .int men])), (mw, .inl (ct 0, 958, .inl (upd f_33 y_32.toNatClampNeg (f_33 (y_32 + 4).toNatClampNeg))))] ++ ws) := hD
      have hU_71 : rf_R G cx (upd f_33 y_32.toNatClampNeg (f_33 (y_32 + 4).toNatClampNeg)) ∧ rf_sm f_33 (upd f_33 y_32.toNatClampNeg (f_33 (y_32 + 4).toNatClampNeg)) := (rf_free _ hR_17 (Or.inr (rf_ge (by have := hex_17.1; omega))))
      generalize hf_74 : (upd f_33 y_32.toNatClampNeg (f_33 (y_32 + 4).toNatClampNeg)) = f_70 at hP hD hU_71
      have hR_72 := hU_71.1
      have hM_73 := rf_smt hM_17 hU_71.2
      refine lv_iinc (v := (y_32 + Int32.ofInt 1)) (lv' := [(4, .int (y_32 + Int32.ofInt 1)), (0, .ref mo), (1, .int p1), (2, .int p2), (3, .int p3)]) hx hb dX11_notes_41 hl (k := 4) rfl rfl (by decide) rfl (fun ls hl => ?_)
      refine lv_goto (tgt := 17) hx hb dX11_notes_44 (by decide) ?_
      exact ih_17 _ _ _ _ (ty_inc (cm_lt hc_34)) ⟨ws, (y_32 + Int32.ofInt 1), f_70, rfl, hT, hP, hD, hS, (lv_sub hl [1, 2, 3, 4, 0] rfl), hR_72, hM_73, rf_lp (by decide) hex_17.1 hc_34 (by omega) (by omega), (rf_u17 hf_74 (rf_ge (by have := hex_17; omega)) (by omega)).trans hex_17.2⟩
theorem dX11_records_0 : decode cX11_records 0 = .ok (.aload_n 0, 1) := by decide +kernel
theorem dX11_records_1 : decode cX11_records 1 = .ok (.getfield 9, 3) := by decide +kernel
theorem dX11_records_4 : decode cX11_records 4 = .ok (.bipush 12, 2) := by decide +kernel
theorem dX11_records_6 : decode cX11_records 6 = .ok (.iaload, 1) := by decide +kernel
theorem dX11_records_7 : decode cX11_records 7 = .ok (.bipush 30, 2) := by decide +kernel
theorem dX11_records_9 : decode cX11_records 9 = .ok (.if_icmp .ne 45, 3) := by decide +kernel
theorem dX11_records_12 : decode cX11_records 12 = .ok (.sipush 568, 3) := by decide +kernel
theorem dX11_records_15 : decode cX11_records 15 = .ok (.istore_n 3, 1) := by decide +kernel
theorem dX11_records_16 : decode cX11_records 16 = .ok (.iload_n 3, 1) := by decide +kernel
theorem dX11_records_17 : decode cX11_records 17 = .ok (.sipush 713, 3) := by decide +kernel
theorem dX11_records_20 : decode cX11_records 20 = .ok (.if_icmp .ge 23, 3) := by decide +kernel
theorem dX11_records_23 : decode cX11_records 23 = .ok (.aload_n 0, 1) := by decide +kernel
theorem dX11_records_24 : decode cX11_records 24 = .ok (.getfield 9, 3) := by decide +kernel
theorem dX11_records_27 : decode cX11_records 27 = .ok (.iload_n 3, 1) := by decide +kernel
theorem dX11_records_28 : decode cX11_records 28 = .ok (.aload_n 0, 1) := by decide +kernel
theorem dX11_records_29 : decode cX11_records 29 = .ok (.getfield 9, 3) := by decide +kernel
theorem dX11_records_32 : decode cX11_records 32 = .ok (.iload_n 3, 1) := by decide +kernel
theorem dX11_records_33 : decode cX11_records 33 = .ok (.iconst 5, 1) := by decide +kernel
theorem dX11_records_34 : decode cX11_records 34 = .ok (.iadd, 1) := by decide +kernel
theorem dX11_records_35 : decode cX11_records 35 = .ok (.iaload, 1) := by decide +kernel
theorem dX11_records_36 : decode cX11_records 36 = .ok (.iastore, 1) := by decide +kernel
theorem dX11_records_37 : decode cX11_records 37 = .ok (.iinc 3 1, 3) := by decide +kernel
theorem dX11_records_40 : decode cX11_records 40 = .ok (.goto (-24), 3) := by decide +kernel
theorem dX11_records_43 : decode cX11_records 43 = .ok (.aload_n 0, 1) := by decide +kernel
theorem dX11_records_44 : decode cX11_records 44 = .ok (.getfield 9, 3) := by decide +kernel
theorem dX11_records_47 : decode cX11_records 47 = .ok (.bipush 12, 2) := by decide +kernel
theorem dX11_records_49 : decode cX11_records 49 = .ok (.dup2, 1) := by decide +kernel
theorem dX11_records_50 : decode cX11_records 50 = .ok (.iaload, 1) := by decide +kernel
theorem dX11_records_51 : decode cX11_records 51 = .ok (.iconst 1, 1) := by decide +kernel
theorem dX11_records_52 : decode cX11_records 52 = .ok (.isub, 1) := by decide +kernel
theorem dX11_records_53 : decode cX11_records 53 = .ok (.iastore, 1) := by decide +kernel
theorem dX11_records_54 : decode cX11_records 54 = .ok (.sipush 568, 3) := by decide +kernel
theorem dX11_records_57 : decode cX11_records 57 = .ok (.iconst 5, 1) := by decide +kernel
theorem dX11_records_58 : decode cX11_records 58 = .ok (.aload_n 0, 1) := by decide +kernel
theorem dX11_records_59 : decode cX11_records 59 = .ok (.getfield 9, 3) := by decide +kernel
theorem dX11_records_62 : decode cX11_records 62 = .ok (.bipush 12, 2) := by decide +kernel
theorem dX11_records_64 : decode cX11_records 64 = .ok (.iaload, 1) := by decide +kernel
theorem dX11_records_65 : decode cX11_records 65 = .ok (.imul, 1) := by decide +kernel
theorem dX11_records_66 : decode cX11_records 66 = .ok (.iadd, 1) := by decide +kernel
theorem dX11_records_67 : decode cX11_records 67 = .ok (.istore_n 3, 1) := by decide +kernel
theorem dX11_records_68 : decode cX11_records 68 = .ok (.aload_n 0, 1) := by decide +kernel
theorem dX11_records_69 : decode cX11_records 69 = .ok (.getfield 9, 3) := by decide +kernel
theorem dX11_records_72 : decode cX11_records 72 = .ok (.iload_n 3, 1) := by decide +kernel
theorem dX11_records_73 : decode cX11_records 73 = .ok (.iload_n 1, 1) := by decide +kernel
theorem dX11_records_74 : decode cX11_records 74 = .ok (.iastore, 1) := by decide +kernel
theorem dX11_records_75 : decode cX11_records 75 = .ok (.aload_n 0, 1) := by decide +kernel
theorem dX11_records_76 : decode cX11_records 76 = .ok (.getfield 9, 3) := by decide +kernel
theorem dX11_records_79 : decode cX11_records 79 = .ok (.iload_n 3, 1) := by decide +kernel
theorem dX11_records_80 : decode cX11_records 80 = .ok (.iconst 1, 1) := by decide +kernel
theorem dX11_records_81 : decode cX11_records 81 = .ok (.iadd, 1) := by decide +kernel
theorem dX11_records_82 : decode cX11_records 82 = .ok (.aload_n 0, 1) := by decide +kernel
theorem dX11_records_83 : decode cX11_records 83 = .ok (.iload_n 1, 1) := by decide +kernel
theorem dX11_records_84 : decode cX11_records 84 = .ok (.iconst 4, 1) := by decide +kernel
theorem dX11_records_85 : decode cX11_records 85 = .ok (.invokevirtual 261, 3) := by decide +kernel
theorem dX11_records_88 : decode cX11_records 88 = .ok (.l2i, 1) := by decide +kernel
theorem dX11_records_89 : decode cX11_records 89 = .ok (.iastore, 1) := by decide +kernel
theorem dX11_records_90 : decode cX11_records 90 = .ok (.aload_n 0, 1) := by decide +kernel
theorem dX11_records_91 : decode cX11_records 91 = .ok (.getfield 9, 3) := by decide +kernel
theorem dX11_records_94 : decode cX11_records 94 = .ok (.iload_n 3, 1) := by decide +kernel
theorem dX11_records_95 : decode cX11_records 95 = .ok (.iconst 2, 1) := by decide +kernel
theorem dX11_records_96 : decode cX11_records 96 = .ok (.iadd, 1) := by decide +kernel
theorem dX11_records_97 : decode cX11_records 97 = .ok (.aload_n 0, 1) := by decide +kernel
theorem dX11_records_98 : decode cX11_records 98 = .ok (.iload_n 1, 1) := by decide +kernel
theorem dX11_records_99 : decode cX11_records 99 = .ok (.iconst 5, 1) := by decide +kernel
theorem dX11_records_100 : decode cX11_records 100 = .ok (.invokevirtual 261, 3) := by decide +kernel
theorem dX11_records_103 : decode cX11_records 103 = .ok (.l2i, 1) := by decide +kernel
theorem dX11_records_104 : decode cX11_records 104 = .ok (.iastore, 1) := by decide +kernel
theorem dX11_records_105 : decode cX11_records 105 = .ok (.aload_n 0, 1) := by decide +kernel
theorem dX11_records_106 : decode cX11_records 106 = .ok (.getfield 9, 3) := by decide +kernel
theorem dX11_records_109 : decode cX11_records 109 = .ok (.iload_n 3, 1) := by decide +kernel
theorem dX11_records_110 : decode cX11_records 110 = .ok (.iconst 3, 1) := by decide +kernel
theorem dX11_records_111 : decode cX11_records 111 = .ok (.iadd, 1) := by decide +kernel
theorem dX11_records_112 : decode cX11_records 112 = .ok (.aload_n 0, 1) := by decide +kernel
theorem dX11_records_113 : decode cX11_records 113 = .ok (.getfield 9, 3) := by decide +kernel
theorem dX11_records_116 : decode cX11_records 116 = .ok (.bipush 8, 2) := by decide +kernel
theorem dX11_records_118 : decode cX11_records 118 = .ok (.iaload, 1) := by decide +kernel
theorem dX11_records_119 : decode cX11_records 119 = .ok (.iastore, 1) := by decide +kernel
theorem dX11_records_120 : decode cX11_records 120 = .ok (.aload_n 0, 1) := by decide +kernel
theorem dX11_records_121 : decode cX11_records 121 = .ok (.getfield 9, 3) := by decide +kernel
theorem dX11_records_124 : decode cX11_records 124 = .ok (.iload_n 3, 1) := by decide +kernel
theorem dX11_records_125 : decode cX11_records 125 = .ok (.iconst 4, 1) := by decide +kernel
theorem dX11_records_126 : decode cX11_records 126 = .ok (.iadd, 1) := by decide +kernel
theorem dX11_records_127 : decode cX11_records 127 = .ok (.iload_n 2, 1) := by decide +kernel
theorem dX11_records_128 : decode cX11_records 128 = .ok (.ifCond .eq 7, 3) := by decide +kernel
theorem dX11_records_131 : decode cX11_records 131 = .ok (.iconst 1, 1) := by decide +kernel
theorem dX11_records_132 : decode cX11_records 132 = .ok (.goto 4, 3) := by decide +kernel
theorem dX11_records_135 : decode cX11_records 135 = .ok (.iconst 0, 1) := by decide +kernel
theorem dX11_records_136 : decode cX11_records 136 = .ok (.iastore, 1) := by decide +kernel
theorem dX11_records_137 : decode cX11_records 137 = .ok (.aload_n 0, 1) := by decide +kernel
theorem dX11_records_138 : decode cX11_records 138 = .ok (.getfield 9, 3) := by decide +kernel
theorem dX11_records_141 : decode cX11_records 141 = .ok (.bipush 12, 2) := by decide +kernel
theorem dX11_records_143 : decode cX11_records 143 = .ok (.dup2, 1) := by decide +kernel
theorem dX11_records_144 : decode cX11_records 144 = .ok (.iaload, 1) := by decide +kernel
theorem dX11_records_145 : decode cX11_records 145 = .ok (.iconst 1, 1) := by decide +kernel
theorem dX11_records_146 : decode cX11_records 146 = .ok (.iadd, 1) := by decide +kernel
theorem dX11_records_147 : decode cX11_records 147 = .ok (.iastore, 1) := by decide +kernel
theorem dX11_records_148 : decode cX11_records 148 = .ok (.return_, 1) := by decide +kernel
set_option maxRecDepth 100000 in
set_option maxHeartbeats 4000000 in
theorem m_X11_records (l : Launch) (D : va_G) (ct : Nat → ClassId) (S : ty_S) (ws : va_W) (mo : Nat) (mw : Nat) (ma : Nat) (mf : Nat) (m0 : Nat) (m1 : Nat) (mu : Nat) (mv : Nat) (u0 : Nat) (u1 : Nat) (iz : Nat) (mb : Nat) (th : Int32) (mn : Int32) (mpt : Int32) (mbg : Int32) (mwr : Int32) (mwk : Int32) (mlf : Int32) (men : Int32) (f : Nat → Int32) (G : Nat → Int32) (cx : Int) (p1 : Int32) (p2 : Int32) (sz : Nat) (hT : ty_W ct S ws) (h_mu : S mu = some (.inr (1, 42))) (h_mv : S mv = some (.inr (1, 42))) (h_u0 : S u0 = some (.inr (1, 42))) (h_u1 : S u1 = some (.inr (1, 42))) (hR : rf_R G cx f) (hc : 0 ≤ p1.toInt ∧ p1.toInt < (G 9).toInt) : Met l yX11_records (ws_ yX11_records cX11_records 4 none) ({ frames := 1, cells := 0, slots := 0, locals := 22 } : Room) (va_Pc [.ref mo, .int p1, .int p2] (cmP D ct sz ([(mo, .inr (11, [.ref mw, .ref ma, .ref mf, .ref m0, .ref m1, .ref mu, .ref mv, .ref u0, .ref u1, .ref iz, .int th, .ref mb, .int mn, .int mpt, .int mbg, .int mwr, .int mwk, .int mlf, .int men])), (mw, .inl (ct 0, 958, .inl f))] ++ ws))) (va_Qv (fun (u : va_W × (Nat → Int32)) => match u with | (u9, f1) => ty_W ct S u9 ∧ rf_R G cx f1 ∧ rf_sm f f1) (cmB D ([(mo, .inr (11, [.ref mw, .ref ma, .ref mf, .ref m0, .ref m1, .ref mu, .ref mv, .ref u0, .ref u1, .ref iz, .int th, .ref mb, .int mn, .int mpt, .int mbg, .int mwr, .int mwk, .int mlf, .int men])), (mw, .inl (ct 0, 958, .inl f))] ++ ws) sz (fun (u : va_W × (Nat → Int32)) => match u with | (u9, f1) => ([(mo, .inr (11, [.ref mw, .ref ma, .ref mf, .ref m0, .ref m1, .ref mu, .ref mv, .ref u0, .ref u1, .ref iz, .int th, .ref mb, .int mn, .int mpt, .int mbg, .int mwr, .int mwk, .int mlf, .int men])), (mw, .inl (ct 0, 958, .inl f1))] ++ u9))) (va_A ([(mo, .inr (11, [.ref mw, .ref ma, .ref mf, .ref m0, .ref m1, .ref mu, .ref mv, .ref u0, .ref u1, .ref iz, .int th, .ref mb, .int mn, .int mpt, .int mbg, .int mwr, .int mwk, .int mlf, .int men])), (mw, .inl (ct 0, 958, .inl f))] ++ ws) sz)) 0 0 (va_A ([(mo, .inr (11, [.ref mw, .ref ma, .ref mf, .ref m0, .ref m1, .ref mu, .ref mv, .ref u0, .ref u1, .ref iz, .int th, .ref mb, .int mn, .int mpt, .int mbg, .int mwr, .int mwk, .int mlf, .int men])), (mw, .inl (ct 0, 958, .inl f))] ++ ws) sz) := by
  refine Met.ofW (cc := cX11_records) (maxL := 4) (ret := none) (by decide) rfl ?_
  intro p e s m args below meth c s₁ B hml hv
  obtain ⟨rfl, hsz, hP, hK, hD0, hX⟩ := hv
  have hx := B.exec
  have hb := B.bytes
  have hr := B.returns
  have hts := ws_all (atoms_spec (ws := ws_ yX11_records cX11_records 4 none) B.pre)
  have hown : s.vm.findClass RX11 = some m.cls := findClass_of_methodNamed B.named
  have hlocks := B.notSynchronized
  subst hsz
  have hD := hD0.self (sz := s.heap.size)
  generalize hAe : va_A ([(mo, .inr (11, [.ref mw, .ref ma, .ref mf, .ref m0, .ref m1, .ref mu, .ref mv, .ref u0, .ref u1, .ref iz, .int th, .ref mb, .int mn, .int mpt, .int mbg, .int mwr, .int mwk, .int mlf, .int men])), (mw, .inl (ct 0, 958, .inl f))] ++ ws) s.heap.size = A at hD hX ⊢
  have hA : ∀ q : Nat, s.heap.size ≤ q → A q := fun q h => by rw [← hAe]; exact Or.inr h
  have hS : va_S A s.heap s.heap [] := va_S.rf
  have hl := lv_entry ([.ref mo, .int p1, .int p2]) (n := 4) (Nat.le_of_ble_eq_true rfl)
  rw [lg_entry_eq]
  generalize (lg_sl ([.ref mo, .int p1, .int p2]) ++ List.replicate (4 - (lg_sl ([.ref mo, .int p1, .int p2])).length) Slot.unset).toArray = ls at hl ⊢
  have hl : lv_has ls 4 [(0, .ref mo), (1, .int p1), (2, .int p2)] := hl
  refine lv_aload_n hx hb dX11_records_0 rfl (lv_at hl 0 rfl) ?_
  refine va_get (v := .ref mw) (D := D) (ci := 11) (C := RX11) (T := TX11) (N := 19) hx hb hts in_X11 hown hK hP 0 rfl rfl 0 (by decide) (hts _ kl_RX11_9) (fun _ h9 => h9) rfl dX11_records_1 ?_
  refine lv_bipush (v := 12) hx hb dX11_records_4 (by decide) ?_
  refine va_iald hx hb hK hP 1 0 rfl rfl (cm_vin (by decide)) dX11_records_6 ?_
  refine cm_cst (y := (f 12)) (by first | rfl | decide +kernel) ?_
  refine lv_bipush (v := 30) hx hb dX11_records_7 (by decide) ?_
  refine lv_icmp_ne (tgt := 54) hx hb dX11_records_9 (by decide) (fun hc_1 => ?_) (fun hc_1 => ?_)
  · have hL_2 : 0 ≤ (f 12).toInt ∧ (f 12).toInt ≤ 29 := (rf_ne60 (N := 30) (by decide) hc_1 hR.2.2.1.1)
    refine lv_sipush (v := 568) hx hb dX11_records_54 (by decide) ?_
    refine lv_iconst (v := 5) hx hb dX11_records_57 (by decide) ?_
    refine lv_aload_n hx hb dX11_records_58 rfl (lv_at hl 0 rfl) ?_
    refine va_get (v := .ref mw) (D := D) (ci := 11) (C := RX11) (T := TX11) (N := 19) hx hb hts in_X11 hown hK hP 0 rfl rfl 0 (by decide) (hts _ kl_RX11_9) (fun _ h9 => h9) rfl dX11_records_59 ?_
    refine lv_bipush (v := 12) hx hb dX11_records_62 (by decide) ?_
    refine va_iald hx hb hK hP 1 0 rfl rfl (cm_vin (by decide)) dX11_records_64 ?_
    refine cm_cst (y := (f 12)) (by first | rfl | decide +kernel) ?_
    refine lv_imul hx hb dX11_records_65 ?_
    refine lv_iadd hx hb dX11_records_66 ?_
    refine lv_istore_n (lv' := [(3, .int (568 + (5 * (f 12)))), (0, .ref mo), (1, .int p1), (2, .int p2)]) hx hb dX11_records_67 rfl hl (by decide) rfl (fun ls hl => ?_)
    refine lv_aload_n hx hb dX11_records_68 rfl (lv_at hl 1 rfl) ?_
    refine va_get (v := .ref mw) (D := D) (ci := 11) (C := RX11) (T := TX11) (N := 19) hx hb hts in_X11 hown hK hP 0 rfl rfl 0 (by decide) (hts _ kl_RX11_9) (fun _ h9 => h9) rfl dX11_records_69 ?_
    refine lv_iload_n hx hb dX11_records_72 rfl (lv_at hl 0 rfl) ?_
    refine lv_iload_n hx hb dX11_records_73 rfl (lv_at hl 2 rfl) ?_
    refine va_iast hx hb hK hP hD hS 1 0 rfl rfl (rf_in1 (by have := (rf_nb0 (a := 568) (b := 5) (A := 568) (B := 5) (N := 29) (by decide) (by decide) hL_2 (by decide) (by decide) (by decide) (by decide)); omega)) dX11_records_74 (fun H locs hP hD hS => ?_)
    have hP : va_P D vwCl ([(mo, .inr (11, [.ref mw, .ref ma, .ref mf, .ref m0, .ref m1, .ref mu, .ref mv, .ref u0, .ref u1, .ref iz, .int th, .ref mb, .int mn, .int mpt, .int mbg, .int mwr, .int mwk, .int mlf, .int men])), (mw, .inl (ct 0, 958, .inl (upd f (568 + (5 * (f 12))).toNatClampNeg p1)))] ++ ws) H := hP
    have hD : va_D A ([(mo, .inr (11, [.ref mw, .ref ma, .ref mf, .ref m0, .ref m1, .ref mu, .ref mv, .ref u0, .ref u1, .ref iz, .int th, .ref mb, .int mn, .int mpt, .int mbg, .int mwr, .int mwk, .int mlf, .int men])), (mw, .inl (ct 0, 958, .inl (upd f (568 + (5 * (f 12))).toNatClampNeg p1)))] ++ ws) := hD
    have hU_4 : rf_R G cx (upd f (568 + (5 * (f 12))).toNatClampNeg p1) ∧ rf_sm f (upd f (568 + (5 * (f 12))).toNatClampNeg p1) := (rf_free _ hR (Or.inr (rf_ge (rf_nb0 (a := 568) (b := 5) (A := 568) (B := 5) (N := 29) (by decide) (by decide) hL_2 (by decide) (by decide) (by decide) (by decide)).1)))
    generalize hf_7 : (upd f (568 + (5 * (f 12))).toNatClampNeg p1) = f_3 at hP hD hU_4
    have hR_5 := hU_4.1
    have hM_6 := rf_smt (rf_smr f) hU_4.2
    have hq_8 : f_3 12 = f 12 := (rf_u17 hf_7 (rf_ge (rf_nb0 (a := 568) (b := 5) (A := 568) (B := 5) (N := 29) (by decide) (by decide) hL_2 (by decide) (by decide) (by decide) (by decide)).1) (by omega)).trans rfl
    refine lv_aload_n hx hb dX11_records_75 rfl (lv_at hl 1 rfl) ?_
    refine va_get (v := .ref mw) (D := D) (ci := 11) (C := RX11) (T := TX11) (N := 19) hx hb hts in_X11 hown hK hP 0 rfl rfl 0 (by decide) (hts _ kl_RX11_9) (fun _ h9 => h9) rfl dX11_records_76 ?_
    refine lv_iload_n hx hb dX11_records_79 rfl (lv_at hl 0 rfl) ?_
    refine lv_iconst (v := 1) hx hb dX11_records_80 (by decide) ?_
    refine lv_iadd hx hb dX11_records_81 ?_
    refine lv_aload_n hx hb dX11_records_82 rfl (lv_at hl 1 rfl) ?_
    refine lv_iload_n hx hb dX11_records_83 rfl (lv_at hl 2 rfl) ?_
    refine lv_iconst (v := 4) hx hb dX11_records_84 (by decide) ?_
    have hP : va_P D vwCl ([(mw, .inl (ct 0, 958, .inl f_3)), (mo, .inr (11, [.ref mw, .ref ma, .ref mf, .ref m0, .ref m1, .ref mu, .ref mv, .ref u0, .ref u1, .ref iz, .int th, .ref mb, .int mn, .int mpt, .int mbg, .int mwr, .int mwk, .int mlf, .int men]))] ++ ws) H := ty_permP hP (ty_ordp (E := [(mo, .inr (11, [.ref mw, .ref ma, .ref mf, .ref m0, .ref m1, .ref mu, .ref mv, .ref u0, .ref u1, .ref iz, .int th, .ref mb, .int mn, .int mpt, .int mbg, .int mwr, .int mwk, .int mlf, .int men])), (mw, .inl (ct 0, 958, .inl f_3))]) (E2 := [(mw, .inl (ct 0, 958, .inl f_3)), (mo, .inr (11, [.ref mw, .ref ma, .ref mf, .ref m0, .ref m1, .ref mu, .ref mv, .ref u0, .ref u1, .ref iz, .int th, .ref mb, .int mn, .int mpt, .int mbg, .int mwr, .int mwk, .int mlf, .int men]))]) (n := 2) [1, 0] rfl rfl (by decide))
    have hD : va_D A ([(mw, .inl (ct 0, 958, .inl f_3)), (mo, .inr (11, [.ref mw, .ref ma, .ref mf, .ref m0, .ref m1, .ref mu, .ref mv, .ref u0, .ref u1, .ref iz, .int th, .ref mb, .int mn, .int mpt, .int mbg, .int mwr, .int mwk, .int mlf, .int men]))] ++ ws) := ty_permD hD (ty_ordp (E := [(mo, .inr (11, [.ref mw, .ref ma, .ref mf, .ref m0, .ref m1, .ref mu, .ref mv, .ref u0, .ref u1, .ref iz, .int th, .ref mb, .int mn, .int mpt, .int mbg, .int mwr, .int mwk, .int mlf, .int men])), (mw, .inl (ct 0, 958, .inl f_3))]) (E2 := [(mw, .inl (ct 0, 958, .inl f_3)), (mo, .inr (11, [.ref mw, .ref ma, .ref mf, .ref m0, .ref m1, .ref mu, .ref mv, .ref u0, .ref u1, .ref iz, .int th, .ref mb, .int mn, .int mpt, .int mbg, .int mwr, .int mwk, .int mlf, .int men]))]) (n := 2) [1, 0] rfl rfl (by decide))
    refine ty_kl (wr := [(mw, .inl (ct 0, 958, .inl f_3))]) (wc := ([(mo, .inr (11, [.ref mw, .ref ma, .ref mf, .ref m0, .ref m1, .ref mu, .ref mv, .ref u0, .ref u1, .ref iz, .int th, .ref mb, .int mn, .int mpt, .int mbg, .int mwr, .int mwk, .int mlf, .int men]))] ++ ws)) (va_runV (As := [.int p1, .int 4]) (rest := [.int ((568 + (5 * (f 12))) + 1), .ref mw]) ⟨hx, hb, hml, hown, hts⟩ (m_X11_sum l D ct S ws mo mw ma mf m0 m1 mu mv u0 u1 iz mb th mn mpt mbg mwr mwk mlf men p1 (4 : Int32) _ hT h_mu h_mv h_u0 h_u1 (rf_c6 hR_5 hc) (by decide)) (cm_V 2 hts kc_X11_sum ki_RX11 kl_RX11_261 kv_X11_sum kx_X11_sum kd_X11_sum ⟨Nat.le_of_ble_eq_true rfl, Nat.le_of_ble_eq_true rfl⟩) (ty_preE (wr := [(mw, .inl (ct 0, 958, .inl f_3))]) (wc := ([(mo, .inr (11, [.ref mw, .ref ma, .ref mf, .ref m0, .ref m1, .ref mu, .ref mv, .ref u0, .ref u1, .ref iz, .int th, .ref mb, .int mn, .int mpt, .int mbg, .int mwr, .int mwk, .int mlf, .int men]))] ++ ws)) (ci := 11) (q0 := 1) hP hK hD hS hA hX rfl rfl) rfl rfl hl.1 rfl (lv_room (Nat.le_of_ble_eq_true rfl)) dX11_records_85 ⟨Nat.le_of_ble_eq_true rfl, Nat.le_of_ble_eq_true rfl⟩) hP hD hS hA (fun r_9 u H locs hw_10 hP hD hS => ?_)
    obtain ⟨ws_11, rfl⟩ : ∃ z, z = u := ⟨_, rfl⟩
    have hT := hw_10
    have hP : va_P D vwCl ([(mw, .inl (ct 0, 958, .inl f_3)), (mo, .inr (11, [.ref mw, .ref ma, .ref mf, .ref m0, .ref m1, .ref mu, .ref mv, .ref u0, .ref u1, .ref iz, .int th, .ref mb, .int mn, .int mpt, .int mbg, .int mwr, .int mwk, .int mlf, .int men]))] ++ ws_11) H := hP
    have hD : va_D A ([(mw, .inl (ct 0, 958, .inl f_3)), (mo, .inr (11, [.ref mw, .ref ma, .ref mf, .ref m0, .ref m1, .ref mu, .ref mv, .ref u0, .ref u1, .ref iz, .int th, .ref mb, .int mn, .int mpt, .int mbg, .int mwr, .int mwk, .int mlf, .int men]))] ++ ws_11) := hD
    refine lv_l2i hx hb dX11_records_88 rfl ?_
    refine lv_topi (fun x_12 _ => ?_)
    refine va_iast hx hb hK hP hD hS 0 0 rfl rfl (rf_in1 (by have := (rf_nb (a := 568) (b := 5) (A := 568) (B := 5) (N := 29) (k := 1) (K := 1) (by decide) (by decide) (by decide) hL_2 (by decide) (by decide) (by decide) (by decide) (by decide)); omega)) dX11_records_89 (fun H locs hP hD hS => ?_)
    have hP : va_P D vwCl ([(mw, .inl (ct 0, 958, .inl (upd f_3 ((568 + (5 * (f 12))) + 1).toNatClampNeg x_12))), (mo, .inr (11, [.ref mw, .ref ma, .ref mf, .ref m0, .ref m1, .ref mu, .ref mv, .ref u0, .ref u1, .ref iz, .int th, .ref mb, .int mn, .int mpt, .int mbg, .int mwr, .int mwk, .int mlf, .int men]))] ++ ws_11) H := hP
    have hD : va_D A ([(mw, .inl (ct 0, 958, .inl (upd f_3 ((568 + (5 * (f 12))) + 1).toNatClampNeg x_12))), (mo, .inr (11, [.ref mw, .ref ma, .ref mf, .ref m0, .ref m1, .ref mu, .ref mv, .ref u0, .ref u1, .ref iz, .int th, .ref mb, .int mn, .int mpt, .int mbg, .int mwr, .int mwk, .int mlf, .int men]))] ++ ws_11) := hD
    have hU_14 : rf_R G cx (upd f_3 ((568 + (5 * (f 12))) + 1).toNatClampNeg x_12) ∧ rf_sm f_3 (upd f_3 ((568 + (5 * (f 12))) + 1).toNatClampNeg x_12) := (rf_free _ hR_5 (Or.inr (rf_ge (rf_nb (a := 568) (b := 5) (A := 568) (B := 5) (N := 29) (k := 1) (K := 1) (by decide) (by decide) (by decide) hL_2 (by decide) (by decide) (by decide) (by decide) (by decide)).1)))
    generalize hf_17 : (upd f_3 ((568 + (5 * (f 12))) + 1).toNatClampNeg x_12) = f_13 at hP hD hU_14
    have hR_15 := hU_14.1
    have hM_16 := rf_smt hM_6 hU_14.2
    have hq_18 : f_13 12 = f 12 := (rf_u17 hf_17 (rf_ge (rf_nb (a := 568) (b := 5) (A := 568) (B := 5) (N := 29) (k := 1) (K := 1) (by decide) (by decide) (by decide) hL_2 (by decide) (by decide) (by decide) (by decide) (by decide)).1) (by omega)).trans hq_8
    refine lv_aload_n hx hb dX11_records_90 rfl (lv_at hl 1 rfl) ?_
    refine va_get (v := .ref mw) (D := D) (ci := 11) (C := RX11) (T := TX11) (N := 19) hx hb hts in_X11 hown hK hP 1 rfl rfl 0 (by decide) (hts _ kl_RX11_9) (fun _ h9 => h9) rfl dX11_records_91 ?_
    refine lv_iload_n hx hb dX11_records_94 rfl (lv_at hl 0 rfl) ?_
    refine lv_iconst (v := 2) hx hb dX11_records_95 (by decide) ?_
    refine lv_iadd hx hb dX11_records_96 ?_
    refine lv_aload_n hx hb dX11_records_97 rfl (lv_at hl 1 rfl) ?_
    refine lv_iload_n hx hb dX11_records_98 rfl (lv_at hl 2 rfl) ?_
    refine lv_iconst (v := 5) hx hb dX11_records_99 (by decide) ?_
    refine ty_kl (wr := [(mw, .inl (ct 0, 958, .inl f_13))]) (wc := ([(mo, .inr (11, [.ref mw, .ref ma, .ref mf, .ref m0, .ref m1, .ref mu, .ref mv, .ref u0, .ref u1, .ref iz, .int th, .ref mb, .int mn, .int mpt, .int mbg, .int mwr, .int mwk, .int mlf, .int men]))] ++ ws_11)) (va_runV (As := [.int p1, .int 5]) (rest := [.int ((568 + (5 * (f 12))) + 2), .ref mw]) ⟨hx, hb, hml, hown, hts⟩ (m_X11_sum l D ct S ws_11 mo mw ma mf m0 m1 mu mv u0 u1 iz mb th mn mpt mbg mwr mwk mlf men p1 (5 : Int32) _ hT h_mu h_mv h_u0 h_u1 (rf_c6 hR_15 hc) (by decide)) (cm_V 2 hts kc_X11_sum ki_RX11 kl_RX11_261 kv_X11_sum kx_X11_sum kd_X11_sum ⟨Nat.le_of_ble_eq_true rfl, Nat.le_of_ble_eq_true rfl⟩) (ty_preE (wr := [(mw, .inl (ct 0, 958, .inl f_13))]) (wc := ([(mo, .inr (11, [.ref mw, .ref ma, .ref mf, .ref m0, .ref m1, .ref mu, .ref mv, .ref u0, .ref u1, .ref iz, .int th, .ref mb, .int mn, .int mpt, .int mbg, .int mwr, .int mwk, .int mlf, .int men]))] ++ ws_11)) (ci := 11) (q0 := 1) hP hK hD hS hA hX rfl rfl) rfl rfl hl.1 rfl (lv_room (Nat.le_of_ble_eq_true rfl)) dX11_records_100 ⟨Nat.le_of_ble_eq_true rfl, Nat.le_of_ble_eq_true rfl⟩) hP hD hS hA (fun r_19 u H locs hw_20 hP hD hS => ?_)
    obtain ⟨ws_21, rfl⟩ : ∃ z, z = u := ⟨_, rfl⟩
    have hT := hw_20
    have hP : va_P D vwCl ([(mw, .inl (ct 0, 958, .inl f_13)), (mo, .inr (11, [.ref mw, .ref ma, .ref mf, .ref m0, .ref m1, .ref mu, .ref mv, .ref u0, .ref u1, .ref iz, .int th, .ref mb, .int mn, .int mpt, .int mbg, .int mwr, .int mwk, .int mlf, .int men]))] ++ ws_21) H := hP
    have hD : va_D A ([(mw, .inl (ct 0, 958, .inl f_13)), (mo, .inr (11, [.ref mw, .ref ma, .ref mf, .ref m0, .ref m1, .ref mu, .ref mv, .ref u0, .ref u1, .ref iz, .int th, .ref mb, .int mn, .int mpt, .int mbg, .int mwr, .int mwk, .int mlf, .int men]))] ++ ws_21) := hD
    refine lv_l2i hx hb dX11_records_103 rfl ?_
    refine lv_topi (fun x_22 _ => ?_)
    refine va_iast hx hb hK hP hD hS 0 0 rfl rfl (rf_in1 (by have := (rf_nb (a := 568) (b := 5) (A := 568) (B := 5) (N := 29) (k := 2) (K := 2) (by decide) (by decide) (by decide) hL_2 (by decide) (by decide) (by decide) (by decide) (by decide)); omega)) dX11_records_104 (fun H locs hP hD hS => ?_)
    have hP : va_P D vwCl ([(mw, .inl (ct 0, 958, .inl (upd f_13 ((568 + (5 * (f 12))) + 2).toNatClampNeg x_22))), (mo, .inr (11, [.ref mw, .ref ma, .ref mf, .ref m0, .ref m1, .ref mu, .ref mv, .ref u0, .ref u1, .ref iz, .int th, .ref mb, .int mn, .int mpt, .int mbg, .int mwr, .int mwk, .int mlf, .int men]))] ++ ws_21) H := hP
    have hD : va_D A ([(mw, .inl (ct 0, 958, .inl (upd f_13 ((568 + (5 * (f 12))) + 2).toNatClampNeg x_22))), (mo, .inr (11, [.ref mw, .ref ma, .ref mf, .ref m0, .ref m1, .ref mu, .ref mv, .ref u0, .ref u1, .ref iz, .int th, .ref mb, .int mn, .int mpt, .int mbg, .int mwr, .int mwk, .int mlf, .int men]))] ++ ws_21) := hD
    have hU_24 : rf_R G cx (upd f_13 ((568 + (5 * (f 12))) + 2).toNatClampNeg x_22) ∧ rf_sm f_13 (upd f_13 ((568 + (5 * (f 12))) + 2).toNatClampNeg x_22) := (rf_free _ hR_15 (Or.inr (rf_ge (rf_nb (a := 568) (b := 5) (A := 568) (B := 5) (N := 29) (k := 2) (K := 2) (by decide) (by decide) (by decide) hL_2 (by decide) (by decide) (by decide) (by decide) (by decide)).1)))
    generalize hf_27 : (upd f_13 ((568 + (5 * (f 12))) + 2).toNatClampNeg x_22) = f_23 at hP hD hU_24
    have hR_25 := hU_24.1
    have hM_26 := rf_smt hM_16 hU_24.2
    have hq_28 : f_23 12 = f 12 := (rf_u17 hf_27 (rf_ge (rf_nb (a := 568) (b := 5) (A := 568) (B := 5) (N := 29) (k := 2) (K := 2) (by decide) (by decide) (by decide) hL_2 (by decide) (by decide) (by decide) (by decide) (by decide)).1) (by omega)).trans hq_18
    refine lv_aload_n hx hb dX11_records_105 rfl (lv_at hl 1 rfl) ?_
    refine va_get (v := .ref mw) (D := D) (ci := 11) (C := RX11) (T := TX11) (N := 19) hx hb hts in_X11 hown hK hP 1 rfl rfl 0 (by decide) (hts _ kl_RX11_9) (fun _ h9 => h9) rfl dX11_records_106 ?_
    refine lv_iload_n hx hb dX11_records_109 rfl (lv_at hl 0 rfl) ?_
    refine lv_iconst (v := 3) hx hb dX11_records_110 (by decide) ?_
    refine lv_iadd hx hb dX11_records_111 ?_
    refine lv_aload_n hx hb dX11_records_112 rfl (lv_at hl 1 rfl) ?_
    refine va_get (v := .ref mw) (D := D) (ci := 11) (C := RX11) (T := TX11) (N := 19) hx hb hts in_X11 hown hK hP 1 rfl rfl 0 (by decide) (hts _ kl_RX11_9) (fun _ h9 => h9) rfl dX11_records_113 ?_
    refine lv_bipush (v := 8) hx hb dX11_records_116 (by decide) ?_
    refine va_iald hx hb hK hP 0 0 rfl rfl (cm_vin (by decide)) dX11_records_118 ?_
    refine cm_cst (y := (f_23 8)) (by first | rfl | decide +kernel) ?_
    refine va_iast hx hb hK hP hD hS 0 0 rfl rfl (rf_in1 (by have := (rf_nb (a := 568) (b := 5) (A := 568) (B := 5) (N := 29) (k := 3) (K := 3) (by decide) (by decide) (by decide) hL_2 (by decide) (by decide) (by decide) (by decide) (by decide)); omega)) dX11_records_119 (fun H locs hP hD hS => ?_)
    have hP : va_P D vwCl ([(mw, .inl (ct 0, 958, .inl (upd f_23 ((568 + (5 * (f 12))) + 3).toNatClampNeg (f_23 8)))), (mo, .inr (11, [.ref mw, .ref ma, .ref mf, .ref m0, .ref m1, .ref mu, .ref mv, .ref u0, .ref u1, .ref iz, .int th, .ref mb, .int mn, .int mpt, .int mbg, .int mwr, .int mwk, .int mlf, .int men]))] ++ ws_21) H := hP
    have hD : va_D A ([(mw, .inl (ct 0, 958, .inl (upd f_23 ((568 + (5 * (f 12))) + 3).toNatClampNeg (f_23 8)))), (mo, .inr (11, [.ref mw, .ref ma, .ref mf, .ref m0, .ref m1, .ref mu, .ref mv, .ref u0, .ref u1, .ref iz, .int th, .ref mb, .int mn, .int mpt, .int mbg, .int mwr, .int mwk, .int mlf, .int men]))] ++ ws_21) := hD
    have hU_30 : rf_R G cx (upd f_23 ((568 + (5 * (f 12))) + 3).toNatClampNeg (f_23 8)) ∧ rf_sm f_23 (upd f_23 ((568 + (5 * (f 12))) + 3).toNatClampNeg (f_23 8)) := (rf_free _ hR_25 (Or.inr (rf_ge (rf_nb (a := 568) (b := 5) (A := 568) (B := 5) (N := 29) (k := 3) (K := 3) (by decide) (by decide) (by decide) hL_2 (by decide) (by decide) (by decide) (by decide) (by decide)).1)))
    generalize hf_33 : (upd f_23 ((568 + (5 * (f 12))) + 3).toNatClampNeg (f_23 8)) = f_29 at hP hD hU_30
    have hR_31 := hU_30.1
    have hM_32 := rf_smt hM_26 hU_30.2
    have hq_34 : f_29 12 = f 12 := (rf_u17 hf_33 (rf_ge (rf_nb (a := 568) (b := 5) (A := 568) (B := 5) (N := 29) (k := 3) (K := 3) (by decide) (by decide) (by decide) hL_2 (by decide) (by decide) (by decide) (by decide) (by decide)).1) (by omega)).trans hq_28
    refine lv_aload_n hx hb dX11_records_120 rfl (lv_at hl 1 rfl) ?_
    refine va_get (v := .ref mw) (D := D) (ci := 11) (C := RX11) (T := TX11) (N := 19) hx hb hts in_X11 hown hK hP 1 rfl rfl 0 (by decide) (hts _ kl_RX11_9) (fun _ h9 => h9) rfl dX11_records_121 ?_
    refine lv_iload_n hx hb dX11_records_124 rfl (lv_at hl 0 rfl) ?_
    refine lv_iconst (v := 4) hx hb dX11_records_125 (by decide) ?_
    refine lv_iadd hx hb dX11_records_126 ?_
    refine lv_iload_n hx hb dX11_records_127 rfl (lv_at hl 3 rfl) ?_
    refine lv_if_eq (tgt := 135) hx hb dX11_records_128 (by decide) (fun hc_35 => ?_) (fun hc_35 => ?_)
    · refine lv_iconst (v := 0) hx hb dX11_records_135 (by decide) ?_
      refine va_iast hx hb hK hP hD hS 0 0 rfl rfl (rf_in1 (by have := (rf_nb (a := 568) (b := 5) (A := 568) (B := 5) (N := 29) (k := 4) (K := 4) (by decide) (by decide) (by decide) hL_2 (by decide) (by decide) (by decide) (by decide) (by decide)); omega)) dX11_records_136 (fun H locs hP hD hS => ?_)
      have hP : va_P D vwCl ([(mw, .inl (ct 0, 958, .inl (upd f_29 ((568 + (5 * (f 12))) + 4).toNatClampNeg 0))), (mo, .inr (11, [.ref mw, .ref ma, .ref mf, .ref m0, .ref m1, .ref mu, .ref mv, .ref u0, .ref u1, .ref iz, .int th, .ref mb, .int mn, .int mpt, .int mbg, .int mwr, .int mwk, .int mlf, .int men]))] ++ ws_21) H := hP
      have hD : va_D A ([(mw, .inl (ct 0, 958, .inl (upd f_29 ((568 + (5 * (f 12))) + 4).toNatClampNeg 0))), (mo, .inr (11, [.ref mw, .ref ma, .ref mf, .ref m0, .ref m1, .ref mu, .ref mv, .ref u0, .ref u1, .ref iz, .int th, .ref mb, .int mn, .int mpt, .int mbg, .int mwr, .int mwk, .int mlf, .int men]))] ++ ws_21) := hD
      have hU_37 : rf_R G cx (upd f_29 ((568 + (5 * (f 12))) + 4).toNatClampNeg 0) ∧ rf_sm f_29 (upd f_29 ((568 + (5 * (f 12))) + 4).toNatClampNeg 0) := (rf_free _ hR_31 (Or.inr (rf_ge (rf_nb (a := 568) (b := 5) (A := 568) (B := 5) (N := 29) (k := 4) (K := 4) (by decide) (by decide) (by decide) hL_2 (by decide) (by decide) (by decide) (by decide) (by decide)).1)))
      generalize hf_40 : (upd f_29 ((568 + (5 * (f 12))) + 4).toNatClampNeg 0) = f_36 at hP hD hU_37
      have hR_38 := hU_37.1
      have hM_39 := rf_smt hM_32 hU_37.2
      have hq_41 : f_36 12 = f 12 := (rf_u17 hf_40 (rf_ge (rf_nb (a := 568) (b := 5) (A := 568) (B := 5) (N := 29) (k := 4) (K := 4) (by decide) (by decide) (by decide) hL_2 (by decide) (by decide) (by decide) (by decide) (by decide)).1) (by omega)).trans hq_34
      refine lv_aload_n hx hb dX11_records_137 rfl (lv_at hl 1 rfl) ?_
      refine va_get (v := .ref mw) (D := D) (ci := 11) (C := RX11) (T := TX11) (N := 19) hx hb hts in_X11 hown hK hP 1 rfl rfl 0 (by decide) (hts _ kl_RX11_9) (fun _ h9 => h9) rfl dX11_records_138 ?_
      refine lv_bipush (v := 12) hx hb dX11_records_141 (by decide) ?_
      refine lv_dup2_11 hx hb dX11_records_143 rfl rfl ?_
      refine va_iald hx hb hK hP 0 0 rfl rfl (cm_vin (by decide)) dX11_records_144 ?_
      refine cm_cst (y := (f_36 12)) (by first | rfl | decide +kernel) ?_
      refine lv_iconst (v := 1) hx hb dX11_records_145 (by decide) ?_
      refine lv_iadd hx hb dX11_records_146 ?_
      refine va_iast hx hb hK hP hD hS 0 0 rfl rfl (cm_vin (by decide)) dX11_records_147 (fun H locs hP hD hS => ?_)
      have hP : va_P D vwCl ([(mw, .inl (ct 0, 958, .inl (upd f_36 (12 : Int32).toNatClampNeg ((f_36 12) + 1)))), (mo, .inr (11, [.ref mw, .ref ma, .ref mf, .ref m0, .ref m1, .ref mu, .ref mv, .ref u0, .ref u1, .ref iz, .int th, .ref mb, .int mn, .int mpt, .int mbg, .int mwr, .int mwk, .int mlf, .int men]))] ++ ws_21) H := hP
      have hD : va_D A ([(mw, .inl (ct 0, 958, .inl (upd f_36 (12 : Int32).toNatClampNeg ((f_36 12) + 1)))), (mo, .inr (11, [.ref mw, .ref ma, .ref mf, .ref m0, .ref m1, .ref mu, .ref mv, .ref u0, .ref u1, .ref iz, .int th, .ref mb, .int mn, .int mpt, .int mbg, .int mwr, .int mwk, .int mlf, .int men]))] ++ ws_21) := hD
      have hU_43 : rf_R G cx (upd f_36 (12 : Int32).toNatClampNeg ((f_36 12) + 1)) ∧ rf_sm f_36 (upd f_36 (12 : Int32).toNatClampNeg ((f_36 12) + 1)) := (rf_num12 hR_38 (by rw [hq_41]; have := rf_inc9 hL_2 (by omega) (by omega); omega))
      generalize hf_46 : (upd f_36 (12 : Int32).toNatClampNeg ((f_36 12) + 1)) = f_42 at hP hD hU_43
      have hR_44 := hU_43.1
      have hM_45 := rf_smt hM_39 hU_43.2
      have hP : va_P D vwCl ([(mo, .inr (11, [.ref mw, .ref ma, .ref mf, .ref m0, .ref m1, .ref mu, .ref mv, .ref u0, .ref u1, .ref iz, .int th, .ref mb, .int mn, .int mpt, .int mbg, .int mwr, .int mwk, .int mlf, .int men])), (mw, .inl (ct 0, 958, .inl f_42))] ++ ws_21) H := ty_permP hP (ty_ordp (E := [(mw, .inl (ct 0, 958, .inl f_42)), (mo, .inr (11, [.ref mw, .ref ma, .ref mf, .ref m0, .ref m1, .ref mu, .ref mv, .ref u0, .ref u1, .ref iz, .int th, .ref mb, .int mn, .int mpt, .int mbg, .int mwr, .int mwk, .int mlf, .int men]))]) (E2 := [(mo, .inr (11, [.ref mw, .ref ma, .ref mf, .ref m0, .ref m1, .ref mu, .ref mv, .ref u0, .ref u1, .ref iz, .int th, .ref mb, .int mn, .int mpt, .int mbg, .int mwr, .int mwk, .int mlf, .int men])), (mw, .inl (ct 0, 958, .inl f_42))]) (n := 2) [1, 0] rfl rfl (by decide))
      have hD : va_D A ([(mo, .inr (11, [.ref mw, .ref ma, .ref mf, .ref m0, .ref m1, .ref mu, .ref mv, .ref u0, .ref u1, .ref iz, .int th, .ref mb, .int mn, .int mpt, .int mbg, .int mwr, .int mwk, .int mlf, .int men])), (mw, .inl (ct 0, 958, .inl f_42))] ++ ws_21) := ty_permD hD (ty_ordp (E := [(mw, .inl (ct 0, 958, .inl f_42)), (mo, .inr (11, [.ref mw, .ref ma, .ref mf, .ref m0, .ref m1, .ref mu, .ref mv, .ref u0, .ref u1, .ref iz, .int th, .ref mb, .int mn, .int mpt, .int mbg, .int mwr, .int mwk, .int mlf, .int men]))]) (E2 := [(mo, .inr (11, [.ref mw, .ref ma, .ref mf, .ref m0, .ref m1, .ref mu, .ref mv, .ref u0, .ref u1, .ref iz, .int th, .ref mb, .int mn, .int mpt, .int mbg, .int mwr, .int mwk, .int mlf, .int men])), (mw, .inl (ct 0, 958, .inl f_42))]) (n := 2) [1, 0] rfl rfl (by decide))
      exact W.vret hx hb hr (fun t ht hW => ⟨⟨(ws_21, f_42), rfl, ⟨hT, ⟨hR_44, hM_45⟩⟩, by rw [ht]; exact hP, by rw [hAe]; exact hD⟩, hS.F ht⟩) hS.2.2 dX11_records_148
    · refine lv_iconst (v := 1) hx hb dX11_records_131 (by decide) ?_
      refine lv_goto (tgt := 136) hx hb dX11_records_132 (by decide) ?_
      refine va_iast hx hb hK hP hD hS 0 0 rfl rfl (rf_in1 (by have := (rf_nb (a := 568) (b := 5) (A := 568) (B := 5) (N := 29) (k := 4) (K := 4) (by decide) (by decide) (by decide) hL_2 (by decide) (by decide) (by decide) (by decide) (by decide)); omega)) dX11_records_136 (fun H locs hP hD hS => ?_)
      have hP : va_P D vwCl ([(mw, .inl (ct 0, 958, .inl (upd f_29 ((568 + (5 * (f 12))) + 4).toNatClampNeg 1))), (mo, .inr (11, [.ref mw, .ref ma, .ref mf, .ref m0, .ref m1, .ref mu, .ref mv, .ref u0, .ref u1, .ref iz, .int th, .ref mb, .int mn, .int mpt, .int mbg, .int mwr, .int mwk, .int mlf, .int men]))] ++ ws_21) H := hP
      have hD : va_D A ([(mw, .inl (ct 0, 958, .inl (upd f_29 ((568 + (5 * (f 12))) + 4).toNatClampNeg 1))), (mo, .inr (11, [.ref mw, .ref ma, .ref mf, .ref m0, .ref m1, .ref mu, .ref mv, .ref u0, .ref u1, .ref iz, .int th, .ref mb, .int mn, .int mpt, .int mbg, .int mwr, .int mwk, .int mlf, .int men]))] ++ ws_21) := hD
      have hU_48 : rf_R G cx (upd f_29 ((568 + (5 * (f 12))) + 4).toNatClampNeg 1) ∧ rf_sm f_29 (upd f_29 ((568 + (5 * (f 12))) + 4).toNatClampNeg 1) := (rf_free _ hR_31 (Or.inr (rf_ge (rf_nb (a := 568) (b := 5) (A := 568) (B := 5) (N := 29) (k := 4) (K := 4) (by decide) (by decide) (by decide) hL_2 (by decide) (by decide) (by decide) (by decide) (by decide)).1)))
      generalize hf_51 : (upd f_29 ((568 + (5 * (f 12))) + 4).toNatClampNeg 1) = f_47 at hP hD hU_48
      have hR_49 := hU_48.1
      have hM_50 := rf_smt hM_32 hU_48.2
      have hq_52 : f_47 12 = f 12 := (rf_u17 hf_51 (rf_ge (rf_nb (a := 568) (b := 5) (A := 568) (B := 5) (N := 29) (k := 4) (K := 4) (by decide) (by decide) (by decide) hL_2 (by decide) (by decide) (by decide) (by decide) (by decide)).1) (by omega)).trans hq_34
      refine lv_aload_n hx hb dX11_records_137 rfl (lv_at hl 1 rfl) ?_
      refine va_get (v := .ref mw) (D := D) (ci := 11) (C := RX11) (T := TX11) (N := 19) hx hb hts in_X11 hown hK hP 1 rfl rfl 0 (by decide) (hts _ kl_RX11_9) (fun _ h9 => h9) rfl dX11_records_138 ?_
      refine lv_bipush (v := 12) hx hb dX11_records_141 (by decide) ?_
      refine lv_dup2_11 hx hb dX11_records_143 rfl rfl ?_
      refine va_iald hx hb hK hP 0 0 rfl rfl (cm_vin (by decide)) dX11_records_144 ?_
      refine cm_cst (y := (f_47 12)) (by first | rfl | decide +kernel) ?_
      refine lv_iconst (v := 1) hx hb dX11_records_145 (by decide) ?_
      refine lv_iadd hx hb dX11_records_146 ?_
      refine va_iast hx hb hK hP hD hS 0 0 rfl rfl (cm_vin (by decide)) dX11_records_147 (fun H locs hP hD hS => ?_)
      have hP : va_P D vwCl ([(mw, .inl (ct 0, 958, .inl (upd f_47 (12 : Int32).toNatClampNeg ((f_47 12) + 1)))), (mo, .inr (11, [.ref mw, .ref ma, .ref mf, .ref m0, .ref m1, .ref mu, .ref mv, .ref u0, .ref u1, .ref iz, .int th, .ref mb, .int mn, .int mpt, .int mbg, .int mwr, .int mwk, .int mlf, .int men]))] ++ ws_21) H := hP
      have hD : va_D A ([(mw, .inl (ct 0, 958, .inl (upd f_47 (12 : Int32).toNatClampNeg ((f_47 12) + 1)))), (mo, .inr (11, [.ref mw, .ref ma, .ref mf, .ref m0, .ref m1, .ref mu, .ref mv, .ref u0, .ref u1, .ref iz, .int th, .ref mb, .int mn, .int mpt, .int mbg, .int mwr, .int mwk, .int mlf, .int men]))] ++ ws_21) := hD
      have hU_54 : rf_R G cx (upd f_47 (12 : Int32).toNatClampNeg ((f_47 12) + 1)) ∧ rf_sm f_47 (upd f_47 (12 : Int32).toNatClampNeg ((f_47 12) + 1)) := (rf_num12 hR_49 (by rw [hq_52]; have := rf_inc9 hL_2 (by omega) (by omega); omega))
      generalize hf_57 : (upd f_47 (12 : Int32).toNatClampNeg ((f_47 12) + 1)) = f_53 at hP hD hU_54
      have hR_55 := hU_54.1
      have hM_56 := rf_smt hM_50 hU_54.2
      have hP : va_P D vwCl ([(mo, .inr (11, [.ref mw, .ref ma, .ref mf, .ref m0, .ref m1, .ref mu, .ref mv, .ref u0, .ref u1, .ref iz, .int th, .ref mb, .int mn, .int mpt, .int mbg, .int mwr, .int mwk, .int mlf, .int men])), (mw, .inl (ct 0, 958, .inl f_53))] ++ ws_21) H := ty_permP hP (ty_ordp (E := [(mw, .inl (ct 0, 958, .inl f_53)), (mo, .inr (11, [.ref mw, .ref ma, .ref mf, .ref m0, .ref m1, .ref mu, .ref mv, .ref u0, .ref u1, .ref iz, .int th, .ref mb, .int mn, .int mpt, .int mbg, .int mwr, .int mwk, .int mlf, .int men]))]) (E2 := [(mo, .inr (11, [.ref mw, .ref ma, .ref mf, .ref m0, .ref m1, .ref mu, .ref mv, .ref u0, .ref u1, .ref iz, .int th, .ref mb, .int mn, .int mpt, .int mbg, .int mwr, .int mwk, .int mlf, .int men])), (mw, .inl (ct 0, 958, .inl f_53))]) (n := 2) [1, 0] rfl rfl (by decide))
      have hD : va_D A ([(mo, .inr (11, [.ref mw, .ref ma, .ref mf, .ref m0, .ref m1, .ref mu, .ref mv, .ref u0, .ref u1, .ref iz, .int th, .ref mb, .int mn, .int mpt, .int mbg, .int mwr, .int mwk, .int mlf, .int men])), (mw, .inl (ct 0, 958, .inl f_53))] ++ ws_21) := ty_permD hD (ty_ordp (E := [(mw, .inl (ct 0, 958, .inl f_53)), (mo, .inr (11, [.ref mw, .ref ma, .ref mf, .ref m0, .ref m1, .ref mu, .ref mv, .ref u0, .ref u1, .ref iz, .int th, .ref mb, .int mn, .int mpt, .int mbg, .int mwr, .int mwk, .int mlf, .int men]))]) (E2 := [(mo, .inr (11, [.ref mw, .ref ma, .ref mf, .ref m0, .ref m1, .ref mu, .ref mv, .ref u0, .ref u1, .ref iz, .int th, .ref mb, .int mn, .int mpt, .int mbg, .int mwr, .int mwk, .int mlf, .int men])), (mw, .inl (ct 0, 958, .inl f_53))]) (n := 2) [1, 0] rfl rfl (by decide))
      exact W.vret hx hb hr (fun t ht hW => ⟨⟨(ws_21, f_53), rfl, ⟨hT, ⟨hR_55, hM_56⟩⟩, by rw [ht]; exact hP, by rw [hAe]; exact hD⟩, hS.F ht⟩) hS.2.2 dX11_records_148
  · refine lv_sipush (v := 568) hx hb dX11_records_12 (by decide) ?_
    refine lv_istore_n (lv' := [(3, .int 568), (0, .ref mo), (1, .int p1), (2, .int p2)]) hx hb dX11_records_15 rfl hl (by decide) rfl (fun ls hl => ?_)
    refine ty_loop (I := fun μ H locs ls => ∃ (ws : va_W) (y_58 : Int32) (f_59 : Nat → Int32), μ = (2147483648 - y_58.toInt).toNat ∧ ty_W ct S ws ∧ va_P D vwCl ([(mo, .inr (11, [.ref mw, .ref ma, .ref mf, .ref m0, .ref m1, .ref mu, .ref mv, .ref u0, .ref u1, .ref iz, .int th, .ref mb, .int mn, .int mpt, .int mbg, .int mwr, .int mwk, .int mlf, .int men])), (mw, .inl (ct 0, 958, .inl f_59))] ++ ws) H ∧ va_D A ([(mo, .inr (11, [.ref mw, .ref ma, .ref mf, .ref m0, .ref m1, .ref mu, .ref mv, .ref u0, .ref u1, .ref iz, .int th, .ref mb, .int mn, .int mpt, .int mbg, .int mwr, .int mwk, .int mlf, .int men])), (mw, .inl (ct 0, 958, .inl f_59))] ++ ws) ∧ va_S A s.heap H locs ∧ lv_has ls 4 [(0, .ref mo), (1, .int p1), (2, .int p2), (3, .int y_58)] ∧ rf_R G cx f_59 ∧ rf_sm f f_59 ∧ (568 ≤ y_58.toInt ∧ y_58.toInt ≤ 713) ∧ f_59 12 = 30) ⟨_, ws, (568 : Int32), f, rfl, hT, hP, hD, hS, (lv_sub hl [1, 2, 3, 0] rfl), hR, (rf_smr f), ⟨by decide, by decide⟩, hc_1⟩ (fun μ H locs ls hI ih_16 => ?_)
    obtain ⟨ws, y_58, f_59, rfl, hT, hP, hD, hS, hl, hR_16, hM_16, hex_16⟩ := hI
    refine lv_iload_n hx hb dX11_records_16 rfl (lv_at hl 3 rfl) ?_
    refine lv_sipush (v := 713) hx hb dX11_records_17 (by decide) ?_
    refine lv_icmp_ge (tgt := 43) hx hb dX11_records_20 (by decide) (fun hc_60 => ?_) (fun hc_60 => ?_)
    · refine lv_aload_n hx hb dX11_records_43 rfl (lv_at hl 0 rfl) ?_
      refine va_get (v := .ref mw) (D := D) (ci := 11) (C := RX11) (T := TX11) (N := 19) hx hb hts in_X11 hown hK hP 0 rfl rfl 0 (by decide) (hts _ kl_RX11_9) (fun _ h9 => h9) rfl dX11_records_44 ?_
      refine lv_bipush (v := 12) hx hb dX11_records_47 (by decide) ?_
      refine lv_dup2_11 hx hb dX11_records_49 rfl rfl ?_
      refine va_iald hx hb hK hP 1 0 rfl rfl (cm_vin (by decide)) dX11_records_50 ?_
      refine cm_cst (y := (f_59 12)) (by first | rfl | decide +kernel) ?_
      refine lv_iconst (v := 1) hx hb dX11_records_51 (by decide) ?_
      refine lv_isub hx hb dX11_records_52 ?_
      refine va_iast hx hb hK hP hD hS 1 0 rfl rfl (cm_vin (by decide)) dX11_records_53 (fun H locs hP hD hS => ?_)
      have hP : va_P D vwCl ([(mo, .inr (11, [.ref mw, .ref ma, .ref mf, .ref m0, .ref m1, .ref mu, .ref mv, .ref u0, .ref u1, .ref iz, .int th, .ref mb, .int mn, .int mpt, .int mbg, .int mwr, .int mwk, .int mlf, .int men])), (mw, .inl (ct 0, 958, .inl (upd f_59 (12 : Int32).toNatClampNeg ((f_59 12) - 1))))] ++ ws) H := hP
      have hD : va_D A ([(mo, .inr (11, [.ref mw, .ref ma, .ref mf, .ref m0, .ref m1, .ref mu, .ref mv, .ref u0, .ref u1, .ref iz, .int th, .ref mb, .int mn, .int mpt, .int mbg, .int mwr, .int mwk, .int mlf, .int men])), (mw, .inl (ct 0, 958, .inl (upd f_59 (12 : Int32).toNatClampNeg ((f_59 12) - 1))))] ++ ws) := hD
      have hU_62 : rf_R G cx (upd f_59 (12 : Int32).toNatClampNeg ((f_59 12) - 1)) ∧ rf_sm f_59 (upd f_59 (12 : Int32).toNatClampNeg ((f_59 12) - 1)) := (rf_num12 hR_16 (by rw [hex_16.2]; decide))
      generalize hf_65 : (upd f_59 (12 : Int32).toNatClampNeg ((f_59 12) - 1)) = f_61 at hP hD hU_62
      have hR_63 := hU_62.1
      have hM_64 := rf_smt hM_16 hU_62.2
      have hL_66 : 0 ≤ (f_61 12).toInt ∧ (f_61 12).toInt ≤ 29 := (by rw [rf_at12 hf_65, hex_16.2]; decide)
      refine lv_sipush (v := 568) hx hb dX11_records_54 (by decide) ?_
      refine lv_iconst (v := 5) hx hb dX11_records_57 (by decide) ?_
      refine lv_aload_n hx hb dX11_records_58 rfl (lv_at hl 0 rfl) ?_
      refine va_get (v := .ref mw) (D := D) (ci := 11) (C := RX11) (T := TX11) (N := 19) hx hb hts in_X11 hown hK hP 0 rfl rfl 0 (by decide) (hts _ kl_RX11_9) (fun _ h9 => h9) rfl dX11_records_59 ?_
      refine lv_bipush (v := 12) hx hb dX11_records_62 (by decide) ?_
      refine va_iald hx hb hK hP 1 0 rfl rfl (cm_vin (by decide)) dX11_records_64 ?_
      refine cm_cst (y := (f_61 12)) (by first | rfl | decide +kernel) ?_
      refine lv_imul hx hb dX11_records_65 ?_
      refine lv_iadd hx hb dX11_records_66 ?_
      refine lv_istore_n (lv' := [(3, .int (568 + (5 * (f_61 12)))), (0, .ref mo), (1, .int p1), (2, .int p2)]) hx hb dX11_records_67 rfl hl (by decide) rfl (fun ls hl => ?_)
      refine lv_aload_n hx hb dX11_records_68 rfl (lv_at hl 1 rfl) ?_
      refine va_get (v := .ref mw) (D := D) (ci := 11) (C := RX11) (T := TX11) (N := 19) hx hb hts in_X11 hown hK hP 0 rfl rfl 0 (by decide) (hts _ kl_RX11_9) (fun _ h9 => h9) rfl dX11_records_69 ?_
      refine lv_iload_n hx hb dX11_records_72 rfl (lv_at hl 0 rfl) ?_
      refine lv_iload_n hx hb dX11_records_73 rfl (lv_at hl 2 rfl) ?_
      refine va_iast hx hb hK hP hD hS 1 0 rfl rfl (rf_in1 (by have := (rf_nb0 (a := 568) (b := 5) (A := 568) (B := 5) (N := 29) (by decide) (by decide) hL_66 (by decide) (by decide) (by decide) (by decide)); omega)) dX11_records_74 (fun H locs hP hD hS => ?_)
      have hP : va_P D vwCl ([(mo, .inr (11, [.ref mw, .ref ma, .ref mf, .ref m0, .ref m1, .ref mu, .ref mv, .ref u0, .ref u1, .ref iz, .int th, .ref mb, .int mn, .int mpt, .int mbg, .int mwr, .int mwk, .int mlf, .int men])), (mw, .inl (ct 0, 958, .inl (upd f_61 (568 + (5 * (f_61 12))).toNatClampNeg p1)))] ++ ws) H := hP
      have hD : va_D A ([(mo, .inr (11, [.ref mw, .ref ma, .ref mf, .ref m0, .ref m1, .ref mu, .ref mv, .ref u0, .ref u1, .ref iz, .int th, .ref mb, .int mn, .int mpt, .int mbg, .int mwr, .int mwk, .int mlf, .int men])), (mw, .inl (ct 0, 958, .inl (upd f_61 (568 + (5 * (f_61 12))).toNatClampNeg p1)))] ++ ws) := hD
      have hU_68 : rf_R G cx (upd f_61 (568 + (5 * (f_61 12))).toNatClampNeg p1) ∧ rf_sm f_61 (upd f_61 (568 + (5 * (f_61 12))).toNatClampNeg p1) := (rf_free _ hR_63 (Or.inr (rf_ge (rf_nb0 (a := 568) (b := 5) (A := 568) (B := 5) (N := 29) (by decide) (by decide) hL_66 (by decide) (by decide) (by decide) (by decide)).1)))
      generalize hf_71 : (upd f_61 (568 + (5 * (f_61 12))).toNatClampNeg p1) = f_67 at hP hD hU_68
      have hR_69 := hU_68.1
      have hM_70 := rf_smt hM_64 hU_68.2
      have hq_72 : f_67 12 = f_61 12 := (rf_u17 hf_71 (rf_ge (rf_nb0 (a := 568) (b := 5) (A := 568) (B := 5) (N := 29) (by decide) (by decide) hL_66 (by decide) (by decide) (by decide) (by decide)).1) (by omega)).trans rfl
      refine lv_aload_n hx hb dX11_records_75 rfl (lv_at hl 1 rfl) ?_
      refine va_get (v := .ref mw) (D := D) (ci := 11) (C := RX11) (T := TX11) (N := 19) hx hb hts in_X11 hown hK hP 0 rfl rfl 0 (by decide) (hts _ kl_RX11_9) (fun _ h9 => h9) rfl dX11_records_76 ?_
      refine lv_iload_n hx hb dX11_records_79 rfl (lv_at hl 0 rfl) ?_
      refine lv_iconst (v := 1) hx hb dX11_records_80 (by decide) ?_
      refine lv_iadd hx hb dX11_records_81 ?_
      refine lv_aload_n hx hb dX11_records_82 rfl (lv_at hl 1 rfl) ?_
      refine lv_iload_n hx hb dX11_records_83 rfl (lv_at hl 2 rfl) ?_
      refine lv_iconst (v := 4) hx hb dX11_records_84 (by decide) ?_
      have hP : va_P D vwCl ([(mw, .inl (ct 0, 958, .inl f_67)), (mo, .inr (11, [.ref mw, .ref ma, .ref mf, .ref m0, .ref m1, .ref mu, .ref mv, .ref u0, .ref u1, .ref iz, .int th, .ref mb, .int mn, .int mpt, .int mbg, .int mwr, .int mwk, .int mlf, .int men]))] ++ ws) H := ty_permP hP (ty_ordp (E := [(mo, .inr (11, [.ref mw, .ref ma, .ref mf, .ref m0, .ref m1, .ref mu, .ref mv, .ref u0, .ref u1, .ref iz, .int th, .ref mb, .int mn, .int mpt, .int mbg, .int mwr, .int mwk, .int mlf, .int men])), (mw, .inl (ct 0, 958, .inl f_67))]) (E2 := [(mw, .inl (ct 0, 958, .inl f_67)), (mo, .inr (11, [.ref mw, .ref ma, .ref mf, .ref m0, .ref m1, .ref mu, .ref mv, .ref u0, .ref u1, .ref iz, .int th, .ref mb, .int mn, .int mpt, .int mbg, .int mwr, .int mwk, .int mlf, .int men]))]) (n := 2) [1, 0] rfl rfl (by decide))
      have hD : va_D A ([(mw, .inl (ct 0, 958, .inl f_67)), (mo, .inr (11, [.ref mw, .ref ma, .ref mf, .ref m0, .ref m1, .ref mu, .ref mv, .ref u0, .ref u1, .ref iz, .int th, .ref mb, .int mn, .int mpt, .int mbg, .int mwr, .int mwk, .int mlf, .int men]))] ++ ws) := ty_permD hD (ty_ordp (E := [(mo, .inr (11, [.ref mw, .ref ma, .ref mf, .ref m0, .ref m1, .ref mu, .ref mv, .ref u0, .ref u1, .ref iz, .int th, .ref mb, .int mn, .int mpt, .int mbg, .int mwr, .int mwk, .int mlf, .int men])), (mw, .inl (ct 0, 958, .inl f_67))]) (E2 := [(mw, .inl (ct 0, 958, .inl f_67)), (mo, .inr (11, [.ref mw, .ref ma, .ref mf, .ref m0, .ref m1, .ref mu, .ref mv, .ref u0, .ref u1, .ref iz, .int th, .ref mb, .int mn, .int mpt, .int mbg, .int mwr, .int mwk, .int mlf, .int men]))]) (n := 2) [1, 0] rfl rfl (by decide))
      refine ty_kl (wr := [(mw, .inl (ct 0, 958, .inl f_67))]) (wc := ([(mo, .inr (11, [.ref mw, .ref ma, .ref mf, .ref m0, .ref m1, .ref mu, .ref mv, .ref u0, .ref u1, .ref iz, .int th, .ref mb, .int mn, .int mpt, .int mbg, .int mwr, .int mwk, .int mlf, .int men]))] ++ ws)) (va_runV (As := [.int p1, .int 4]) (rest := [.int ((568 + (5 * (f_61 12))) + 1), .ref mw]) ⟨hx, hb, hml, hown, hts⟩ (m_X11_sum l D ct S ws mo mw ma mf m0 m1 mu mv u0 u1 iz mb th mn mpt mbg mwr mwk mlf men p1 (4 : Int32) _ hT h_mu h_mv h_u0 h_u1 (rf_c6 hR_69 hc) (by decide)) (cm_V 2 hts kc_X11_sum ki_RX11 kl_RX11_261 kv_X11_sum kx_X11_sum kd_X11_sum ⟨Nat.le_of_ble_eq_true rfl, Nat.le_of_ble_eq_true rfl⟩) (ty_preE (wr := [(mw, .inl (ct 0, 958, .inl f_67))]) (wc := ([(mo, .inr (11, [.ref mw, .ref ma, .ref mf, .ref m0, .ref m1, .ref mu, .ref mv, .ref u0, .ref u1, .ref iz, .int th, .ref mb, .int mn, .int mpt, .int mbg, .int mwr, .int mwk, .int mlf, .int men]))] ++ ws)) (ci := 11) (q0 := 1) hP hK hD hS hA hX rfl rfl) rfl rfl hl.1 rfl (lv_room (Nat.le_of_ble_eq_true rfl)) dX11_records_85 ⟨Nat.le_of_ble_eq_true rfl, Nat.le_of_ble_eq_true rfl⟩) hP hD hS hA (fun r_73 u H locs hw_74 hP hD hS => ?_)
      obtain ⟨ws_75, rfl⟩ : ∃ z, z = u := ⟨_, rfl⟩
      have hT := hw_74
      have hP : va_P D vwCl ([(mw, .inl (ct 0, 958, .inl f_67)), (mo, .inr (11, [.ref mw, .ref ma, .ref mf, .ref m0, .ref m1, .ref mu, .ref mv, .ref u0, .ref u1, .ref iz, .int th, .ref mb, .int mn, .int mpt, .int mbg, .int mwr, .int mwk, .int mlf, .int men]))] ++ ws_75) H := hP
      have hD : va_D A ([(mw, .inl (ct 0, 958, .inl f_67)), (mo, .inr (11, [.ref mw, .ref ma, .ref mf, .ref m0, .ref m1, .ref mu, .ref mv, .ref u0, .ref u1, .ref iz, .int th, .ref mb, .int mn, .int mpt, .int mbg, .int mwr, .int mwk, .int mlf, .int men]))] ++ ws_75) := hD
      refine lv_l2i hx hb dX11_records_88 rfl ?_
      refine lv_topi (fun x_76 _ => ?_)
      refine va_iast hx hb hK hP hD hS 0 0 rfl rfl (rf_in1 (by have := (rf_nb (a := 568) (b := 5) (A := 568) (B := 5) (N := 29) (k := 1) (K := 1) (by decide) (by decide) (by decide) hL_66 (by decide) (by decide) (by decide) (by decide) (by decide)); omega)) dX11_records_89 (fun H locs hP hD hS => ?_)
      have hP : va_P D vwCl ([(mw, .inl (ct 0, 958, .inl (upd f_67 ((568 + (5 * (f_61 12))) + 1).toNatClampNeg x_76))), (mo, .inr (11, [.ref mw, .ref ma, .ref mf, .ref m0, .ref m1, .ref mu, .ref mv, .ref u0, .ref u1, .ref iz, .int th, .ref mb, .int mn, .int mpt, .int mbg, .int mwr, .int mwk, .int mlf, .int men]))] ++ ws_75) H := hP
      have hD : va_D A ([(mw, .inl (ct 0, 958, .inl (upd f_67 ((568 + (5 * (f_61 12))) + 1).toNatClampNeg x_76))), (mo, .inr (11, [.ref mw, .ref ma, .ref mf, .ref m0, .ref m1, .ref mu, .ref mv, .ref u0, .ref u1, .ref iz, .int th, .ref mb, .int mn, .int mpt, .int mbg, .int mwr, .int mwk, .int mlf, .int men]))] ++ ws_75) := hD
      have hU_78 : rf_R G cx (upd f_67 ((568 + (5 * (f_61 12))) + 1).toNatClampNeg x_76) ∧ rf_sm f_67 (upd f_67 ((568 + (5 * (f_61 12))) + 1).toNatClampNeg x_76) := (rf_free _ hR_69 (Or.inr (rf_ge (rf_nb (a := 568) (b := 5) (A := 568) (B := 5) (N := 29) (k := 1) (K := 1) (by decide) (by decide) (by decide) hL_66 (by decide) (by decide) (by decide) (by decide) (by decide)).1)))
      generalize hf_81 : (upd f_67 ((568 + (5 * (f_61 12))) + 1).toNatClampNeg x_76) = f_77 at hP hD hU_78
      have hR_79 := hU_78.1
      have hM_80 := rf_smt hM_70 hU_78.2
      have hq_82 : f_77 12 = f_61 12 := (rf_u17 hf_81 (rf_ge (rf_nb (a := 568) (b := 5) (A := 568) (B := 5) (N := 29) (k := 1) (K := 1) (by decide) (by decide) (by decide) hL_66 (by decide) (by decide) (by decide) (by decide) (by decide)).1) (by omega)).trans hq_72
      refine lv_aload_n hx hb dX11_records_90 rfl (lv_at hl 1 rfl) ?_
      refine va_get (v := .ref mw) (D := D) (ci := 11) (C := RX11) (T := TX11) (N := 19) hx hb hts in_X11 hown hK hP 1 rfl rfl 0 (by decide) (hts _ kl_RX11_9) (fun _ h9 => h9) rfl dX11_records_91 ?_
      refine lv_iload_n hx hb dX11_records_94 rfl (lv_at hl 0 rfl) ?_
      refine lv_iconst (v := 2) hx hb dX11_records_95 (by decide) ?_
      refine lv_iadd hx hb dX11_records_96 ?_
      refine lv_aload_n hx hb dX11_records_97 rfl (lv_at hl 1 rfl) ?_
      refine lv_iload_n hx hb dX11_records_98 rfl (lv_at hl 2 rfl) ?_
      refine lv_iconst (v := 5) hx hb dX11_records_99 (by decide) ?_
      refine ty_kl (wr := [(mw, .inl (ct 0, 958, .inl f_77))]) (wc := ([(mo, .inr (11, [.ref mw, .ref ma, .ref mf, .ref m0, .ref m1, .ref mu, .ref mv, .ref u0, .ref u1, .ref iz, .int th, .ref mb, .int mn, .int mpt, .int mbg, .int mwr, .int mwk, .int mlf, .int men]))] ++ ws_75)) (va_runV (As := [.int p1, .int 5]) (rest := [.int ((568 + (5 * (f_61 12))) + 2), .ref mw]) ⟨hx, hb, hml, hown, hts⟩ (m_X11_sum l D ct S ws_75 mo mw ma mf m0 m1 mu mv u0 u1 iz mb th mn mpt mbg mwr mwk mlf men p1 (5 : Int32) _ hT h_mu h_mv h_u0 h_u1 (rf_c6 hR_79 hc) (by decide)) (cm_V 2 hts kc_X11_sum ki_RX11 kl_RX11_261 kv_X11_sum kx_X11_sum kd_X11_sum ⟨Nat.le_of_ble_eq_true rfl, Nat.le_of_ble_eq_true rfl⟩) (ty_preE (wr := [(mw, .inl (ct 0, 958, .inl f_77))]) (wc := ([(mo, .inr (11, [.ref mw, .ref ma, .ref mf, .ref m0, .ref m1, .ref mu, .ref mv, .ref u0, .ref u1, .ref iz, .int th, .ref mb, .int mn, .int mpt, .int mbg, .int mwr, .int mwk, .int mlf, .int men]))] ++ ws_75)) (ci := 11) (q0 := 1) hP hK hD hS hA hX rfl rfl) rfl rfl hl.1 rfl (lv_room (Nat.le_of_ble_eq_true rfl)) dX11_records_100 ⟨Nat.le_of_ble_eq_true rfl, Nat.le_of_ble_eq_true rfl⟩) hP hD hS hA (fun r_83 u H locs hw_84 hP hD hS => ?_)
      obtain ⟨ws_85, rfl⟩ : ∃ z, z = u := ⟨_, rfl⟩
      have hT := hw_84
      have hP : va_P D vwCl ([(mw, .inl (ct 0, 958, .inl f_77)), (mo, .inr (11, [.ref mw, .ref ma, .ref mf, .ref m0, .ref m1, .ref mu, .ref mv, .ref u0, .ref u1, .ref iz, .int th, .ref mb, .int mn, .int mpt, .int mbg, .int mwr, .int mwk, .int mlf, .int men]))] ++ ws_85) H := hP
      have hD : va_D A ([(mw, .inl (ct 0, 958, .inl f_77)), (mo, .inr (11, [.ref mw, .ref ma, .ref mf, .ref m0, .ref m1, .ref mu, .ref mv, .ref u0, .ref u1, .ref iz, .int th, .ref mb, .int mn, .int mpt, .int mbg, .int mwr, .int mwk, .int mlf, .int men]))] ++ ws_85) := hD
      refine lv_l2i hx hb dX11_records_103 rfl ?_
      refine lv_topi (fun x_86 _ => ?_)
      refine va_iast hx hb hK hP hD hS 0 0 rfl rfl (rf_in1 (by have := (rf_nb (a := 568) (b := 5) (A := 568) (B := 5) (N := 29) (k := 2) (K := 2) (by decide) (by decide) (by decide) hL_66 (by decide) (by decide) (by decide) (by decide) (by decide)); omega)) dX11_records_104 (fun H locs hP hD hS => ?_)
      have hP : va_P D vwCl ([(mw, .inl (ct 0, 958, .inl (upd f_77 ((568 + (5 * (f_61 12))) + 2).toNatClampNeg x_86))), (mo, .inr (11, [.ref mw, .ref ma, .ref mf, .ref m0, .ref m1, .ref mu, .ref mv, .ref u0, .ref u1, .ref iz, .int th, .ref mb, .int mn, .int mpt, .int mbg, .int mwr, .int mwk, .int mlf, .int men]))] ++ ws_85) H := hP
      have hD : va_D A ([(mw, .inl (ct 0, 958, .inl (upd f_77 ((568 + (5 * (f_61 12))) + 2).toNatClampNeg x_86))), (mo, .inr (11, [.ref mw, .ref ma, .ref mf, .ref m0, .ref m1, .ref mu, .ref mv, .ref u0, .ref u1, .ref iz, .int th, .ref mb, .int mn, .int mpt, .int mbg, .int mwr, .int mwk, .int mlf, .int men]))] ++ ws_85) := hD
      have hU_88 : rf_R G cx (upd f_77 ((568 + (5 * (f_61 12))) + 2).toNatClampNeg x_86) ∧ rf_sm f_77 (upd f_77 ((568 + (5 * (f_61 12))) + 2).toNatClampNeg x_86) := (rf_free _ hR_79 (Or.inr (rf_ge (rf_nb (a := 568) (b := 5) (A := 568) (B := 5) (N := 29) (k := 2) (K := 2) (by decide) (by decide) (by decide) hL_66 (by decide) (by decide) (by decide) (by decide) (by decide)).1)))
      generalize hf_91 : (upd f_77 ((568 + (5 * (f_61 12))) + 2).toNatClampNeg x_86) = f_87 at hP hD hU_88
      have hR_89 := hU_88.1
      have hM_90 := rf_smt hM_80 hU_88.2
      have hq_92 : f_87 12 = f_61 12 := (rf_u17 hf_91 (rf_ge (rf_nb (a := 568) (b := 5) (A := 568) (B := 5) (N := 29) (k := 2) (K := 2) (by decide) (by decide) (by decide) hL_66 (by decide) (by decide) (by decide) (by decide) (by decide)).1) (by omega)).trans hq_82
      refine lv_aload_n hx hb dX11_records_105 rfl (lv_at hl 1 rfl) ?_
      refine va_get (v := .ref mw) (D := D) (ci := 11) (C := RX11) (T := TX11) (N := 19) hx hb hts in_X11 hown hK hP 1 rfl rfl 0 (by decide) (hts _ kl_RX11_9) (fun _ h9 => h9) rfl dX11_records_106 ?_
      refine lv_iload_n hx hb dX11_records_109 rfl (lv_at hl 0 rfl) ?_
      refine lv_iconst (v := 3) hx hb dX11_records_110 (by decide) ?_
      refine lv_iadd hx hb dX11_records_111 ?_
      refine lv_aload_n hx hb dX11_records_112 rfl (lv_at hl 1 rfl) ?_
      refine va_get (v := .ref mw) (D := D) (ci := 11) (C := RX11) (T := TX11) (N := 19) hx hb hts in_X11 hown hK hP 1 rfl rfl 0 (by decide) (hts _ kl_RX11_9) (fun _ h9 => h9) rfl dX11_records_113 ?_
      refine lv_bipush (v := 8) hx hb dX11_records_116 (by decide) ?_
      refine va_iald hx hb hK hP 0 0 rfl rfl (cm_vin (by decide)) dX11_records_118 ?_
      refine cm_cst (y := (f_87 8)) (by first | rfl | decide +kernel) ?_
      refine va_iast hx hb hK hP hD hS 0 0 rfl rfl (rf_in1 (by have := (rf_nb (a := 568) (b := 5) (A := 568) (B := 5) (N := 29) (k := 3) (K := 3) (by decide) (by decide) (by decide) hL_66 (by decide) (by decide) (by decide) (by decide) (by decide)); omega)) dX11_records_119 (fun H locs hP hD hS => ?_)
      have hP : va_P D vwCl ([(mw, .inl (ct 0, 958, .inl (upd f_87 ((568 + (5 * (f_61 12))) + 3).toNatClampNeg (f_87 8)))), (mo, .inr (11, [.ref mw, .ref ma, .ref mf, .ref m0, .ref m1, .ref mu, .ref mv, .ref u0, .ref u1, .ref iz, .int th, .ref mb, .int mn, .int mpt, .int mbg, .int mwr, .int mwk, .int mlf, .int men]))] ++ ws_85) H := hP
      have hD : va_D A ([(mw, .inl (ct 0, 958, .inl (upd f_87 ((568 + (5 * (f_61 12))) + 3).toNatClampNeg (f_87 8)))), (mo, .inr (11, [.ref mw, .ref ma, .ref mf, .ref m0, .ref m1, .ref mu, .ref mv, .ref u0, .ref u1, .ref iz, .int th, .ref mb, .int mn, .int mpt, .int mbg, .int mwr, .int mwk, .int mlf, .int men]))] ++ ws_85) := hD
      have hU_94 : rf_R G cx (upd f_87 ((568 + (5 * (f_61 12))) + 3).toNatClampNeg (f_87 8)) ∧ rf_sm f_87 (upd f_87 ((568 + (5 * (f_61 12))) + 3).toNatClampNeg (f_87 8)) := (rf_free _ hR_89 (Or.inr (rf_ge (rf_nb (a := 568) (b := 5) (A := 568) (B := 5) (N := 29) (k := 3) (K := 3) (by decide) (by decide) (by decide) hL_66 (by decide) (by decide) (by decide) (by decide) (by decide)).1)))
      generalize hf_97 : (upd f_87 ((568 + (5 * (f_61 12))) + 3).toNatClampNeg (f_87 8)) = f_93 at hP hD hU_94
      have hR_95 := hU_94.1
      have hM_96 := rf_smt hM_90 hU_94.2
      have hq_98 : f_93 12 = f_61 12 := (rf_u17 hf_97 (rf_ge (rf_nb (a := 568) (b := 5) (A := 568) (B := 5) (N := 29) (k := 3) (K := 3) (by decide) (by decide) (by decide) hL_66 (by decide) (by decide) (by decide) (by decide) (by decide)).1) (by omega)).trans hq_92
      refine lv_aload_n hx hb dX11_records_120 rfl (lv_at hl 1 rfl) ?_
      refine va_get (v := .ref mw) (D := D) (ci := 11) (C := RX11) (T := TX11) (N := 19) hx hb hts in_X11 hown hK hP 1 rfl rfl 0 (by decide) (hts _ kl_RX11_9) (fun _ h9 => h9) rfl dX11_records_121 ?_
      refine lv_iload_n hx hb dX11_records_124 rfl (lv_at hl 0 rfl) ?_
      refine lv_iconst (v := 4) hx hb dX11_records_125 (by decide) ?_
      refine lv_iadd hx hb dX11_records_126 ?_
      refine lv_iload_n hx hb dX11_records_127 rfl (lv_at hl 3 rfl) ?_
      refine lv_if_eq (tgt := 135) hx hb dX11_records_128 (by decide) (fun hc_99 => ?_) (fun hc_99 => ?_)
      · refine lv_iconst (v := 0) hx hb dX11_records_135 (by decide) ?_
        refine va_iast hx hb hK hP hD hS 0 0 rfl rfl (rf_in1 (by have := (rf_nb (a := 568) (b := 5) (A := 568) (B := 5) (N := 29) (k := 4) (K := 4) (by decide) (by decide) (by decide) hL_66 (by decide) (by decide) (by decide) (by decide) (by decide)); omega)) dX11_records_136 (fun H locs hP hD hS => ?_)
        have hP : va_P D vwCl ([(mw, .inl (ct 0, 958, .inl (upd f_93 ((568 + (5 * (f_61 12))) + 4).toNatClampNeg 0))), (mo, .inr (11, [.ref mw, .ref ma, .ref mf, .ref m0, .ref m1, .ref mu, .ref mv, .ref u0, .ref u1, .ref iz, .int th, .ref mb, .int mn, .int mpt, .int mbg, .int mwr, .int mwk, .int mlf, .int men]))] ++ ws_85) H := hP
        have hD : va_D A ([(mw, .inl (ct 0, 958, .inl (upd f_93 ((568 + (5 * (f_61 12))) + 4).toNatClampNeg 0))), (mo, .inr (11, [.ref mw, .ref ma, .ref mf, .ref m0, .ref m1, .ref mu, .ref mv, .ref u0, .ref u1, .ref iz, .int th, .ref mb, .int mn, .int mpt, .int mbg, .int mwr, .int mwk, .int mlf, .int men]))] ++ ws_85) := hD
        have hU_101 : rf_R G cx (upd f_93 ((568 + (5 * (f_61 12))) + 4).toNatClampNeg 0) ∧ rf_sm f_93 (upd f_93 ((568 + (5 * (f_61 12))) + 4).toNatClampNeg 0) := (rf_free _ hR_95 (Or.inr (rf_ge (rf_nb (a := 568) (b := 5) (A := 568) (B := 5) (N := 29) (k := 4) (K := 4) (by decide) (by decide) (by decide) hL_66 (by decide) (by decide) (by decide) (by decide) (by decide)).1)))
        generalize hf_104 : (upd f_93 ((568 + (5 * (f_61 12))) + 4).toNatClampNeg 0) = f_100 at hP hD hU_101
        have hR_102 := hU_101.1
        have hM_103 := rf_smt hM_96 hU_101.2
        have hq_105 : f_100 12 = f_61 12 := (rf_u17 hf_104 (rf_ge (rf_nb (a := 568) (b := 5) (A := 568) (B := 5) (N := 29) (k := 4) (K := 4) (by decide) (by decide) (by decide) hL_66 (by decide) (by decide) (by decide) (by decide) (by decide)).1) (by omega)).trans hq_98
        refine lv_aload_n hx hb dX11_records_137 rfl (lv_at hl 1 rfl) ?_
        refine va_get (v := .ref mw) (D := D) (ci := 11) (C := RX11) (T := TX11) (N := 19) hx hb hts in_X11 hown hK hP 1 rfl rfl 0 (by decide) (hts _ kl_RX11_9) (fun _ h9 => h9) rfl dX11_records_138 ?_
        refine lv_bipush (v := 12) hx hb dX11_records_141 (by decide) ?_
        refine lv_dup2_11 hx hb dX11_records_143 rfl rfl ?_
        refine va_iald hx hb hK hP 0 0 rfl rfl (cm_vin (by decide)) dX11_records_144 ?_
        refine cm_cst (y := (f_100 12)) (by first | rfl | decide +kernel) ?_
        refine lv_iconst (v := 1) hx hb dX11_records_145 (by decide) ?_
        refine lv_iadd hx hb dX11_records_146 ?_
        refine va_iast hx hb hK hP hD hS 0 0 rfl rfl (cm_vin (by decide)) dX11_records_147 (fun H locs hP hD hS => ?_)
        have hP : va_P D vwCl ([(mw, .inl (ct 0, 958, .inl (upd f_100 (12 : Int32).toNatClampNeg ((f_100 12) + 1)))), (mo, .inr (11, [.ref mw, .ref ma, .ref mf, .ref m0, .ref m1, .ref mu, .ref mv, .ref u0, .ref u1, .ref iz, .int th, .ref mb, .int mn, .int mpt, .int mbg, .int mwr, .int mwk, .int mlf, .int men]))] ++ ws_85) H := hP
        have hD : va_D A ([(mw, .inl (ct 0, 958, .inl (upd f_100 (12 : Int32).toNatClampNeg ((f_100 12) + 1)))), (mo, .inr (11, [.ref mw, .ref ma, .ref mf, .ref m0, .ref m1, .ref mu, .ref mv, .ref u0, .ref u1, .ref iz, .int th, .ref mb, .int mn, .int mpt, .int mbg, .int mwr, .int mwk, .int mlf, .int men]))] ++ ws_85) := hD
        have hU_107 : rf_R G cx (upd f_100 (12 : Int32).toNatClampNeg ((f_100 12) + 1)) ∧ rf_sm f_100 (upd f_100 (12 : Int32).toNatClampNeg ((f_100 12) + 1)) := (rf_num12 hR_102 (by rw [hq_105]; have := rf_inc9 hL_66 (by omega) (by omega); omega))
        generalize hf_110 : (upd f_100 (12 : Int32).toNatClampNeg ((f_100 12) + 1)) = f_106 at hP hD hU_107
        have hR_108 := hU_107.1
        have hM_109 := rf_smt hM_103 hU_107.2
        have hP : va_P D vwCl ([(mo, .inr (11, [.ref mw, .ref ma, .ref mf, .ref m0, .ref m1, .ref mu, .ref mv, .ref u0, .ref u1, .ref iz, .int th, .ref mb, .int mn, .int mpt, .int mbg, .int mwr, .int mwk, .int mlf, .int men])), (mw, .inl (ct 0, 958, .inl f_106))] ++ ws_85) H := ty_permP hP (ty_ordp (E := [(mw, .inl (ct 0, 958, .inl f_106)), (mo, .inr (11, [.ref mw, .ref ma, .ref mf, .ref m0, .ref m1, .ref mu, .ref mv, .ref u0, .ref u1, .ref iz, .int th, .ref mb, .int mn, .int mpt, .int mbg, .int mwr, .int mwk, .int mlf, .int men]))]) (E2 := [(mo, .inr (11, [.ref mw, .ref ma, .ref mf, .ref m0, .ref m1, .ref mu, .ref mv, .ref u0, .ref u1, .ref iz, .int th, .ref mb, .int mn, .int mpt, .int mbg, .int mwr, .int mwk, .int mlf, .int men])), (mw, .inl (ct 0, 958, .inl f_106))]) (n := 2) [1, 0] rfl rfl (by decide))
        have hD : va_D A ([(mo, .inr (11, [.ref mw, .ref ma, .ref mf, .ref m0, .ref m1, .ref mu, .ref mv, .ref u0, .ref u1, .ref iz, .int th, .ref mb, .int mn, .int mpt, .int mbg, .int mwr, .int mwk, .int mlf, .int men])), (mw, .inl (ct 0, 958, .inl f_106))] ++ ws_85) := ty_permD hD (ty_ordp (E := [(mw, .inl (ct 0, 958, .inl f_106)), (mo, .inr (11, [.ref mw, .ref ma, .ref mf, .ref m0, .ref m1, .ref mu, .ref mv, .ref u0, .ref u1, .ref iz, .int th, .ref mb, .int mn, .int mpt, .int mbg, .int mwr, .int mwk, .int mlf, .int men]))]) (E2 := [(mo, .inr (11, [.ref mw, .ref ma, .ref mf, .ref m0, .ref m1, .ref mu, .ref mv, .ref u0, .ref u1, .ref iz, .int th, .ref mb, .int mn, .int mpt, .int mbg, .int mwr, .int mwk, .int mlf, .int men])), (mw, .inl (ct 0, 958, .inl f_106))]) (n := 2) [1, 0] rfl rfl (by decide))
        exact W.vret hx hb hr (fun t ht hW => ⟨⟨(ws_85, f_106), rfl, ⟨hT, ⟨hR_108, hM_109⟩⟩, by rw [ht]; exact hP, by rw [hAe]; exact hD⟩, hS.F ht⟩) hS.2.2 dX11_records_148
      · refine lv_iconst (v := 1) hx hb dX11_records_131 (by decide) ?_
        refine lv_goto (tgt := 136) hx hb dX11_records_132 (by decide) ?_
        refine va_iast hx hb hK hP hD hS 0 0 rfl rfl (rf_in1 (by have := (rf_nb (a := 568) (b := 5) (A := 568) (B := 5) (N := 29) (k := 4) (K := 4) (by decide) (by decide) (by decide) hL_66 (by decide) (by decide) (by decide) (by decide) (by decide)); omega)) dX11_records_136 (fun H locs hP hD hS => ?_)
        have hP : va_P D vwCl ([(mw, .inl (ct 0, 958, .inl (upd f_93 ((568 + (5 * (f_61 12))) + 4).toNatClampNeg 1))), (mo, .inr (11, [.ref mw, .ref ma, .ref mf, .ref m0, .ref m1, .ref mu, .ref mv, .ref u0, .ref u1, .ref iz, .int th, .ref mb, .int mn, .int mpt, .int mbg, .int mwr, .int mwk, .int mlf, .int men]))] ++ ws_85) H := hP
        have hD : va_D A ([(mw, .inl (ct 0, 958, .inl (upd f_93 ((568 + (5 * (f_61 12))) + 4).toNatClampNeg 1))), (mo, .inr (11, [.ref mw, .ref ma, .ref mf, .ref m0, .ref m1, .ref mu, .ref mv, .ref u0, .ref u1, .ref iz, .int th, .ref mb, .int mn, .int mpt, .int mbg, .int mwr, .int mwk, .int mlf, .int men]))] ++ ws_85) := hD
        have hU_112 : rf_R G cx (upd f_93 ((568 + (5 * (f_61 12))) + 4).toNatClampNeg 1) ∧ rf_sm f_93 (upd f_93 ((568 + (5 * (f_61 12))) + 4).toNatClampNeg 1) := (rf_free _ hR_95 (Or.inr (rf_ge (rf_nb (a := 568) (b := 5) (A := 568) (B := 5) (N := 29) (k := 4) (K := 4) (by decide) (by decide) (by decide) hL_66 (by decide) (by decide) (by decide) (by decide) (by decide)).1)))
        generalize hf_115 : (upd f_93 ((568 + (5 * (f_61 12))) + 4).toNatClampNeg 1) = f_111 at hP hD hU_112
        have hR_113 := hU_112.1
        have hM_114 := rf_smt hM_96 hU_112.2
        have hq_116 : f_111 12 = f_61 12 := (rf_u17 hf_115 (rf_ge (rf_nb (a := 568) (b := 5) (A := 568) (B := 5) (N := 29) (k := 4) (K := 4) (by decide) (by decide) (by decide) hL_66 (by decide) (by decide) (by decide) (by decide) (by decide)).1) (by omega)).trans hq_98
        refine lv_aload_n hx hb dX11_records_137 rfl (lv_at hl 1 rfl) ?_
        refine va_get (v := .ref mw) (D := D) (ci := 11) (C := RX11) (T := TX11) (N := 19) hx hb hts in_X11 hown hK hP 1 rfl rfl 0 (by decide) (hts _ kl_RX11_9) (fun _ h9 => h9) rfl dX11_records_138 ?_
        refine lv_bipush (v := 12) hx hb dX11_records_141 (by decide) ?_
        refine lv_dup2_11 hx hb dX11_records_143 rfl rfl ?_
        refine va_iald hx hb hK hP 0 0 rfl rfl (cm_vin (by decide)) dX11_records_144 ?_
        refine cm_cst (y := (f_111 12)) (by first | rfl | decide +kernel) ?_
        refine lv_iconst (v := 1) hx hb dX11_records_145 (by decide) ?_
        refine lv_iadd hx hb dX11_records_146 ?_
        refine va_iast hx hb hK hP hD hS 0 0 rfl rfl (cm_vin (by decide)) dX11_records_147 (fun H locs hP hD hS => ?_)
        have hP : va_P D vwCl ([(mw, .inl (ct 0, 958, .inl (upd f_111 (12 : Int32).toNatClampNeg ((f_111 12) + 1)))), (mo, .inr (11, [.ref mw, .ref ma, .ref mf, .ref m0, .ref m1, .ref mu, .ref mv, .ref u0, .ref u1, .ref iz, .int th, .ref mb, .int mn, .int mpt, .int mbg, .int mwr, .int mwk, .int mlf, .int men]))] ++ ws_85) H := hP
        have hD : va_D A ([(mw, .inl (ct 0, 958, .inl (upd f_111 (12 : Int32).toNatClampNeg ((f_111 12) + 1)))), (mo, .inr (11, [.ref mw, .ref ma, .ref mf, .ref m0, .ref m1, .ref mu, .ref mv, .ref u0, .ref u1, .ref iz, .int th, .ref mb, .int mn, .int mpt, .int mbg, .int mwr, .int mwk, .int mlf, .int men]))] ++ ws_85) := hD
        have hU_118 : rf_R G cx (upd f_111 (12 : Int32).toNatClampNeg ((f_111 12) + 1)) ∧ rf_sm f_111 (upd f_111 (12 : Int32).toNatClampNeg ((f_111 12) + 1)) := (rf_num12 hR_113 (by rw [hq_116]; have := rf_inc9 hL_66 (by omega) (by omega); omega))
        generalize hf_121 : (upd f_111 (12 : Int32).toNatClampNeg ((f_111 12) + 1)) = f_117 at hP hD hU_118
        have hR_119 := hU_118.1
        have hM_120 := rf_smt hM_114 hU_118.2
        have hP : va_P D vwCl ([(mo, .inr (11, [.ref mw, .ref ma, .ref mf, .ref m0, .ref m1, .ref mu, .ref mv, .ref u0, .ref u1, .ref iz, .int th, .ref mb, .int mn, .int mpt, .int mbg, .int mwr, .int mwk, .int mlf, .int men])), (mw, .inl (ct 0, 958, .inl f_117))] ++ ws_85) H := ty_permP hP (ty_ordp (E := [(mw, .inl (ct 0, 958, .inl f_117)), (mo, .inr (11, [.ref mw, .ref ma, .ref mf, .ref m0, .ref m1, .ref mu, .ref mv, .ref u0, .ref u1, .ref iz, .int th, .ref mb, .int mn, .int mpt, .int mbg, .int mwr, .int mwk, .int mlf, .int men]))]) (E2 := [(mo, .inr (11, [.ref mw, .ref ma, .ref mf, .ref m0, .ref m1, .ref mu, .ref mv, .ref u0, .ref u1, .ref iz, .int th, .ref mb, .int mn, .int mpt, .int mbg, .int mwr, .int mwk, .int mlf, .int men])), (mw, .inl (ct 0, 958, .inl f_117))]) (n := 2) [1, 0] rfl rfl (by decide))
        have hD : va_D A ([(mo, .inr (11, [.ref mw, .ref ma, .ref mf, .ref m0, .ref m1, .ref mu, .ref mv, .ref u0, .ref u1, .ref iz, .int th, .ref mb, .int mn, .int mpt, .int mbg, .int mwr, .int mwk, .int mlf, .int men])), (mw, .inl (ct 0, 958, .inl f_117))] ++ ws_85) := ty_permD hD (ty_ordp (E := [(mw, .inl (ct 0, 958, .inl f_117)), (mo, .inr (11, [.ref mw, .ref ma, .ref mf, .ref m0, .ref m1, .ref mu, .ref mv, .ref u0, .ref u1, .ref iz, .int th, .ref mb, .int mn, .int mpt, .int mbg, .int mwr, .int mwk, .int mlf, .int men]))]) (E2 := [(mo, .inr (11, [.ref mw, .ref ma, .ref mf, .ref m0, .ref m1, .ref mu, .ref mv, .ref u0, .ref u1, .ref iz, .int th, .ref mb, .int mn, .int mpt, .int mbg, .int mwr, .int mwk, .int mlf, .int men])), (mw, .inl (ct 0, 958, .inl f_117))]) (n := 2) [1, 0] rfl rfl (by decide))
        exact W.vret hx hb hr (fun t ht hW => ⟨⟨(ws_85, f_117), rfl, ⟨hT, ⟨hR_119, hM_120⟩⟩, by rw [ht]; exact hP, by rw [hAe]; exact hD⟩, hS.F ht⟩) hS.2.2 dX11_records_148
    · refine lv_aload_n hx hb dX11_records_23 rfl (lv_at hl 0 rfl) ?_
      refine va_get (v := .ref mw) (D := D) (ci := 11) (C := RX11) (T := TX11) (N := 19) hx hb hts in_X11 hown hK hP 0 rfl rfl 0 (by decide) (hts _ kl_RX11_9) (fun _ h9 => h9) rfl dX11_records_24 ?_
      refine lv_iload_n hx hb dX11_records_27 rfl (lv_at hl 3 rfl) ?_
      refine lv_aload_n hx hb dX11_records_28 rfl (lv_at hl 0 rfl) ?_
      refine va_get (v := .ref mw) (D := D) (ci := 11) (C := RX11) (T := TX11) (N := 19) hx hb hts in_X11 hown hK hP 0 rfl rfl 0 (by decide) (hts _ kl_RX11_9) (fun _ h9 => h9) rfl dX11_records_29 ?_
      refine lv_iload_n hx hb dX11_records_32 rfl (lv_at hl 3 rfl) ?_
      refine lv_iconst (v := 5) hx hb dX11_records_33 (by decide) ?_
      refine lv_iadd hx hb dX11_records_34 ?_
      refine va_iald hx hb hK hP 1 0 rfl rfl (rf_in2 (K := 5) (by decide) (by have := hex_16.1; have := rf_ng (b := 713) (by decide) hc_60; omega)) dX11_records_35 ?_
      refine va_iast hx hb hK hP hD hS 1 0 rfl rfl (rf_in1 (by have := hex_16.1; omega)) dX11_records_36 (fun H locs hP hD hS => ?_)
      have hP : va_P D vwCl ([(mo, .inr (11, [.ref mw, .ref ma, .ref mf, .ref m0, .ref m1, .ref mu, .ref mv, .ref u0, .ref u1, .ref iz, .int th, .ref mb, .int mn, .int mpt, .int mbg, .int mwr, .int mwk, .int mlf, .int men])), (mw, .inl (ct 0, 958, .inl (upd f_59 y_58.toNatClampNeg (f_59 (y_58 + 5).toNatClampNeg))))] ++ ws) H := hP
      have hD : va_D A ([(mo, .inr (11, [.ref mw, .ref ma, .ref mf, .ref m0, .ref m1, .ref mu, .ref mv, .ref u0, .ref u1, .ref iz, .int th, .ref mb, .int mn, .int mpt, .int mbg, .int mwr, .int mwk, .int mlf, .int men])), (mw, .inl (ct 0, 958, .inl (upd f_59 y_58.toNatClampNeg (f_59 (y_58 + 5).toNatClampNeg))))] ++ ws) := hD
      have hU_123 : rf_R G cx (upd f_59 y_58.toNatClampNeg (f_59 (y_58 + 5).toNatClampNeg)) ∧ rf_sm f_59 (upd f_59 y_58.toNatClampNeg (f_59 (y_58 + 5).toNatClampNeg)) := (rf_free _ hR_16 (Or.inr (rf_ge (by have := hex_16.1; omega))))
      generalize hf_126 : (upd f_59 y_58.toNatClampNeg (f_59 (y_58 + 5).toNatClampNeg)) = f_122 at hP hD hU_123
      have hR_124 := hU_123.1
      have hM_125 := rf_smt hM_16 hU_123.2
      refine lv_iinc (v := (y_58 + Int32.ofInt 1)) (lv' := [(3, .int (y_58 + Int32.ofInt 1)), (0, .ref mo), (1, .int p1), (2, .int p2)]) hx hb dX11_records_37 hl (k := 3) rfl rfl (by decide) rfl (fun ls hl => ?_)
      refine lv_goto (tgt := 16) hx hb dX11_records_40 (by decide) ?_
      exact ih_16 _ _ _ _ (ty_inc (cm_lt hc_60)) ⟨ws, (y_58 + Int32.ofInt 1), f_122, rfl, hT, hP, hD, hS, (lv_sub hl [1, 2, 3, 0] rfl), hR_124, hM_125, rf_lp (by decide) hex_16.1 hc_60 (by omega) (by omega), (rf_u17 hf_126 (rf_ge (by have := hex_16; omega)) (by omega)).trans hex_16.2⟩
