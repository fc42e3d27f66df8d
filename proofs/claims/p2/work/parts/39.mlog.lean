theorem dX11_notes_0 : decode cX11_notes 0 = .ok (.aload_n 0, 1) := by decide +kernel
theorem dX11_notes_1 : decode cX11_notes 1 = .ok (.getfield 9, 3) := by decide +kernel
theorem dX11_notes_4 : decode cX11_notes 4 = .ok (.bipush 17, 2) := by decide +kernel
theorem dX11_notes_6 : decode cX11_notes 6 = .ok (.iaload, 1) := by decide +kernel
theorem dX11_notes_7 : decode cX11_notes 7 = .ok (.bipush 60, 2) := by decide +kernel
theorem dX11_notes_9 : decode cX11_notes 9 = .ok (.if_icmp .ne 49, 3) := by decide +kernel
theorem dX11_notes_12 : decode cX11_notes 12 = .ok (.sipush 718, 3) := by decide +kernel
theorem dX11_notes_15 : decode cX11_notes 15 = .ok (.istore 4, 2) := by decide +kernel
theorem dX11_notes_17 : decode cX11_notes 17 = .ok (.iload 4, 2) := by decide +kernel
theorem dX11_notes_19 : decode cX11_notes 19 = .ok (.sipush 954, 3) := by decide +kernel
theorem dX11_notes_22 : decode cX11_notes 22 = .ok (.if_icmp .ge 25, 3) := by decide +kernel
theorem dX11_notes_25 : decode cX11_notes 25 = .ok (.aload_n 0, 1) := by decide +kernel
theorem dX11_notes_26 : decode cX11_notes 26 = .ok (.getfield 9, 3) := by decide +kernel
theorem dX11_notes_29 : decode cX11_notes 29 = .ok (.iload 4, 2) := by decide +kernel
theorem dX11_notes_31 : decode cX11_notes 31 = .ok (.aload_n 0, 1) := by decide +kernel
theorem dX11_notes_32 : decode cX11_notes 32 = .ok (.getfield 9, 3) := by decide +kernel
theorem dX11_notes_35 : decode cX11_notes 35 = .ok (.iload 4, 2) := by decide +kernel
theorem dX11_notes_37 : decode cX11_notes 37 = .ok (.iconst 4, 1) := by decide +kernel
theorem dX11_notes_38 : decode cX11_notes 38 = .ok (.iadd, 1) := by decide +kernel
theorem dX11_notes_39 : decode cX11_notes 39 = .ok (.iaload, 1) := by decide +kernel
theorem dX11_notes_40 : decode cX11_notes 40 = .ok (.iastore, 1) := by decide +kernel
theorem dX11_notes_41 : decode cX11_notes 41 = .ok (.iinc 4 1, 3) := by decide +kernel
theorem dX11_notes_44 : decode cX11_notes 44 = .ok (.goto (-27), 3) := by decide +kernel
theorem dX11_notes_47 : decode cX11_notes 47 = .ok (.aload_n 0, 1) := by decide +kernel
theorem dX11_notes_48 : decode cX11_notes 48 = .ok (.getfield 9, 3) := by decide +kernel
theorem dX11_notes_51 : decode cX11_notes 51 = .ok (.bipush 17, 2) := by decide +kernel
theorem dX11_notes_53 : decode cX11_notes 53 = .ok (.dup2, 1) := by decide +kernel
theorem dX11_notes_54 : decode cX11_notes 54 = .ok (.iaload, 1) := by decide +kernel
theorem dX11_notes_55 : decode cX11_notes 55 = .ok (.iconst 1, 1) := by decide +kernel
theorem dX11_notes_56 : decode cX11_notes 56 = .ok (.isub, 1) := by decide +kernel
theorem dX11_notes_57 : decode cX11_notes 57 = .ok (.iastore, 1) := by decide +kernel
theorem dX11_notes_58 : decode cX11_notes 58 = .ok (.sipush 718, 3) := by decide +kernel
theorem dX11_notes_61 : decode cX11_notes 61 = .ok (.iconst 4, 1) := by decide +kernel
theorem dX11_notes_62 : decode cX11_notes 62 = .ok (.aload_n 0, 1) := by decide +kernel
theorem dX11_notes_63 : decode cX11_notes 63 = .ok (.getfield 9, 3) := by decide +kernel
theorem dX11_notes_66 : decode cX11_notes 66 = .ok (.bipush 17, 2) := by decide +kernel
theorem dX11_notes_68 : decode cX11_notes 68 = .ok (.iaload, 1) := by decide +kernel
theorem dX11_notes_69 : decode cX11_notes 69 = .ok (.imul, 1) := by decide +kernel
theorem dX11_notes_70 : decode cX11_notes 70 = .ok (.iadd, 1) := by decide +kernel
theorem dX11_notes_71 : decode cX11_notes 71 = .ok (.istore 4, 2) := by decide +kernel
theorem dX11_notes_73 : decode cX11_notes 73 = .ok (.aload_n 0, 1) := by decide +kernel
theorem dX11_notes_74 : decode cX11_notes 74 = .ok (.getfield 9, 3) := by decide +kernel
theorem dX11_notes_77 : decode cX11_notes 77 = .ok (.iload 4, 2) := by decide +kernel
theorem dX11_notes_79 : decode cX11_notes 79 = .ok (.aload_n 0, 1) := by decide +kernel
theorem dX11_notes_80 : decode cX11_notes 80 = .ok (.getfield 9, 3) := by decide +kernel
theorem dX11_notes_83 : decode cX11_notes 83 = .ok (.bipush 8, 2) := by decide +kernel
theorem dX11_notes_85 : decode cX11_notes 85 = .ok (.iaload, 1) := by decide +kernel
theorem dX11_notes_86 : decode cX11_notes 86 = .ok (.iastore, 1) := by decide +kernel
theorem dX11_notes_87 : decode cX11_notes 87 = .ok (.aload_n 0, 1) := by decide +kernel
theorem dX11_notes_88 : decode cX11_notes 88 = .ok (.getfield 9, 3) := by decide +kernel
theorem dX11_notes_91 : decode cX11_notes 91 = .ok (.iload 4, 2) := by decide +kernel
theorem dX11_notes_93 : decode cX11_notes 93 = .ok (.iconst 1, 1) := by decide +kernel
theorem dX11_notes_94 : decode cX11_notes 94 = .ok (.iadd, 1) := by decide +kernel
theorem dX11_notes_95 : decode cX11_notes 95 = .ok (.iload_n 1, 1) := by decide +kernel
theorem dX11_notes_96 : decode cX11_notes 96 = .ok (.iastore, 1) := by decide +kernel
theorem dX11_notes_97 : decode cX11_notes 97 = .ok (.aload_n 0, 1) := by decide +kernel
theorem dX11_notes_98 : decode cX11_notes 98 = .ok (.getfield 9, 3) := by decide +kernel
theorem dX11_notes_101 : decode cX11_notes 101 = .ok (.iload 4, 2) := by decide +kernel
theorem dX11_notes_103 : decode cX11_notes 103 = .ok (.iconst 2, 1) := by decide +kernel
theorem dX11_notes_104 : decode cX11_notes 104 = .ok (.iadd, 1) := by decide +kernel
theorem dX11_notes_105 : decode cX11_notes 105 = .ok (.iload_n 2, 1) := by decide +kernel
theorem dX11_notes_106 : decode cX11_notes 106 = .ok (.iastore, 1) := by decide +kernel
theorem dX11_notes_107 : decode cX11_notes 107 = .ok (.aload_n 0, 1) := by decide +kernel
theorem dX11_notes_108 : decode cX11_notes 108 = .ok (.getfield 9, 3) := by decide +kernel
theorem dX11_notes_111 : decode cX11_notes 111 = .ok (.iload 4, 2) := by decide +kernel
theorem dX11_notes_113 : decode cX11_notes 113 = .ok (.iconst 3, 1) := by decide +kernel
theorem dX11_notes_114 : decode cX11_notes 114 = .ok (.iadd, 1) := by decide +kernel
theorem dX11_notes_115 : decode cX11_notes 115 = .ok (.iload_n 3, 1) := by decide +kernel
theorem dX11_notes_116 : decode cX11_notes 116 = .ok (.iastore, 1) := by decide +kernel
theorem dX11_notes_117 : decode cX11_notes 117 = .ok (.aload_n 0, 1) := by decide +kernel
theorem dX11_notes_118 : decode cX11_notes 118 = .ok (.getfield 9, 3) := by decide +kernel
theorem dX11_notes_121 : decode cX11_notes 121 = .ok (.bipush 17, 2) := by decide +kernel
theorem dX11_notes_123 : decode cX11_notes 123 = .ok (.dup2, 1) := by decide +kernel
theorem dX11_notes_124 : decode cX11_notes 124 = .ok (.iaload, 1) := by decide +kernel
theorem dX11_notes_125 : decode cX11_notes 125 = .ok (.iconst 1, 1) := by decide +kernel
theorem dX11_notes_126 : decode cX11_notes 126 = .ok (.iadd, 1) := by decide +kernel
theorem dX11_notes_127 : decode cX11_notes 127 = .ok (.iastore, 1) := by decide +kernel
theorem dX11_notes_128 : decode cX11_notes 128 = .ok (.return_, 1) := by decide +kernel
set_option maxRecDepth 100000 in
set_option maxHeartbeats 4000000 in
theorem m_X11_notes (l : Launch) (D : va_G) (ct : Nat → ClassId) (S : ty_S) (ws : va_W) (m : Nat) (mw : Nat) (ma : Nat) (mf : Nat) (m0 : Nat) (m1 : Nat) (mu : Nat) (mv : Nat) (u0 : Nat) (u1 : Nat) (iz : Nat) (mb : Nat) (th : Int32) (mn : Int32) (mpt : Int32) (mbg : Int32) (mwr : Int32) (mwk : Int32) (mlf : Int32) (men : Int32) (f : Nat → Int32) (G : Nat → Int32) (cx : Int) (p1 : Int32) (p2 : Int32) (p3 : Int32) (sz : Nat) (hT : ty_W ct S ws) (h_mu : S mu = some (.inr (1, 42))) (h_mv : S mv = some (.inr (1, 42))) (h_u0 : S u0 = some (.inr (1, 42))) (h_u1 : S u1 = some (.inr (1, 42))) (h_mb : S mb = some (.inr (0, 800))) (hR : rf_R G cx f) : Met l yX11_notes (ws_ yX11_notes cX11_notes 5 none) ({ frames := 0, cells := 0, slots := 0, locals := 0 } : Room) (va_Pc [.ref m, .int p1, .int p2, .int p3] (cmP D ct sz ([(m, .inr (11, [.ref mw, .ref ma, .ref mf, .ref m0, .ref m1, .ref mu, .ref mv, .ref u0, .ref u1, .ref iz, .int th, .ref mb, .int mn, .int mpt, .int mbg, .int mwr, .int mwk, .int mlf, .int men])), (mw, .inl (ct 0, 958, .inl f))] ++ ws))) (va_Qv (fun (u : va_W × (Nat → Int32)) => match u with | (u9, f1) => ty_W ct S u9 ∧ rf_R G cx f1 ∧ rf_sm f f1) (cmB D ([(m, .inr (11, [.ref mw, .ref ma, .ref mf, .ref m0, .ref m1, .ref mu, .ref mv, .ref u0, .ref u1, .ref iz, .int th, .ref mb, .int mn, .int mpt, .int mbg, .int mwr, .int mwk, .int mlf, .int men])), (mw, .inl (ct 0, 958, .inl f))] ++ ws) sz (fun (u : va_W × (Nat → Int32)) => match u with | (u9, f1) => ([(m, .inr (11, [.ref mw, .ref ma, .ref mf, .ref m0, .ref m1, .ref mu, .ref mv, .ref u0, .ref u1, .ref iz, .int th, .ref mb, .int mn, .int mpt, .int mbg, .int mwr, .int mwk, .int mlf, .int men])), (mw, .inl (ct 0, 958, .inl f1))] ++ u9))) (va_A ([(m, .inr (11, [.ref mw, .ref ma, .ref mf, .ref m0, .ref m1, .ref mu, .ref mv, .ref u0, .ref u1, .ref iz, .int th, .ref mb, .int mn, .int mpt, .int mbg, .int mwr, .int mwk, .int mlf, .int men])), (mw, .inl (ct 0, 958, .inl f))] ++ ws) sz)) 0 0 (va_A ([(m, .inr (11, [.ref mw, .ref ma, .ref mf, .ref m0, .ref m1, .ref mu, .ref mv, .ref u0, .ref u1, .ref iz, .int th, .ref mb, .int mn, .int mpt, .int mbg, .int mwr, .int mwk, .int mlf, .int men])), (mw, .inl (ct 0, 958, .inl f))] ++ ws) sz) := by
  refine Met.ofW (cc := cX11_notes) (maxL := 5) (ret := none) (by decide) rfl ?_
  intro p e s m args below meth c s₁ B hml hv
  obtain ⟨rfl, hsz, hP, hK, hD0, hX⟩ := hv
  have hx := B.exec
  have hb := B.bytes
  have hr := B.returns
  have hts := ws_all (atoms_spec (ws := ws_ yX11_notes cX11_notes 5 none) B.pre)
  have hown : s.vm.findClass RX11 = some m.cls := findClass_of_methodNamed B.named
  have hlocks := B.notSynchronized
  subst hsz
  have hD := hD0.self (sz := s.heap.size)
  generalize hAe : va_A ([(m, .inr (11, [.ref mw, .ref ma, .ref mf, .ref m0, .ref m1, .ref mu, .ref mv, .ref u0, .ref u1, .ref iz, .int th, .ref mb, .int mn, .int mpt, .int mbg, .int mwr, .int mwk, .int mlf, .int men])), (mw, .inl (ct 0, 958, .inl f))] ++ ws) s.heap.size = A at hD hX ⊢
  have hA : ∀ q : Nat, s.heap.size ≤ q → A q := fun q h => by rw [← hAe]; exact Or.inr h
  have hS : va_S A s.heap s.heap [] := va_S.rf
  have hl := lv_entry ([.ref m, .int p1, .int p2, .int p3]) (n := 5) (Nat.le_of_ble_eq_true rfl)
  rw [lg_entry_eq]
  generalize (lg_sl ([.ref m, .int p1, .int p2, .int p3]) ++ List.replicate (5 - (lg_sl ([.ref m, .int p1, .int p2, .int p3])).length) Slot.unset).toArray = ls at hl ⊢
  have hl : lv_has ls 5 [(0, .ref m), (1, .int p1), (2, .int p2), (3, .int p3)] := hl
  refine lv_aload_n hx hb dX11_notes_0 rfl (lv_at hl 0 rfl) ?_
  refine va_get (v := .ref mw) (D := D) (ci := 11) (C := RX11) (T := TX11) (N := 19) hx hb hts in_X11 hown hK hP 0 rfl rfl 0 (by decide) (hts _ kl_RX11_9) (fun _ h9 => h9) rfl dX11_notes_1 ?_
  refine lv_bipush (v := 17) hx hb dX11_notes_4 (by decide) ?_
  refine va_iald hx hb hK hP 1 0 rfl rfl (cm_vin (by decide)) dX11_notes_6 ?_
  refine cm_cst (y := (f 17)) (by first | rfl | decide +kernel) ?_
  refine lv_bipush (v := 60) hx hb dX11_notes_7 (by decide) ?_
  refine lv_icmp_ne (tgt := 58) hx hb dX11_notes_9 (by decide) (fun hc_1 => ?_) (fun hc_1 => ?_)
  · have hL_2 : 0 ≤ (f 17).toInt ∧ (f 17).toInt ≤ 59 := (rf_ne60 (N := 60) (by decide) hc_1 hR.2.2.1.2.2)
    refine lv_sipush (v := 718) hx hb dX11_notes_58 (by decide) ?_
    refine lv_iconst (v := 4) hx hb dX11_notes_61 (by decide) ?_
    refine lv_aload_n hx hb dX11_notes_62 rfl (lv_at hl 0 rfl) ?_
    refine va_get (v := .ref mw) (D := D) (ci := 11) (C := RX11) (T := TX11) (N := 19) hx hb hts in_X11 hown hK hP 0 rfl rfl 0 (by decide) (hts _ kl_RX11_9) (fun _ h9 => h9) rfl dX11_notes_63 ?_
    refine lv_bipush (v := 17) hx hb dX11_notes_66 (by decide) ?_
    refine va_iald hx hb hK hP 1 0 rfl rfl (cm_vin (by decide)) dX11_notes_68 ?_
    refine cm_cst (y := (f 17)) (by first | rfl | decide +kernel) ?_
    refine lv_imul hx hb dX11_notes_69 ?_
    refine lv_iadd hx hb dX11_notes_70 ?_
    refine lv_istore (lv' := [(4, .int (718 + (4 * (f 17)))), (0, .ref m), (1, .int p1), (2, .int p2), (3, .int p3)]) hx hb dX11_notes_71 hl (by decide) rfl (fun ls hl => ?_)
    refine lv_aload_n hx hb dX11_notes_73 rfl (lv_at hl 1 rfl) ?_
    refine va_get (v := .ref mw) (D := D) (ci := 11) (C := RX11) (T := TX11) (N := 19) hx hb hts in_X11 hown hK hP 0 rfl rfl 0 (by decide) (hts _ kl_RX11_9) (fun _ h9 => h9) rfl dX11_notes_74 ?_
    refine lv_iload hx hb dX11_notes_77 (lv_at hl 0 rfl) ?_
    refine lv_aload_n hx hb dX11_notes_79 rfl (lv_at hl 1 rfl) ?_
    refine va_get (v := .ref mw) (D := D) (ci := 11) (C := RX11) (T := TX11) (N := 19) hx hb hts in_X11 hown hK hP 0 rfl rfl 0 (by decide) (hts _ kl_RX11_9) (fun _ h9 => h9) rfl dX11_notes_80 ?_
    refine lv_bipush (v := 8) hx hb dX11_notes_83 (by decide) ?_
    refine va_iald hx hb hK hP 1 0 rfl rfl (cm_vin (by decide)) dX11_notes_85 ?_
    refine cm_cst (y := (f 8)) (by first | rfl | decide +kernel) ?_
    refine va_iast hx hb hK hP hD hS 1 0 rfl rfl (rf_in1 (by have := (rf_nb0 (A := 718) (B := 4) (N := 59) (by decide) (by decide) hL_2 (by decide) (by decide) (by decide) (by decide)); omega)) dX11_notes_86 (fun H locs hP hD hS => ?_)
    have hP : va_P D vwCl ([(m, .inr (11, [.ref mw, .ref ma, .ref mf, .ref m0, .ref m1, .ref mu, .ref mv, .ref u0, .ref u1, .ref iz, .int th, .ref mb, .int mn, .int mpt, .int mbg, .int mwr, .int mwk, .int mlf, .int men])), (mw, .inl (ct 0, 958, .inl (upd f (718 + (4 * (f 17))).toNatClampNeg (f 8))))] ++ ws) H := hP
    have hD : va_D A ([(m, .inr (11, [.ref mw, .ref ma, .ref mf, .ref m0, .ref m1, .ref mu, .ref mv, .ref u0, .ref u1, .ref iz, .int th, .ref mb, .int mn, .int mpt, .int mbg, .int mwr, .int mwk, .int mlf, .int men])), (mw, .inl (ct 0, 958, .inl (upd f (718 + (4 * (f 17))).toNatClampNeg (f 8))))] ++ ws) := hD
    have hU_4 : rf_R G cx (upd f (718 + (4 * (f 17))).toNatClampNeg (f 8)) ∧ rf_sm f (upd f (718 + (4 * (f 17))).toNatClampNeg (f 8)) := (rf_free _ hR (Or.inr (rf_ge (rf_nb0 (A := 718) (B := 4) (N := 59) (by decide) (by decide) hL_2 (by decide) (by decide) (by decide) (by decide)).1)))
    generalize hf_7 : (upd f (718 + (4 * (f 17))).toNatClampNeg (f 8)) = f_3 at hP hD hU_4
    have hR_5 := hU_4.1
    have hM_6 := rf_smt (rf_smr f) hU_4.2
    have hq_8 : f_3 17 = f 17 := (rf_u17 hf_7 (rf_ge (rf_nb0 (A := 718) (B := 4) (N := 59) (by decide) (by decide) hL_2 (by decide) (by decide) (by decide) (by decide)).1) (by omega)).trans rfl
    refine lv_aload_n hx hb dX11_notes_87 rfl (lv_at hl 1 rfl) ?_
    refine va_get (v := .ref mw) (D := D) (ci := 11) (C := RX11) (T := TX11) (N := 19) hx hb hts in_X11 hown hK hP 0 rfl rfl 0 (by decide) (hts _ kl_RX11_9) (fun _ h9 => h9) rfl dX11_notes_88 ?_
    refine lv_iload hx hb dX11_notes_91 (lv_at hl 0 rfl) ?_
    refine lv_iconst (v := 1) hx hb dX11_notes_93 (by decide) ?_
    refine lv_iadd hx hb dX11_notes_94 ?_
    refine lv_iload_n hx hb dX11_notes_95 rfl (lv_at hl 2 rfl) ?_
    refine va_iast hx hb hK hP hD hS 1 0 rfl rfl (rf_in1 (by have := (rf_nb (A := 718) (B := 4) (N := 59) (K := 1) (by decide) (by decide) (by decide) hL_2 (by decide) (by decide) (by decide) (by decide) (by decide)); omega)) dX11_notes_96 (fun H locs hP hD hS => ?_)
    have hP : va_P D vwCl ([(m, .inr (11, [.ref mw, .ref ma, .ref mf, .ref m0, .ref m1, .ref mu, .ref mv, .ref u0, .ref u1, .ref iz, .int th, .ref mb, .int mn, .int mpt, .int mbg, .int mwr, .int mwk, .int mlf, .int men])), (mw, .inl (ct 0, 958, .inl (upd f_3 ((718 + (4 * (f 17))) + 1).toNatClampNeg p1)))] ++ ws) H := hP
    have hD : va_D A ([(m, .inr (11, [.ref mw, .ref ma, .ref mf, .ref m0, .ref m1, .ref mu, .ref mv, .ref u0, .ref u1, .ref iz, .int th, .ref mb, .int mn, .int mpt, .int mbg, .int mwr, .int mwk, .int mlf, .int men])), (mw, .inl (ct 0, 958, .inl (upd f_3 ((718 + (4 * (f 17))) + 1).toNatClampNeg p1)))] ++ ws) := hD
    have hU_10 : rf_R G cx (upd f_3 ((718 + (4 * (f 17))) + 1).toNatClampNeg p1) ∧ rf_sm f_3 (upd f_3 ((718 + (4 * (f 17))) + 1).toNatClampNeg p1) := (rf_free _ hR_5 (Or.inr (rf_ge (rf_nb (A := 718) (B := 4) (N := 59) (K := 1) (by decide) (by decide) (by decide) hL_2 (by decide) (by decide) (by decide) (by decide) (by decide)).1)))
    generalize hf_13 : (upd f_3 ((718 + (4 * (f 17))) + 1).toNatClampNeg p1) = f_9 at hP hD hU_10
    have hR_11 := hU_10.1
    have hM_12 := rf_smt hM_6 hU_10.2
    have hq_14 : f_9 17 = f 17 := (rf_u17 hf_13 (rf_ge (rf_nb (A := 718) (B := 4) (N := 59) (K := 1) (by decide) (by decide) (by decide) hL_2 (by decide) (by decide) (by decide) (by decide) (by decide)).1) (by omega)).trans hq_8
    refine lv_aload_n hx hb dX11_notes_97 rfl (lv_at hl 1 rfl) ?_
    refine va_get (v := .ref mw) (D := D) (ci := 11) (C := RX11) (T := TX11) (N := 19) hx hb hts in_X11 hown hK hP 0 rfl rfl 0 (by decide) (hts _ kl_RX11_9) (fun _ h9 => h9) rfl dX11_notes_98 ?_
    refine lv_iload hx hb dX11_notes_101 (lv_at hl 0 rfl) ?_
    refine lv_iconst (v := 2) hx hb dX11_notes_103 (by decide) ?_
    refine lv_iadd hx hb dX11_notes_104 ?_
    refine lv_iload_n hx hb dX11_notes_105 rfl (lv_at hl 3 rfl) ?_
    refine va_iast hx hb hK hP hD hS 1 0 rfl rfl (rf_in1 (by have := (rf_nb (A := 718) (B := 4) (N := 59) (K := 2) (by decide) (by decide) (by decide) hL_2 (by decide) (by decide) (by decide) (by decide) (by decide)); omega)) dX11_notes_106 (fun H locs hP hD hS => ?_)
    have hP : va_P D vwCl ([(m, .inr (11, [.ref mw, .ref ma, .ref mf, .ref m0, .ref m1, .ref mu, .ref mv, .ref u0, .ref u1, .ref iz, .int th, .ref mb, .int mn, .int mpt, .int mbg, .int mwr, .int mwk, .int mlf, .int men])), (mw, .inl (ct 0, 958, .inl (upd f_9 ((718 + (4 * (f 17))) + 2).toNatClampNeg p2)))] ++ ws) H := hP
    have hD : va_D A ([(m, .inr (11, [.ref mw, .ref ma, .ref mf, .ref m0, .ref m1, .ref mu, .ref mv, .ref u0, .ref u1, .ref iz, .int th, .ref mb, .int mn, .int mpt, .int mbg, .int mwr, .int mwk, .int mlf, .int men])), (mw, .inl (ct 0, 958, .inl (upd f_9 ((718 + (4 * (f 17))) + 2).toNatClampNeg p2)))] ++ ws) := hD
    have hU_16 : rf_R G cx (upd f_9 ((718 + (4 * (f 17))) + 2).toNatClampNeg p2) ∧ rf_sm f_9 (upd f_9 ((718 + (4 * (f 17))) + 2).toNatClampNeg p2) := (rf_free _ hR_11 (Or.inr (rf_ge (rf_nb (A := 718) (B := 4) (N := 59) (K := 2) (by decide) (by decide) (by decide) hL_2 (by decide) (by decide) (by decide) (by decide) (by decide)).1)))
    generalize hf_19 : (upd f_9 ((718 + (4 * (f 17))) + 2).toNatClampNeg p2) = f_15 at hP hD hU_16
    have hR_17 := hU_16.1
    have hM_18 := rf_smt hM_12 hU_16.2
    have hq_20 : f_15 17 = f 17 := (rf_u17 hf_19 (rf_ge (rf_nb (A := 718) (B := 4) (N := 59) (K := 2) (by decide) (by decide) (by decide) hL_2 (by decide) (by decide) (by decide) (by decide) (by decide)).1) (by omega)).trans hq_14
    refine lv_aload_n hx hb dX11_notes_107 rfl (lv_at hl 1 rfl) ?_
    refine va_get (v := .ref mw) (D := D) (ci := 11) (C := RX11) (T := TX11) (N := 19) hx hb hts in_X11 hown hK hP 0 rfl rfl 0 (by decide) (hts _ kl_RX11_9) (fun _ h9 => h9) rfl dX11_notes_108 ?_
    refine lv_iload hx hb dX11_notes_111 (lv_at hl 0 rfl) ?_
    refine lv_iconst (v := 3) hx hb dX11_notes_113 (by decide) ?_
    refine lv_iadd hx hb dX11_notes_114 ?_
    refine lv_iload_n hx hb dX11_notes_115 rfl (lv_at hl 4 rfl) ?_
    refine va_iast hx hb hK hP hD hS 1 0 rfl rfl (rf_in1 (by have := (rf_nb (A := 718) (B := 4) (N := 59) (K := 3) (by decide) (by decide) (by decide) hL_2 (by decide) (by decide) (by decide) (by decide) (by decide)); omega)) dX11_notes_116 (fun H locs hP hD hS => ?_)
    have hP : va_P D vwCl ([(m, .inr (11, [.ref mw, .ref ma, .ref mf, .ref m0, .ref m1, .ref mu, .ref mv, .ref u0, .ref u1, .ref iz, .int th, .ref mb, .int mn, .int mpt, .int mbg, .int mwr, .int mwk, .int mlf, .int men])), (mw, .inl (ct 0, 958, .inl (upd f_15 ((718 + (4 * (f 17))) + 3).toNatClampNeg p3)))] ++ ws) H := hP
    have hD : va_D A ([(m, .inr (11, [.ref mw, .ref ma, .ref mf, .ref m0, .ref m1, .ref mu, .ref mv, .ref u0, .ref u1, .ref iz, .int th, .ref mb, .int mn, .int mpt, .int mbg, .int mwr, .int mwk, .int mlf, .int men])), (mw, .inl (ct 0, 958, .inl (upd f_15 ((718 + (4 * (f 17))) + 3).toNatClampNeg p3)))] ++ ws) := hD
    have hU_22 : rf_R G cx (upd f_15 ((718 + (4 * (f 17))) + 3).toNatClampNeg p3) ∧ rf_sm f_15 (upd f_15 ((718 + (4 * (f 17))) + 3).toNatClampNeg p3) := (rf_free _ hR_17 (Or.inr (rf_ge (rf_nb (A := 718) (B := 4) (N := 59) (K := 3) (by decide) (by decide) (by decide) hL_2 (by decide) (by decide) (by decide) (by decide) (by decide)).1)))
    generalize hf_25 : (upd f_15 ((718 + (4 * (f 17))) + 3).toNatClampNeg p3) = f_21 at hP hD hU_22
    have hR_23 := hU_22.1
    have hM_24 := rf_smt hM_18 hU_22.2
    have hq_26 : f_21 17 = f 17 := (rf_u17 hf_25 (rf_ge (rf_nb (A := 718) (B := 4) (N := 59) (K := 3) (by decide) (by decide) (by decide) hL_2 (by decide) (by decide) (by decide) (by decide) (by decide)).1) (by omega)).trans hq_20
    refine lv_aload_n hx hb dX11_notes_117 rfl (lv_at hl 1 rfl) ?_
    refine va_get (v := .ref mw) (D := D) (ci := 11) (C := RX11) (T := TX11) (N := 19) hx hb hts in_X11 hown hK hP 0 rfl rfl 0 (by decide) (hts _ kl_RX11_9) (fun _ h9 => h9) rfl dX11_notes_118 ?_
    refine lv_bipush (v := 17) hx hb dX11_notes_121 (by decide) ?_
    refine lv_dup2_11 hx hb dX11_notes_123 rfl rfl ?_
    refine va_iald hx hb hK hP 1 0 rfl rfl (cm_vin (by decide)) dX11_notes_124 ?_
    refine cm_cst (y := (f_21 17)) (by first | rfl | decide +kernel) ?_
    refine lv_iconst (v := 1) hx hb dX11_notes_125 (by decide) ?_
    refine lv_iadd hx hb dX11_notes_126 ?_
    refine va_iast hx hb hK hP hD hS 1 0 rfl rfl (cm_vin (by decide)) dX11_notes_127 (fun H locs hP hD hS => ?_)
    have hP : va_P D vwCl ([(m, .inr (11, [.ref mw, .ref ma, .ref mf, .ref m0, .ref m1, .ref mu, .ref mv, .ref u0, .ref u1, .ref iz, .int th, .ref mb, .int mn, .int mpt, .int mbg, .int mwr, .int mwk, .int mlf, .int men])), (mw, .inl (ct 0, 958, .inl (upd f_21 (17 : Int32).toNatClampNeg ((f_21 17) + 1))))] ++ ws) H := hP
    have hD : va_D A ([(m, .inr (11, [.ref mw, .ref ma, .ref mf, .ref m0, .ref m1, .ref mu, .ref mv, .ref u0, .ref u1, .ref iz, .int th, .ref mb, .int mn, .int mpt, .int mbg, .int mwr, .int mwk, .int mlf, .int men])), (mw, .inl (ct 0, 958, .inl (upd f_21 (17 : Int32).toNatClampNeg ((f_21 17) + 1))))] ++ ws) := hD
    have hU_28 : rf_R G cx (upd f_21 (17 : Int32).toNatClampNeg ((f_21 17) + 1)) ∧ rf_sm f_21 (upd f_21 (17 : Int32).toNatClampNeg ((f_21 17) + 1)) := (rf_num17 hR_23 (by rw [hq_26]; have := rf_inc9 hL_2 (by omega) (by omega); omega))
    generalize hf_31 : (upd f_21 (17 : Int32).toNatClampNeg ((f_21 17) + 1)) = f_27 at hP hD hU_28
    have hR_29 := hU_28.1
    have hM_30 := rf_smt hM_24 hU_28.2
    exact W.vret hx hb hr (fun t ht hW => ⟨⟨(ws, f_27), rfl, ⟨hT, ⟨hR_29, hM_30⟩⟩, by rw [ht]; exact hP, by rw [hAe]; exact hD⟩, hS.F ht⟩) hS.2.2 dX11_notes_128
  · refine lv_sipush (v := 718) hx hb dX11_notes_12 (by decide) ?_
    refine lv_istore (lv' := [(4, .int 718), (0, .ref m), (1, .int p1), (2, .int p2), (3, .int p3)]) hx hb dX11_notes_15 hl (by decide) rfl (fun ls hl => ?_)
    refine ty_loop (I := fun μ H locs ls => ∃ (ws : va_W) (y_32 : Int32) (f_33 : Nat → Int32), μ = (2147483648 - y_32.toInt).toNat ∧ ty_W ct S ws ∧ va_P D vwCl ([(m, .inr (11, [.ref mw, .ref ma, .ref mf, .ref m0, .ref m1, .ref mu, .ref mv, .ref u0, .ref u1, .ref iz, .int th, .ref mb, .int mn, .int mpt, .int mbg, .int mwr, .int mwk, .int mlf, .int men])), (mw, .inl (ct 0, 958, .inl f_33))] ++ ws) H ∧ va_D A ([(m, .inr (11, [.ref mw, .ref ma, .ref mf, .ref m0, .ref m1, .ref mu, .ref mv, .ref u0, .ref u1, .ref iz, .int th, .ref mb, .int mn, .int mpt, .int mbg, .int mwr, .int mwk, .int mlf, .int men])), (mw, .inl (ct 0, 958, .inl f_33))] ++ ws) ∧ va_S A s.heap H locs ∧ lv_has ls 5 [(4, .int y_32), (0, .ref m), (1, .int p1), (2, .int p2), (3, .int p3)] ∧ rf_R G cx f_33 ∧ rf_sm f f_33 ∧ (718 ≤ y_32.toInt ∧ y_32.toInt ≤ 954) ∧ f_33 17 = 60) ⟨_, ws, (718 : Int32), f, rfl, hT, hP, hD, hS, (lv_sub hl [0, 1, 2, 3, 4] rfl), hR, (rf_smr f), ⟨by decide, by decide⟩, hc_1⟩ (fun μ H locs ls hI ih_17 => ?_)
    obtain ⟨ws, y_32, f_33, rfl, hT, hP, hD, hS, hl, hR_17, hM_17, hex_17⟩ := hI
    refine lv_iload hx hb dX11_notes_17 (lv_at hl 0 rfl) ?_
    refine lv_sipush (v := 954) hx hb dX11_notes_19 (by decide) ?_
    refine lv_icmp_ge (tgt := 47) hx hb dX11_notes_22 (by decide) (fun hc_34 => ?_) (fun hc_34 => ?_)
    · refine lv_aload_n hx hb dX11_notes_47 rfl (lv_at hl 1 rfl) ?_
      refine va_get (v := .ref mw) (D := D) (ci := 11) (C := RX11) (T := TX11) (N := 19) hx hb hts in_X11 hown hK hP 0 rfl rfl 0 (by decide) (hts _ kl_RX11_9) (fun _ h9 => h9) rfl dX11_notes_48 ?_
      refine lv_bipush (v := 17) hx hb dX11_notes_51 (by decide) ?_
      refine lv_dup2_11 hx hb dX11_notes_53 rfl rfl ?_
      refine va_iald hx hb hK hP 1 0 rfl rfl (cm_vin (by decide)) dX11_notes_54 ?_
      refine cm_cst (y := (f_33 17)) (by first | rfl | decide +kernel) ?_
      refine lv_iconst (v := 1) hx hb dX11_notes_55 (by decide) ?_
      refine lv_isub hx hb dX11_notes_56 ?_
      refine va_iast hx hb hK hP hD hS 1 0 rfl rfl (cm_vin (by decide)) dX11_notes_57 (fun H locs hP hD hS => ?_)
      have hP : va_P D vwCl ([(m, .inr (11, [.ref mw, .ref ma, .ref mf, .ref m0, .ref m1, .ref mu, .ref mv, .ref u0, .ref u1, .ref iz, .int th, .ref mb, .int mn, .int mpt, .int mbg, .int mwr, .int mwk, .int mlf, .int men])), (mw, .inl (ct 0, 958, .inl (upd f_33 (17 : Int32).toNatClampNeg ((f_33 17) - 1))))] ++ ws) H := hP
      have hD : va_D A ([(m, .inr (11, [.ref mw, .ref ma, .ref mf, .ref m0, .ref m1, .ref mu, .ref mv, .ref u0, .ref u1, .ref iz, .int th, .ref mb, .int mn, .int mpt, .int mbg, .int mwr, .int mwk, .int mlf, .int men])), (mw, .inl (ct 0, 958, .inl (upd f_33 (17 : Int32).toNatClampNeg ((f_33 17) - 1))))] ++ ws) := hD
      have hU_36 : rf_R G cx (upd f_33 (17 : Int32).toNatClampNeg ((f_33 17) - 1)) ∧ rf_sm f_33 (upd f_33 (17 : Int32).toNatClampNeg ((f_33 17) - 1)) := (rf_num17 hR_17 (by rw [hex_17.2]; decide))
      generalize hf_39 : (upd f_33 (17 : Int32).toNatClampNeg ((f_33 17) - 1)) = f_35 at hP hD hU_36
      have hR_37 := hU_36.1
      have hM_38 := rf_smt hM_17 hU_36.2
      have hL_40 : 0 ≤ (f_35 17).toInt ∧ (f_35 17).toInt ≤ 59 := (by rw [rf_at17 hf_39, hex_17.2]; decide)
      refine lv_sipush (v := 718) hx hb dX11_notes_58 (by decide) ?_
      refine lv_iconst (v := 4) hx hb dX11_notes_61 (by decide) ?_
      refine lv_aload_n hx hb dX11_notes_62 rfl (lv_at hl 1 rfl) ?_
      refine va_get (v := .ref mw) (D := D) (ci := 11) (C := RX11) (T := TX11) (N := 19) hx hb hts in_X11 hown hK hP 0 rfl rfl 0 (by decide) (hts _ kl_RX11_9) (fun _ h9 => h9) rfl dX11_notes_63 ?_
      refine lv_bipush (v := 17) hx hb dX11_notes_66 (by decide) ?_
      refine va_iald hx hb hK hP 1 0 rfl rfl (cm_vin (by decide)) dX11_notes_68 ?_
      refine cm_cst (y := (f_35 17)) (by first | rfl | decide +kernel) ?_
      refine lv_imul hx hb dX11_notes_69 ?_
      refine lv_iadd hx hb dX11_notes_70 ?_
      refine lv_istore (lv' := [(4, .int (718 + (4 * (f_35 17)))), (0, .ref m), (1, .int p1), (2, .int p2), (3, .int p3)]) hx hb dX11_notes_71 hl (by decide) rfl (fun ls hl => ?_)
      refine lv_aload_n hx hb dX11_notes_73 rfl (lv_at hl 1 rfl) ?_
      refine va_get (v := .ref mw) (D := D) (ci := 11) (C := RX11) (T := TX11) (N := 19) hx hb hts in_X11 hown hK hP 0 rfl rfl 0 (by decide) (hts _ kl_RX11_9) (fun _ h9 => h9) rfl dX11_notes_74 ?_
      refine lv_iload hx hb dX11_notes_77 (lv_at hl 0 rfl) ?_
      refine lv_aload_n hx hb dX11_notes_79 rfl (lv_at hl 1 rfl) ?_
      refine va_get (v := .ref mw) (D := D) (ci := 11) (C := RX11) (T := TX11) (N := 19) hx hb hts in_X11 hown hK hP 0 rfl rfl 0 (by decide) (hts _ kl_RX11_9) (fun _ h9 => h9) rfl dX11_notes_80 ?_
      refine lv_bipush (v := 8) hx hb dX11_notes_83 (by decide) ?_
      refine va_iald hx hb hK hP 1 0 rfl rfl (cm_vin (by decide)) dX11_notes_85 ?_
      refine cm_cst (y := (f_35 8)) (by first | rfl | decide +kernel) ?_
      refine va_iast hx hb hK hP hD hS 1 0 rfl rfl (rf_in1 (by have := (rf_nb0 (A := 718) (B := 4) (N := 59) (by decide) (by decide) hL_40 (by decide) (by decide) (by decide) (by decide)); omega)) dX11_notes_86 (fun H locs hP hD hS => ?_)
      have hP : va_P D vwCl ([(m, .inr (11, [.ref mw, .ref ma, .ref mf, .ref m0, .ref m1, .ref mu, .ref mv, .ref u0, .ref u1, .ref iz, .int th, .ref mb, .int mn, .int mpt, .int mbg, .int mwr, .int mwk, .int mlf, .int men])), (mw, .inl (ct 0, 958, .inl (upd f_35 (718 + (4 * (f_35 17))).toNatClampNeg (f_35 8))))] ++ ws) H := hP
      have hD : va_D A ([(m, .inr (11, [.ref mw, .ref ma, .ref mf, .ref m0, .ref m1, .ref mu, .ref mv, .ref u0, .ref u1, .ref iz, .int th, .ref mb, .int mn, .int mpt, .int mbg, .int mwr, .int mwk, .int mlf, .int men])), (mw, .inl (ct 0, 958, .inl (upd f_35 (718 + (4 * (f_35 17))).toNatClampNeg (f_35 8))))] ++ ws) := hD
      have hU_42 : rf_R G cx (upd f_35 (718 + (4 * (f_35 17))).toNatClampNeg (f_35 8)) ∧ rf_sm f_35 (upd f_35 (718 + (4 * (f_35 17))).toNatClampNeg (f_35 8)) := (rf_free _ hR_37 (Or.inr (rf_ge (rf_nb0 (A := 718) (B := 4) (N := 59) (by decide) (by decide) hL_40 (by decide) (by decide) (by decide) (by decide)).1)))
      generalize hf_45 : (upd f_35 (718 + (4 * (f_35 17))).toNatClampNeg (f_35 8)) = f_41 at hP hD hU_42
      have hR_43 := hU_42.1
      have hM_44 := rf_smt hM_38 hU_42.2
      have hq_46 : f_41 17 = f_35 17 := (rf_u17 hf_45 (rf_ge (rf_nb0 (A := 718) (B := 4) (N := 59) (by decide) (by decide) hL_40 (by decide) (by decide) (by decide) (by decide)).1) (by omega)).trans rfl
      refine lv_aload_n hx hb dX11_notes_87 rfl (lv_at hl 1 rfl) ?_
      refine va_get (v := .ref mw) (D := D) (ci := 11) (C := RX11) (T := TX11) (N := 19) hx hb hts in_X11 hown hK hP 0 rfl rfl 0 (by decide) (hts _ kl_RX11_9) (fun _ h9 => h9) rfl dX11_notes_88 ?_
      refine lv_iload hx hb dX11_notes_91 (lv_at hl 0 rfl) ?_
      refine lv_iconst (v := 1) hx hb dX11_notes_93 (by decide) ?_
      refine lv_iadd hx hb dX11_notes_94 ?_
      refine lv_iload_n hx hb dX11_notes_95 rfl (lv_at hl 2 rfl) ?_
      refine va_iast hx hb hK hP hD hS 1 0 rfl rfl (rf_in1 (by have := (rf_nb (A := 718) (B := 4) (N := 59) (K := 1) (by decide) (by decide) (by decide) hL_40 (by decide) (by decide) (by decide) (by decide) (by decide)); omega)) dX11_notes_96 (fun H locs hP hD hS => ?_)
      have hP : va_P D vwCl ([(m, .inr (11, [.ref mw, .ref ma, .ref mf, .ref m0, .ref m1, .ref mu, .ref mv, .ref u0, .ref u1, .ref iz, .int th, .ref mb, .int mn, .int mpt, .int mbg, .int mwr, .int mwk, .int mlf, .int men])), (mw, .inl (ct 0, 958, .inl (upd f_41 ((718 + (4 * (f_35 17))) + 1).toNatClampNeg p1)))] ++ ws) H := hP
      have hD : va_D A ([(m, .inr (11, [.ref mw, .ref ma, .ref mf, .ref m0, .ref m1, .ref mu, .ref mv, .ref u0, .ref u1, .ref iz, .int th, .ref mb, .int mn, .int mpt, .int mbg, .int mwr, .int mwk, .int mlf, .int men])), (mw, .inl (ct 0, 958, .inl (upd f_41 ((718 + (4 * (f_35 17))) + 1).toNatClampNeg p1)))] ++ ws) := hD
      have hU_48 : rf_R G cx (upd f_41 ((718 + (4 * (f_35 17))) + 1).toNatClampNeg p1) ∧ rf_sm f_41 (upd f_41 ((718 + (4 * (f_35 17))) + 1).toNatClampNeg p1) := (rf_free _ hR_43 (Or.inr (rf_ge (rf_nb (A := 718) (B := 4) (N := 59) (K := 1) (by decide) (by decide) (by decide) hL_40 (by decide) (by decide) (by decide) (by decide) (by decide)).1)))
      generalize hf_51 : (upd f_41 ((718 + (4 * (f_35 17))) + 1).toNatClampNeg p1) = f_47 at hP hD hU_48
      have hR_49 := hU_48.1
      have hM_50 := rf_smt hM_44 hU_48.2
      have hq_52 : f_47 17 = f_35 17 := (rf_u17 hf_51 (rf_ge (rf_nb (A := 718) (B := 4) (N := 59) (K := 1) (by decide) (by decide) (by decide) hL_40 (by decide) (by decide) (by decide) (by decide) (by decide)).1) (by omega)).trans hq_46
      refine lv_aload_n hx hb dX11_notes_97 rfl (lv_at hl 1 rfl) ?_
      refine va_get (v := .ref mw) (D := D) (ci := 11) (C := RX11) (T := TX11) (N := 19) hx hb hts in_X11 hown hK hP 0 rfl rfl 0 (by decide) (hts _ kl_RX11_9) (fun _ h9 => h9) rfl dX11_notes_98 ?_
      refine lv_iload hx hb dX11_notes_101 (lv_at hl 0 rfl) ?_
      refine lv_iconst (v := 2) hx hb dX11_notes_103 (by decide) ?_
      refine lv_iadd hx hb dX11_notes_104 ?_
      refine lv_iload_n hx hb dX11_notes_105 rfl (lv_at hl 3 rfl) ?_
      refine va_iast hx hb hK hP hD hS 1 0 rfl rfl (rf_in1 (by have := (rf_nb (A := 718) (B := 4) (N := 59) (K := 2) (by decide) (by decide) (by decide) hL_40 (by decide) (by decide) (by decide) (by decide) (by decide)); omega)) dX11_notes_106 (fun H locs hP hD hS => ?_)
      have hP : va_P D vwCl ([(m, .inr (11, [.ref mw, .ref ma, .ref mf, .ref m0, .ref m1, .ref mu, .ref mv, .ref u0, .ref u1, .ref iz, .int th, .ref mb, .int mn, .int mpt, .int mbg, .int mwr, .int mwk, .int mlf, .int men])), (mw, .inl (ct 0, 958, .inl (upd f_47 ((718 + (4 * (f_35 17))) + 2).toNatClampNeg p2)))] ++ ws) H := hP
      have hD : va_D A ([(m, .inr (11, [.ref mw, .ref ma, .ref mf, .ref m0, .ref m1, .ref mu, .ref mv, .ref u0, .ref u1, .ref iz, .int th, .ref mb, .int mn, .int mpt, .int mbg, .int mwr, .int mwk, .int mlf, .int men])), (mw, .inl (ct 0, 958, .inl (upd f_47 ((718 + (4 * (f_35 17))) + 2).toNatClampNeg p2)))] ++ ws) := hD
      have hU_54 : rf_R G cx (upd f_47 ((718 + (4 * (f_35 17))) + 2).toNatClampNeg p2) ∧ rf_sm f_47 (upd f_47 ((718 + (4 * (f_35 17))) + 2).toNatClampNeg p2) := (rf_free _ hR_49 (Or.inr (rf_ge (rf_nb (A := 718) (B := 4) (N := 59) (K := 2) (by decide) (by decide) (by decide) hL_40 (by decide) (by decide) (by decide) (by decide) (by decide)).1)))
      generalize hf_57 : (upd f_47 ((718 + (4 * (f_35 17))) + 2).toNatClampNeg p2) = f_53 at hP hD hU_54
      have hR_55 := hU_54.1
      have hM_56 := rf_smt hM_50 hU_54.2
      have hq_58 : f_53 17 = f_35 17 := (rf_u17 hf_57 (rf_ge (rf_nb (A := 718) (B := 4) (N := 59) (K := 2) (by decide) (by decide) (by decide) hL_40 (by decide) (by decide) (by decide) (by decide) (by decide)).1) (by omega)).trans hq_52
      refine lv_aload_n hx hb dX11_notes_107 rfl (lv_at hl 1 rfl) ?_
      refine va_get (v := .ref mw) (D := D) (ci := 11) (C := RX11) (T := TX11) (N := 19) hx hb hts in_X11 hown hK hP 0 rfl rfl 0 (by decide) (hts _ kl_RX11_9) (fun _ h9 => h9) rfl dX11_notes_108 ?_
      refine lv_iload hx hb dX11_notes_111 (lv_at hl 0 rfl) ?_
      refine lv_iconst (v := 3) hx hb dX11_notes_113 (by decide) ?_
      refine lv_iadd hx hb dX11_notes_114 ?_
      refine lv_iload_n hx hb dX11_notes_115 rfl (lv_at hl 4 rfl) ?_
      refine va_iast hx hb hK hP hD hS 1 0 rfl rfl (rf_in1 (by have := (rf_nb (A := 718) (B := 4) (N := 59) (K := 3) (by decide) (by decide) (by decide) hL_40 (by decide) (by decide) (by decide) (by decide) (by decide)); omega)) dX11_notes_116 (fun H locs hP hD hS => ?_)
      have hP : va_P D vwCl ([(m, .inr (11, [.ref mw, .ref ma, .ref mf, .ref m0, .ref m1, .ref mu, .ref mv, .ref u0, .ref u1, .ref iz, .int th, .ref mb, .int mn, .int mpt, .int mbg, .int mwr, .int mwk, .int mlf, .int men])), (mw, .inl (ct 0, 958, .inl (upd f_53 ((718 + (4 * (f_35 17))) + 3).toNatClampNeg p3)))] ++ ws) H := hP
      have hD : va_D A ([(m, .inr (11, [.ref mw, .ref ma, .ref mf, .ref m0, .ref m1, .ref mu, .ref mv, .ref u0, .ref u1, .ref iz, .int th, .ref mb, .int mn, .int mpt, .int mbg, .int mwr, .int mwk, .int mlf, .int men])), (mw, .inl (ct 0, 958, .inl (upd f_53 ((718 + (4 * (f_35 17))) + 3).toNatClampNeg p3)))] ++ ws) := hD
      have hU_60 : rf_R G cx (upd f_53 ((718 + (4 * (f_35 17))) + 3).toNatClampNeg p3) ∧ rf_sm f_53 (upd f_53 ((718 + (4 * (f_35 17))) + 3).toNatClampNeg p3) := (rf_free _ hR_55 (Or.inr (rf_ge (rf_nb (A := 718) (B := 4) (N := 59) (K := 3) (by decide) (by decide) (by decide) hL_40 (by decide) (by decide) (by decide) (by decide) (by decide)).1)))
      generalize hf_63 : (upd f_53 ((718 + (4 * (f_35 17))) + 3).toNatClampNeg p3) = f_59 at hP hD hU_60
      have hR_61 := hU_60.1
      have hM_62 := rf_smt hM_56 hU_60.2
      have hq_64 : f_59 17 = f_35 17 := (rf_u17 hf_63 (rf_ge (rf_nb (A := 718) (B := 4) (N := 59) (K := 3) (by decide) (by decide) (by decide) hL_40 (by decide) (by decide) (by decide) (by decide) (by decide)).1) (by omega)).trans hq_58
      refine lv_aload_n hx hb dX11_notes_117 rfl (lv_at hl 1 rfl) ?_
      refine va_get (v := .ref mw) (D := D) (ci := 11) (C := RX11) (T := TX11) (N := 19) hx hb hts in_X11 hown hK hP 0 rfl rfl 0 (by decide) (hts _ kl_RX11_9) (fun _ h9 => h9) rfl dX11_notes_118 ?_
      refine lv_bipush (v := 17) hx hb dX11_notes_121 (by decide) ?_
      refine lv_dup2_11 hx hb dX11_notes_123 rfl rfl ?_
      refine va_iald hx hb hK hP 1 0 rfl rfl (cm_vin (by decide)) dX11_notes_124 ?_
      refine cm_cst (y := (f_59 17)) (by first | rfl | decide +kernel) ?_
      refine lv_iconst (v := 1) hx hb dX11_notes_125 (by decide) ?_
      refine lv_iadd hx hb dX11_notes_126 ?_
      refine va_iast hx hb hK hP hD hS 1 0 rfl rfl (cm_vin (by decide)) dX11_notes_127 (fun H locs hP hD hS => ?_)
      have hP : va_P D vwCl ([(m, .inr (11, [.ref mw, .ref ma, .ref mf, .ref m0, .ref m1, .ref mu, .ref mv, .ref u0, .ref u1, .ref iz, .int th, .ref mb, .int mn, .int mpt, .int mbg, .int mwr, .int mwk, .int mlf, .int men])), (mw, .inl (ct 0, 958, .inl (upd f_59 (17 : Int32).toNatClampNeg ((f_59 17) + 1))))] ++ ws) H := hP
      have hD : va_D A ([(m, .inr (11, [.ref mw, .ref ma, .ref mf, .ref m0, .ref m1, .ref mu, .ref mv, .ref u0, .ref u1, .ref iz, .int th, .ref mb, .int mn, .int mpt, .int mbg, .int mwr, .int mwk, .int mlf, .int men])), (mw, .inl (ct 0, 958, .inl (upd f_59 (17 : Int32).toNatClampNeg ((f_59 17) + 1))))] ++ ws) := hD
      have hU_66 : rf_R G cx (upd f_59 (17 : Int32).toNatClampNeg ((f_59 17) + 1)) ∧ rf_sm f_59 (upd f_59 (17 : Int32).toNatClampNeg ((f_59 17) + 1)) := (rf_num17 hR_61 (by rw [hq_64]; have := rf_inc9 hL_40 (by omega) (by omega); omega))
      generalize hf_69 : (upd f_59 (17 : Int32).toNatClampNeg ((f_59 17) + 1)) = f_65 at hP hD hU_66
      have hR_67 := hU_66.1
      have hM_68 := rf_smt hM_62 hU_66.2
      exact W.vret hx hb hr (fun t ht hW => ⟨⟨(ws, f_65), rfl, ⟨hT, ⟨hR_67, hM_68⟩⟩, by rw [ht]; exact hP, by rw [hAe]; exact hD⟩, hS.F ht⟩) hS.2.2 dX11_notes_128
    · refine lv_aload_n hx hb dX11_notes_25 rfl (lv_at hl 1 rfl) ?_
      refine va_get (v := .ref mw) (D := D) (ci := 11) (C := RX11) (T := TX11) (N := 19) hx hb hts in_X11 hown hK hP 0 rfl rfl 0 (by decide) (hts _ kl_RX11_9) (fun _ h9 => h9) rfl dX11_notes_26 ?_
      refine lv_iload hx hb dX11_notes_29 (lv_at hl 0 rfl) ?_
      refine lv_aload_n hx hb dX11_notes_31 rfl (lv_at hl 1 rfl) ?_
      refine va_get (v := .ref mw) (D := D) (ci := 11) (C := RX11) (T := TX11) (N := 19) hx hb hts in_X11 hown hK hP 0 rfl rfl 0 (by decide) (hts _ kl_RX11_9) (fun _ h9 => h9) rfl dX11_notes_32 ?_
      refine lv_iload hx hb dX11_notes_35 (lv_at hl 0 rfl) ?_
      refine lv_iconst (v := 4) hx hb dX11_notes_37 (by decide) ?_
      refine lv_iadd hx hb dX11_notes_38 ?_
      refine va_iald hx hb hK hP 1 0 rfl rfl (rf_in2 (K := 4) (by decide) (by have := hex_17.1; have := rf_ng (b := 954) (by decide) hc_34; omega)) dX11_notes_39 ?_
      refine va_iast hx hb hK hP hD hS 1 0 rfl rfl (rf_in1 (by have := hex_17.1; omega)) dX11_notes_40 (fun H locs hP hD hS => ?_)
      have hP : va_P D vwCl ([(m, .inr (11, [.ref mw, .ref ma, .ref mf, .ref m0, .ref m1, .ref mu, .ref mv, .ref u0, .ref u1, .ref iz, .int th, .ref mb, .int mn, .int mpt, .int mbg, .int mwr, .int mwk, .int mlf, .int men])), (mw, .inl (ct 0, 958, .inl (upd f_33 y_32.toNatClampNeg (f_33 (y_32 + 4).toNatClampNeg))))] ++ ws) H := hP
      have hD : va_D A ([(m, .inr (11, [.ref mw, .ref ma, .ref mf, .ref m0, .ref m1, .ref mu, .ref mv, .ref u0, .ref u1, .ref iz, .int th, .ref mb, .int mn, .int mpt, .int mbg, .int mwr, .int mwk, .int mlf, .int men])), (mw, .inl (ct 0, 958, .inl (upd f_33 y_32.toNatClampNeg (f_33 (y_32 + 4).toNatClampNeg))))] ++ ws) := hD
      have hU_71 : rf_R G cx (upd f_33 y_32.toNatClampNeg (f_33 (y_32 + 4).toNatClampNeg)) ∧ rf_sm f_33 (upd f_33 y_32.toNatClampNeg (f_33 (y_32 + 4).toNatClampNeg)) := (rf_free _ hR_17 (Or.inr (rf_ge (by have := hex_17.1; omega))))
      generalize hf_74 : (upd f_33 y_32.toNatClampNeg (f_33 (y_32 + 4).toNatClampNeg)) = f_70 at hP hD hU_71
      have hR_72 := hU_71.1
      have hM_73 := rf_smt hM_17 hU_71.2
      refine lv_iinc (v := (y_32 + Int32.ofInt 1)) (lv' := [(4, .int (y_32 + Int32.ofInt 1)), (0, .ref m), (1, .int p1), (2, .int p2), (3, .int p3)]) hx hb dX11_notes_41 hl (k := 0) rfl rfl (by decide) rfl (fun ls hl => ?_)
      refine lv_goto (tgt := 17) hx hb dX11_notes_44 (by decide) ?_
      exact ih_17 _ _ _ _ (ty_inc (cm_lt hc_34)) ⟨ws, (y_32 + Int32.ofInt 1), f_70, rfl, hT, hP, hD, hS, (lv_sub hl [0, 1, 2, 3, 4] rfl), hR_72, hM_73, rf_lp (by decide) hex_17.1 hc_34 (by omega) (by omega), (rf_u17 hf_74 (rf_ge (by have := hex_17; omega)) (by omega)).trans hex_17.2⟩
theorem dX11_records_0 : decode cX11_records 0 = .ok (.aload_n 0, 1) := by decide +kernel
theorem dX11_records_1 : decode cX11_records 1 = .ok (.getfield 9, 3) := by decide +kernel
theorem dX11_records_4 : decode cX11_records 4 = .ok (.bipush 12, 2) := by decide +kernel
theorem dX11_records_6 : decode cX11_records 6 = .ok (.iaload, 1) := by decide +kernel
theorem dX11_records_7 : decode cX11_records 7 = .ok (.bipush 30, 2) := by decide +kernel
theorem dX11_records_9 : decode cX11_records 9 = .ok (.if_icmp .ne 45, 3) := by decide +kernel
theorem dX11_records_12 : decode cX11_records 12 = .ok (.sipush 568, 3) := by decide +kernel
theorem dX11_records_15 : decode cX11_records 15 = .ok (.istore_n 3, 1) := by decide +kernel
theorem dX11_records_16 : decode cX11_records 16 = .ok (.iload_n 3, 1) := by decide +kernel
theorem dX11_records_17 : decode cX11_records 17 = .ok (.sipush 713, 3) := by decide +kernel
theorem dX11_records_20 : decode cX11_records 20 = .ok (.if_icmp .ge 23, 3) := by decide +kernel
theorem dX11_records_23 : decode cX11_records 23 = .ok (.aload_n 0, 1) := by decide +kernel
theorem dX11_records_24 : decode cX11_records 24 = .ok (.getfield 9, 3) := by decide +kernel
theorem dX11_records_27 : decode cX11_records 27 = .ok (.iload_n 3, 1) := by decide +kernel
theorem dX11_records_28 : decode cX11_records 28 = .ok (.aload_n 0, 1) := by decide +kernel
theorem dX11_records_29 : decode cX11_records 29 = .ok (.getfield 9, 3) := by decide +kernel
theorem dX11_records_32 : decode cX11_records 32 = .ok (.iload_n 3, 1) := by decide +kernel
theorem dX11_records_33 : decode cX11_records 33 = .ok (.iconst 5, 1) := by decide +kernel
theorem dX11_records_34 : decode cX11_records 34 = .ok (.iadd, 1) := by decide +kernel
theorem dX11_records_35 : decode cX11_records 35 = .ok (.iaload, 1) := by decide +kernel
theorem dX11_records_36 : decode cX11_records 36 = .ok (.iastore, 1) := by decide +kernel
theorem dX11_records_37 : decode cX11_records 37 = .ok (.iinc 3 1, 3) := by decide +kernel
theorem dX11_records_40 : decode cX11_records 40 = .ok (.goto (-24), 3) := by decide +kernel
theorem dX11_records_43 : decode cX11_records 43 = .ok (.aload_n 0, 1) := by decide +kernel
theorem dX11_records_44 : decode cX11_records 44 = .ok (.getfield 9, 3) := by decide +kernel
theorem dX11_records_47 : decode cX11_records 47 = .ok (.bipush 12, 2) := by decide +kernel
theorem dX11_records_49 : decode cX11_records 49 = .ok (.dup2, 1) := by decide +kernel
theorem dX11_records_50 : decode cX11_records 50 = .ok (.iaload, 1) := by decide +kernel
theorem dX11_records_51 : decode cX11_records 51 = .ok (.iconst 1, 1) := by decide +kernel
theorem dX11_records_52 : decode cX11_records 52 = .ok (.isub, 1) := by decide +kernel
theorem dX11_records_53 : decode cX11_records 53 = .ok (.iastore, 1) := by decide +kernel
theorem dX11_records_54 : decode cX11_records 54 = .ok (.sipush 568, 3) := by decide +kernel
theorem dX11_records_57 : decode cX11_records 57 = .ok (.iconst 5, 1) := by decide +kernel
theorem dX11_records_58 : decode cX11_records 58 = .ok (.aload_n 0, 1) := by decide +kernel
theorem dX11_records_59 : decode cX11_records 59 = .ok (.getfield 9, 3) := by decide +kernel
theorem dX11_records_62 : decode cX11_records 62 = .ok (.bipush 12, 2) := by decide +kernel
theorem dX11_records_64 : decode cX11_records 64 = .ok (.iaload, 1) := by decide +kernel
theorem dX11_records_65 : decode cX11_records 65 = .ok (.imul, 1) := by decide +kernel
theorem dX11_records_66 : decode cX11_records 66 = .ok (.iadd, 1) := by decide +kernel
theorem dX11_records_67 : decode cX11_records 67 = .ok (.istore_n 3, 1) := by decide +kernel
theorem dX11_records_68 : decode cX11_records 68 = .ok (.aload_n 0, 1) := by decide +kernel
theorem dX11_records_69 : decode cX11_records 69 = .ok (.getfield 9, 3) := by decide +kernel
theorem dX11_records_72 : decode cX11_records 72 = .ok (.iload_n 3, 1) := by decide +kernel
theorem dX11_records_73 : decode cX11_records 73 = .ok (.iload_n 1, 1) := by decide +kernel
theorem dX11_records_74 : decode cX11_records 74 = .ok (.iastore, 1) := by decide +kernel
theorem dX11_records_75 : decode cX11_records 75 = .ok (.aload_n 0, 1) := by decide +kernel
theorem dX11_records_76 : decode cX11_records 76 = .ok (.getfield 9, 3) := by decide +kernel
theorem dX11_records_79 : decode cX11_records 79 = .ok (.iload_n 3, 1) := by decide +kernel
theorem dX11_records_80 : decode cX11_records 80 = .ok (.iconst 1, 1) := by decide +kernel
theorem dX11_records_81 : decode cX11_records 81 = .ok (.iadd, 1) := by decide +kernel
theorem dX11_records_82 : decode cX11_records 82 = .ok (.aload_n 0, 1) := by decide +kernel
theorem dX11_records_83 : decode cX11_records 83 = .ok (.iload_n 1, 1) := by decide +kernel
theorem dX11_records_84 : decode cX11_records 84 = .ok (.iconst 4, 1) := by decide +kernel
theorem dX11_records_85 : decode cX11_records 85 = .ok (.invokevirtual 261, 3) := by decide +kernel
theorem dX11_records_88 : decode cX11_records 88 = .ok (.l2i, 1) := by decide +kernel
theorem dX11_records_89 : decode cX11_records 89 = .ok (.iastore, 1) := by decide +kernel
theorem dX11_records_90 : decode cX11_records 90 = .ok (.aload_n 0, 1) := by decide +kernel
theorem dX11_records_91 : decode cX11_records 91 = .ok (.getfield 9, 3) := by decide +kernel
theorem dX11_records_94 : decode cX11_records 94 = .ok (.iload_n 3, 1) := by decide +kernel
theorem dX11_records_95 : decode cX11_records 95 = .ok (.iconst 2, 1) := by decide +kernel
theorem dX11_records_96 : decode cX11_records 96 = .ok (.iadd, 1) := by decide +kernel
theorem dX11_records_97 : decode cX11_records 97 = .ok (.aload_n 0, 1) := by decide +kernel
theorem dX11_records_98 : decode cX11_records 98 = .ok (.iload_n 1, 1) := by decide +kernel
theorem dX11_records_99 : decode cX11_records 99 = .ok (.iconst 5, 1) := by decide +kernel
theorem dX11_records_100 : decode cX11_records 100 = .ok (.invokevirtual 261, 3) := by decide +kernel
theorem dX11_records_103 : decode cX11_records 103 = .ok (.l2i, 1) := by decide +kernel
theorem dX11_records_104 : decode cX11_records 104 = .ok (.iastore, 1) := by decide +kernel
theorem dX11_records_105 : decode cX11_records 105 = .ok (.aload_n 0, 1) := by decide +kernel
theorem dX11_records_106 : decode cX11_records 106 = .ok (.getfield 9, 3) := by decide +kernel
theorem dX11_records_109 : decode cX11_records 109 = .ok (.iload_n 3, 1) := by decide +kernel
theorem dX11_records_110 : decode cX11_records 110 = .ok (.iconst 3, 1) := by decide +kernel
theorem dX11_records_111 : decode cX11_records 111 = .ok (.iadd, 1) := by decide +kernel
theorem dX11_records_112 : decode cX11_records 112 = .ok (.aload_n 0, 1) := by decide +kernel
theorem dX11_records_113 : decode cX11_records 113 = .ok (.getfield 9, 3) := by decide +kernel
theorem dX11_records_116 : decode cX11_records 116 = .ok (.bipush 8, 2) := by decide +kernel
theorem dX11_records_118 : decode cX11_records 118 = .ok (.iaload, 1) := by decide +kernel
theorem dX11_records_119 : decode cX11_records 119 = .ok (.iastore, 1) := by decide +kernel
theorem dX11_records_120 : decode cX11_records 120 = .ok (.aload_n 0, 1) := by decide +kernel
theorem dX11_records_121 : decode cX11_records 121 = .ok (.getfield 9, 3) := by decide +kernel
theorem dX11_records_124 : decode cX11_records 124 = .ok (.iload_n 3, 1) := by decide +kernel
theorem dX11_records_125 : decode cX11_records 125 = .ok (.iconst 4, 1) := by decide +kernel
theorem dX11_records_126 : decode cX11_records 126 = .ok (.iadd, 1) := by decide +kernel
theorem dX11_records_127 : decode cX11_records 127 = .ok (.iload_n 2, 1) := by decide +kernel
theorem dX11_records_128 : decode cX11_records 128 = .ok (.ifCond .eq 7, 3) := by decide +kernel
theorem dX11_records_131 : decode cX11_records 131 = .ok (.iconst 1, 1) := by decide +kernel
theorem dX11_records_132 : decode cX11_records 132 = .ok (.goto 4, 3) := by decide +kernel
theorem dX11_records_135 : decode cX11_records 135 = .ok (.iconst 0, 1) := by decide +kernel
theorem dX11_records_136 : decode cX11_records 136 = .ok (.iastore, 1) := by decide +kernel
theorem dX11_records_137 : decode cX11_records 137 = .ok (.aload_n 0, 1) := by decide +kernel
theorem dX11_records_138 : decode cX11_records 138 = .ok (.getfield 9, 3) := by decide +kernel
theorem dX11_records_141 : decode cX11_records 141 = .ok (.bipush 12, 2) := by decide +kernel
theorem dX11_records_143 : decode cX11_records 143 = .ok (.dup2, 1) := by decide +kernel
theorem dX11_records_144 : decode cX11_records 144 = .ok (.iaload, 1) := by decide +kernel
theorem dX11_records_145 : decode cX11_records 145 = .ok (.iconst 1, 1) := by decide +kernel
theorem dX11_records_146 : decode cX11_records 146 = .ok (.iadd, 1) := by decide +kernel
theorem dX11_records_147 : decode cX11_records 147 = .ok (.iastore, 1) := by decide +kernel
theorem dX11_records_148 : decode cX11_records 148 = .ok (.return_, 1) := by decide +kernel
set_option maxRecDepth 100000 in
set_option maxHeartbeats 4000000 in
theorem m_X11_records (l : Launch) (D : va_G) (ct : Nat → ClassId) (S : ty_S) (ws : va_W) (m : Nat) (mw : Nat) (ma : Nat) (mf : Nat) (m0 : Nat) (m1 : Nat) (mu : Nat) (mv : Nat) (u0 : Nat) (u1 : Nat) (iz : Nat) (mb : Nat) (th : Int32) (mn : Int32) (mpt : Int32) (mbg : Int32) (mwr : Int32) (mwk : Int32) (mlf : Int32) (men : Int32) (f : Nat → Int32) (G : Nat → Int32) (cx : Int) (p1 : Int32) (p2 : Int32) (sz : Nat) (hT : ty_W ct S ws) (h_mu : S mu = some (.inr (1, 42))) (h_mv : S mv = some (.inr (1, 42))) (h_u0 : S u0 = some (.inr (1, 42))) (h_u1 : S u1 = some (.inr (1, 42))) (h_mb : S mb = some (.inr (0, 800))) (hR : rf_R G cx f) (hc : 0 ≤ p1.toInt ∧ p1.toInt < (G 9).toInt) : Met l yX11_records (ws_ yX11_records cX11_records 4 none) ({ frames := 1, cells := 0, slots := 0, locals := 22 } : Room) (va_Pc [.ref m, .int p1, .int p2] (cmP D ct sz ([(m, .inr (11, [.ref mw, .ref ma, .ref mf, .ref m0, .ref m1, .ref mu, .ref mv, .ref u0, .ref u1, .ref iz, .int th, .ref mb, .int mn, .int mpt, .int mbg, .int mwr, .int mwk, .int mlf, .int men])), (mw, .inl (ct 0, 958, .inl f))] ++ ws))) (va_Qv (fun (u : va_W × (Nat → Int32)) => match u with | (u9, f1) => ty_W ct S u9 ∧ rf_R G cx f1 ∧ rf_sm f f1) (cmB D ([(m, .inr (11, [.ref mw, .ref ma, .ref mf, .ref m0, .ref m1, .ref mu, .ref mv, .ref u0, .ref u1, .ref iz, .int th, .ref mb, .int mn, .int mpt, .int mbg, .int mwr, .int mwk, .int mlf, .int men])), (mw, .inl (ct 0, 958, .inl f))] ++ ws) sz (fun (u : va_W × (Nat → Int32)) => match u with | (u9, f1) => ([(m, .inr (11, [.ref mw, .ref ma, .ref mf, .ref m0, .ref m1, .ref mu, .ref mv, .ref u0, .ref u1, .ref iz, .int th, .ref mb, .int mn, .int mpt, .int mbg, .int mwr, .int mwk, .int mlf, .int men])), (mw, .inl (ct 0, 958, .inl f1))] ++ u9))) (va_A ([(m, .inr (11, [.ref mw, .ref ma, .ref mf, .ref m0, .ref m1, .ref mu, .ref mv, .ref u0, .ref u1, .ref iz, .int th, .ref mb, .int mn, .int mpt, .int mbg, .int mwr, .int mwk, .int mlf, .int men])), (mw, .inl (ct 0, 958, .inl f))] ++ ws) sz)) 0 0 (va_A ([(m, .inr (11, [.ref mw, .ref ma, .ref mf, .ref m0, .ref m1, .ref mu, .ref mv, .ref u0, .ref u1, .ref iz, .int th, .ref mb, .int mn, .int mpt, .int mbg, .int mwr, .int mwk, .int mlf, .int men])), (mw, .inl (ct 0, 958, .inl f))] ++ ws) sz) := by
  refine Met.ofW (cc := cX11_records) (maxL := 4) (ret := none) (by decide) rfl ?_
  intro p e s m args below meth c s₁ B hml hv
  obtain ⟨rfl, hsz, hP, hK, hD0, hX⟩ := hv
  have hx := B.exec
  have hb := B.bytes
  have hr := B.returns
  have hts := ws_all (atoms_spec (ws := ws_ yX11_records cX11_records 4 none) B.pre)
  have hown : s.vm.findClass RX11 = some m.cls := findClass_of_methodNamed B.named
  have hlocks := B.notSynchronized
  subst hsz
  have hD := hD0.self (sz := s.heap.size)
  generalize hAe : va_A ([(m, .inr (11, [.ref mw, .ref ma, .ref mf, .ref m0, .ref m1, .ref mu, .ref mv, .ref u0, .ref u1, .ref iz, .int th, .ref mb, .int mn, .int mpt, .int mbg, .int mwr, .int mwk, .int mlf, .int men])), (mw, .inl (ct 0, 958, .inl f))] ++ ws) s.heap.size = A at hD hX ⊢
  have hA : ∀ q : Nat, s.heap.size ≤ q → A q := fun q h => by rw [← hAe]; exact Or.inr h
  have hS : va_S A s.heap s.heap [] := va_S.rf
  have hl := lv_entry ([.ref m, .int p1, .int p2]) (n := 4) (Nat.le_of_ble_eq_true rfl)
  rw [lg_entry_eq]
  generalize (lg_sl ([.ref m, .int p1, .int p2]) ++ List.replicate (4 - (lg_sl ([.ref m, .int p1, .int p2])).length) Slot.unset).toArray = ls at hl ⊢
  have hl : lv_has ls 4 [(0, .ref m), (1, .int p1), (2, .int p2)] := hl
  refine lv_aload_n hx hb dX11_records_0 rfl (lv_at hl 0 rfl) ?_
  refine va_get (v := .ref mw) (D := D) (ci := 11) (C := RX11) (T := TX11) (N := 19) hx hb hts in_X11 hown hK hP 0 rfl rfl 0 (by decide) (hts _ kl_RX11_9) (fun _ h9 => h9) rfl dX11_records_1 ?_
  refine lv_bipush (v := 12) hx hb dX11_records_4 (by decide) ?_
  refine va_iald hx hb hK hP 1 0 rfl rfl (cm_vin (by decide)) dX11_records_6 ?_
  refine cm_cst (y := (f 12)) (by first | rfl | decide +kernel) ?_
  refine lv_bipush (v := 30) hx hb dX11_records_7 (by decide) ?_
  refine lv_icmp_ne (tgt := 54) hx hb dX11_records_9 (by decide) (fun hc_1 => ?_) (fun hc_1 => ?_)
  · have hL_2 : 0 ≤ (f 12).toInt ∧ (f 12).toInt ≤ 29 := (rf_ne60 (N := 30) (by decide) hc_1 hR.2.2.1.1)
    refine lv_sipush (v := 568) hx hb dX11_records_54 (by decide) ?_
    refine lv_iconst (v := 5) hx hb dX11_records_57 (by decide) ?_
    refine lv_aload_n hx hb dX11_records_58 rfl (lv_at hl 0 rfl) ?_
    refine va_get (v := .ref mw) (D := D) (ci := 11) (C := RX11) (T := TX11) (N := 19) hx hb hts in_X11 hown hK hP 0 rfl rfl 0 (by decide) (hts _ kl_RX11_9) (fun _ h9 => h9) rfl dX11_records_59 ?_
    refine lv_bipush (v := 12) hx hb dX11_records_62 (by decide) ?_
    refine va_iald hx hb hK hP 1 0 rfl rfl (cm_vin (by decide)) dX11_records_64 ?_
    refine cm_cst (y := (f 12)) (by first | rfl | decide +kernel) ?_
    refine lv_imul hx hb dX11_records_65 ?_
    refine lv_iadd hx hb dX11_records_66 ?_
    refine lv_istore_n (lv' := [(3, .int (568 + (5 * (f 12)))), (0, .ref m), (1, .int p1), (2, .int p2)]) hx hb dX11_records_67 rfl hl (by decide) rfl (fun ls hl => ?_)
    refine lv_aload_n hx hb dX11_records_68 rfl (lv_at hl 1 rfl) ?_
    refine va_get (v := .ref mw) (D := D) (ci := 11) (C := RX11) (T := TX11) (N := 19) hx hb hts in_X11 hown hK hP 0 rfl rfl 0 (by decide) (hts _ kl_RX11_9) (fun _ h9 => h9) rfl dX11_records_69 ?_
    refine lv_iload_n hx hb dX11_records_72 rfl (lv_at hl 0 rfl) ?_
    refine lv_iload_n hx hb dX11_records_73 rfl (lv_at hl 2 rfl) ?_
    refine va_iast hx hb hK hP hD hS 1 0 rfl rfl (rf_in1 (by have := (rf_nb0 (A := 568) (B := 5) (N := 29) (by decide) (by decide) hL_2 (by decide) (by decide) (by decide) (by decide)); omega)) dX11_records_74 (fun H locs hP hD hS => ?_)
    have hP : va_P D vwCl ([(m, .inr (11, [.ref mw, .ref ma, .ref mf, .ref m0, .ref m1, .ref mu, .ref mv, .ref u0, .ref u1, .ref iz, .int th, .ref mb, .int mn, .int mpt, .int mbg, .int mwr, .int mwk, .int mlf, .int men])), (mw, .inl (ct 0, 958, .inl (upd f (568 + (5 * (f 12))).toNatClampNeg p1)))] ++ ws) H := hP
    have hD : va_D A ([(m, .inr (11, [.ref mw, .ref ma, .ref mf, .ref m0, .ref m1, .ref mu, .ref mv, .ref u0, .ref u1, .ref iz, .int th, .ref mb, .int mn, .int mpt, .int mbg, .int mwr, .int mwk, .int mlf, .int men])), (mw, .inl (ct 0, 958, .inl (upd f (568 + (5 * (f 12))).toNatClampNeg p1)))] ++ ws) := hD
    have hU_4 : rf_R G cx (upd f (568 + (5 * (f 12))).toNatClampNeg p1) ∧ rf_sm f (upd f (568 + (5 * (f 12))).toNatClampNeg p1) := (rf_free _ hR (Or.inr (rf_ge (rf_nb0 (A := 568) (B := 5) (N := 29) (by decide) (by decide) hL_2 (by decide) (by decide) (by decide) (by decide)).1)))
    generalize hf_7 : (upd f (568 + (5 * (f 12))).toNatClampNeg p1) = f_3 at hP hD hU_4
    have hR_5 := hU_4.1
    have hM_6 := rf_smt (rf_smr f) hU_4.2
    have hq_8 : f_3 12 = f 12 := (rf_u17 hf_7 (rf_ge (rf_nb0 (A := 568) (B := 5) (N := 29) (by decide) (by decide) hL_2 (by decide) (by decide) (by decide) (by decide)).1) (by omega)).trans rfl
    refine lv_aload_n hx hb dX11_records_75 rfl (lv_at hl 1 rfl) ?_
    refine va_get (v := .ref mw) (D := D) (ci := 11) (C := RX11) (T := TX11) (N := 19) hx hb hts in_X11 hown hK hP 0 rfl rfl 0 (by decide) (hts _ kl_RX11_9) (fun _ h9 => h9) rfl dX11_records_76 ?_
    refine lv_iload_n hx hb dX11_records_79 rfl (lv_at hl 0 rfl) ?_
    refine lv_iconst (v := 1) hx hb dX11_records_80 (by decide) ?_
    refine lv_iadd hx hb dX11_records_81 ?_
    refine lv_aload_n hx hb dX11_records_82 rfl (lv_at hl 1 rfl) ?_
    refine lv_iload_n hx hb dX11_records_83 rfl (lv_at hl 2 rfl) ?_
    refine lv_iconst (v := 4) hx hb dX11_records_84 (by decide) ?_
    have hP : va_P D vwCl ([(mw, .inl (ct 0, 958, .inl f_3)), (m, .inr (11, [.ref mw, .ref ma, .ref mf, .ref m0, .ref m1, .ref mu, .ref mv, .ref u0, .ref u1, .ref iz, .int th, .ref mb, .int mn, .int mpt, .int mbg, .int mwr, .int mwk, .int mlf, .int men]))] ++ ws) H := ty_permP hP (ty_ordp (E := [(m, .inr (11, [.ref mw, .ref ma, .ref mf, .ref m0, .ref m1, .ref mu, .ref mv, .ref u0, .ref u1, .ref iz, .int th, .ref mb, .int mn, .int mpt, .int mbg, .int mwr, .int mwk, .int mlf, .int men])), (mw, .inl (ct 0, 958, .inl f_3))]) (E2 := [(mw, .inl (ct 0, 958, .inl f_3)), (m, .inr (11, [.ref mw, .ref ma, .ref mf, .ref m0, .ref m1, .ref mu, .ref mv, .ref u0, .ref u1, .ref iz, .int th, .ref mb, .int mn, .int mpt, .int mbg, .int mwr, .int mwk, .int mlf, .int men]))]) [1, 0] rfl rfl (by decide))
    have hD : va_D A ([(mw, .inl (ct 0, 958, .inl f_3)), (m, .inr (11, [.ref mw, .ref ma, .ref mf, .ref m0, .ref m1, .ref mu, .ref mv, .ref u0, .ref u1, .ref iz, .int th, .ref mb, .int mn, .int mpt, .int mbg, .int mwr, .int mwk, .int mlf, .int men]))] ++ ws) := ty_permD hD (ty_ordp (E := [(m, .inr (11, [.ref mw, .ref ma, .ref mf, .ref m0, .ref m1, .ref mu, .ref mv, .ref u0, .ref u1, .ref iz, .int th, .ref mb, .int mn, .int mpt, .int mbg, .int mwr, .int mwk, .int mlf, .int men])), (mw, .inl (ct 0, 958, .inl f_3))]) (E2 := [(mw, .inl (ct 0, 958, .inl f_3)), (m, .inr (11, [.ref mw, .ref ma, .ref mf, .ref m0, .ref m1, .ref mu, .ref mv, .ref u0, .ref u1, .ref iz, .int th, .ref mb, .int mn, .int mpt, .int mbg, .int mwr, .int mwk, .int mlf, .int men]))]) [1, 0] rfl rfl (by decide))
    refine ty_kl (wr := [(mw, .inl (ct 0, 958, .inl f_3))]) (wc := ([(m, .inr (11, [.ref mw, .ref ma, .ref mf, .ref m0, .ref m1, .ref mu, .ref mv, .ref u0, .ref u1, .ref iz, .int th, .ref mb, .int mn, .int mpt, .int mbg, .int mwr, .int mwk, .int mlf, .int men]))] ++ ws)) (va_runV (As := [.int p1, .int 4]) (rest := [.int ((568 + (5 * (f 12))) + 1), .ref mw]) ⟨hx, hb, hml, hown, hts⟩ (m_X11_sum l D ct S ws m mw ma mf m0 m1 mu mv u0 u1 iz mb th mn mpt mbg mwr mwk mlf men p1 (4 : Int32) _ hT h_mu h_mv h_u0 h_u1 h_mb (rf_c6 hR_5 hc) (by decide)) (cm_V 2 hts kc_X11_sum ki_RX11 kl_RX11_261 kv_X11_sum kx_X11_sum kd_X11_sum ⟨Nat.le_of_ble_eq_true rfl, Nat.le_of_ble_eq_true rfl⟩) (ty_preE (wr := [(mw, .inl (ct 0, 958, .inl f_3))]) (wc := ([(m, .inr (11, [.ref mw, .ref ma, .ref mf, .ref m0, .ref m1, .ref mu, .ref mv, .ref u0, .ref u1, .ref iz, .int th, .ref mb, .int mn, .int mpt, .int mbg, .int mwr, .int mwk, .int mlf, .int men]))] ++ ws)) (ci := 11) (q0 := 1) hP hK hD hS hA hX rfl rfl) rfl rfl hl.1 rfl (lv_room (Nat.le_of_ble_eq_true rfl)) dX11_records_85 ⟨Nat.le_of_ble_eq_true rfl, Nat.le_of_ble_eq_true rfl⟩) hP hD hS hA (fun r_9 u H locs hw_10 hP hD hS => ?_)
    obtain ⟨ws_11, rfl⟩ : ∃ z, z = u := ⟨_, rfl⟩
    have hT := hw_10
    have hP : va_P D vwCl ([(mw, .inl (ct 0, 958, .inl f_3)), (m, .inr (11, [.ref mw, .ref ma, .ref mf, .ref m0, .ref m1, .ref mu, .ref mv, .ref u0, .ref u1, .ref iz, .int th, .ref mb, .int mn, .int mpt, .int mbg, .int mwr, .int mwk, .int mlf, .int men]))] ++ ws_11) H := hP
    have hD : va_D A ([(mw, .inl (ct 0, 958, .inl f_3)), (m, .inr (11, [.ref mw, .ref ma, .ref mf, .ref m0, .ref m1, .ref mu, .ref mv, .ref u0, .ref u1, .ref iz, .int th, .ref mb, .int mn, .int mpt, .int mbg, .int mwr, .int mwk, .int mlf, .int men]))] ++ ws_11) := hD
    refine lv_l2i hx hb dX11_records_88 rfl ?_
    refine lv_topi (fun x_12 _ => ?_)
    refine va_iast hx hb hK hP hD hS 0 0 rfl rfl (rf_in1 (by have := (rf_nb (A := 568) (B := 5) (N := 29) (K := 1) (by decide) (by decide) (by decide) hL_2 (by decide) (by decide) (by decide) (by decide) (by decide)); omega)) dX11_records_89 (fun H locs hP hD hS => ?_)
    have hP : va_P D vwCl ([(mw, .inl (ct 0, 958, .inl (upd f_3 ((568 + (5 * (f 12))) + 1).toNatClampNeg x_12))), (m, .inr (11, [.ref mw, .ref ma, .ref mf, .ref m0, .ref m1, .ref mu, .ref mv, .ref u0, .ref u1, .ref iz, .int th, .ref mb, .int mn, .int mpt, .int mbg, .int mwr, .int mwk, .int mlf, .int men]))] ++ ws_11) H := hP
    have hD : va_D A ([(mw, .inl (ct 0, 958, .inl (upd f_3 ((568 + (5 * (f 12))) + 1).toNatClampNeg x_12))), (m, .inr (11, [.ref mw, .ref ma, .ref mf, .ref m0, .ref m1, .ref mu, .ref mv, .ref u0, .ref u1, .ref iz, .int th, .ref mb, .int mn, .int mpt, .int mbg, .int mwr, .int mwk, .int mlf, .int men]))] ++ ws_11) := hD
    have hU_14 : rf_R G cx (upd f_3 ((568 + (5 * (f 12))) + 1).toNatClampNeg x_12) ∧ rf_sm f_3 (upd f_3 ((568 + (5 * (f 12))) + 1).toNatClampNeg x_12) := (rf_free _ hR_5 (Or.inr (rf_ge (rf_nb (A := 568) (B := 5) (N := 29) (K := 1) (by decide) (by decide) (by decide) hL_2 (by decide) (by decide) (by decide) (by decide) (by decide)).1)))
    generalize hf_17 : (upd f_3 ((568 + (5 * (f 12))) + 1).toNatClampNeg x_12) = f_13 at hP hD hU_14
    have hR_15 := hU_14.1
    have hM_16 := rf_smt hM_6 hU_14.2
    have hq_18 : f_13 12 = f 12 := (rf_u17 hf_17 (rf_ge (rf_nb (A := 568) (B := 5) (N := 29) (K := 1) (by decide) (by decide) (by decide) hL_2 (by decide) (by decide) (by decide) (by decide) (by decide)).1) (by omega)).trans hq_8
    refine lv_aload_n hx hb dX11_records_90 rfl (lv_at hl 1 rfl) ?_
    refine va_get (v := .ref mw) (D := D) (ci := 11) (C := RX11) (T := TX11) (N := 19) hx hb hts in_X11 hown hK hP 1 rfl rfl 0 (by decide) (hts _ kl_RX11_9) (fun _ h9 => h9) rfl dX11_records_91 ?_
    refine lv_iload_n hx hb dX11_records_94 rfl (lv_at hl 0 rfl) ?_
    refine lv_iconst (v := 2) hx hb dX11_records_95 (by decide) ?_
    refine lv_iadd hx hb dX11_records_96 ?_
    refine lv_aload_n hx hb dX11_records_97 rfl (lv_at hl 1 rfl) ?_
    refine lv_iload_n hx hb dX11_records_98 rfl (lv_at hl 2 rfl) ?_
    refine lv_iconst (v := 5) hx hb dX11_records_99 (by decide) ?_
    refine ty_kl (wr := [(mw, .inl (ct 0, 958, .inl f_13))]) (wc := ([(m, .inr (11, [.ref mw, .ref ma, .ref mf, .ref m0, .ref m1, .ref mu, .ref mv, .ref u0, .ref u1, .ref iz, .int th, .ref mb, .int mn, .int mpt, .int mbg, .int mwr, .int mwk, .int mlf, .int men]))] ++ ws_11)) (va_runV (As := [.int p1, .int 5]) (rest := [.int ((568 + (5 * (f 12))) + 2), .ref mw]) ⟨hx, hb, hml, hown, hts⟩ (m_X11_sum l D ct S ws_11 m mw ma mf m0 m1 mu mv u0 u1 iz mb th mn mpt mbg mwr mwk mlf men p1 (5 : Int32) _ hT h_mu h_mv h_u0 h_u1 h_mb (rf_c6 hR_15 hc) (by decide)) (cm_V 2 hts kc_X11_sum ki_RX11 kl_RX11_261 kv_X11_sum kx_X11_sum kd_X11_sum ⟨Nat.le_of_ble_eq_true rfl, Nat.le_of_ble_eq_true rfl⟩) (ty_preE (wr := [(mw, .inl (ct 0, 958, .inl f_13))]) (wc := ([(m, .inr (11, [.ref mw, .ref ma, .ref mf, .ref m0, .ref m1, .ref mu, .ref mv, .ref u0, .ref u1, .ref iz, .int th, .ref mb, .int mn, .int mpt, .int mbg, .int mwr, .int mwk, .int mlf, .int men]))] ++ ws_11)) (ci := 11) (q0 := 1) hP hK hD hS hA hX rfl rfl) rfl rfl hl.1 rfl (lv_room (Nat.le_of_ble_eq_true rfl)) dX11_records_100 ⟨Nat.le_of_ble_eq_true rfl, Nat.le_of_ble_eq_true rfl⟩) hP hD hS hA (fun r_19 u H locs hw_20 hP hD hS => ?_)
    obtain ⟨ws_21, rfl⟩ : ∃ z, z = u := ⟨_, rfl⟩
    have hT := hw_20
    have hP : va_P D vwCl ([(mw, .inl (ct 0, 958, .inl f_13)), (m, .inr (11, [.ref mw, .ref ma, .ref mf, .ref m0, .ref m1, .ref mu, .ref mv, .ref u0, .ref u1, .ref iz, .int th, .ref mb, .int mn, .int mpt, .int mbg, .int mwr, .int mwk, .int mlf, .int men]))] ++ ws_21) H := hP
    have hD : va_D A ([(mw, .inl (ct 0, 958, .inl f_13)), (m, .inr (11, [.ref mw, .ref ma, .ref mf, .ref m0, .ref m1, .ref mu, .ref mv, .ref u0, .ref u1, .ref iz, .int th, .ref mb, .int mn, .int mpt, .int mbg, .int mwr, .int mwk, .int mlf, .int men]))] ++ ws_21) := hD
    refine lv_l2i hx hb dX11_records_103 rfl ?_
    refine lv_topi (fun x_22 _ => ?_)
    refine va_iast hx hb hK hP hD hS 0 0 rfl rfl (rf_in1 (by have := (rf_nb (A := 568) (B := 5) (N := 29) (K := 2) (by decide) (by decide) (by decide) hL_2 (by decide) (by decide) (by decide) (by decide) (by decide)); omega)) dX11_records_104 (fun H locs hP hD hS => ?_)
    have hP : va_P D vwCl ([(mw, .inl (ct 0, 958, .inl (upd f_13 ((568 + (5 * (f 12))) + 2).toNatClampNeg x_22))), (m, .inr (11, [.ref mw, .ref ma, .ref mf, .ref m0, .ref m1, .ref mu, .ref mv, .ref u0, .ref u1, .ref iz, .int th, .ref mb, .int mn, .int mpt, .int mbg, .int mwr, .int mwk, .int mlf, .int men]))] ++ ws_21) H := hP
    have hD : va_D A ([(mw, .inl (ct 0, 958, .inl (upd f_13 ((568 + (5 * (f 12))) + 2).toNatClampNeg x_22))), (m, .inr (11, [.ref mw, .ref ma, .ref mf, .ref m0, .ref m1, .ref mu, .ref mv, .ref u0, .ref u1, .ref iz, .int th, .ref mb, .int mn, .int mpt, .int mbg, .int mwr, .int mwk, .int mlf, .int men]))] ++ ws_21) := hD
    have hU_24 : rf_R G cx (upd f_13 ((568 + (5 * (f 12))) + 2).toNatClampNeg x_22) ∧ rf_sm f_13 (upd f_13 ((568 + (5 * (f 12))) + 2).toNatClampNeg x_22) := (rf_free _ hR_15 (Or.inr (rf_ge (rf_nb (A := 568) (B := 5) (N := 29) (K := 2) (by decide) (by decide) (by decide) hL_2 (by decide) (by decide) (by decide) (by decide) (by decide)).1)))
    generalize hf_27 : (upd f_13 ((568 + (5 * (f 12))) + 2).toNatClampNeg x_22) = f_23 at hP hD hU_24
    have hR_25 := hU_24.1
    have hM_26 := rf_smt hM_16 hU_24.2
    have hq_28 : f_23 12 = f 12 := (rf_u17 hf_27 (rf_ge (rf_nb (A := 568) (B := 5) (N := 29) (K := 2) (by decide) (by decide) (by decide) hL_2 (by decide) (by decide) (by decide) (by decide) (by decide)).1) (by omega)).trans hq_18
    refine lv_aload_n hx hb dX11_records_105 rfl (lv_at hl 1 rfl) ?_
    refine va_get (v := .ref mw) (D := D) (ci := 11) (C := RX11) (T := TX11) (N := 19) hx hb hts in_X11 hown hK hP 1 rfl rfl 0 (by decide) (hts _ kl_RX11_9) (fun _ h9 => h9) rfl dX11_records_106 ?_
    refine lv_iload_n hx hb dX11_records_109 rfl (lv_at hl 0 rfl) ?_
    refine lv_iconst (v := 3) hx hb dX11_records_110 (by decide) ?_
    refine lv_iadd hx hb dX11_records_111 ?_
    refine lv_aload_n hx hb dX11_records_112 rfl (lv_at hl 1 rfl) ?_
    refine va_get (v := .ref mw) (D := D) (ci := 11) (C := RX11) (T := TX11) (N := 19) hx hb hts in_X11 hown hK hP 1 rfl rfl 0 (by decide) (hts _ kl_RX11_9) (fun _ h9 => h9) rfl dX11_records_113 ?_
    refine lv_bipush (v := 8) hx hb dX11_records_116 (by decide) ?_
    refine va_iald hx hb hK hP 0 0 rfl rfl (cm_vin (by decide)) dX11_records_118 ?_
    refine cm_cst (y := (f_23 8)) (by first | rfl | decide +kernel) ?_
    refine va_iast hx hb hK hP hD hS 0 0 rfl rfl (rf_in1 (by have := (rf_nb (A := 568) (B := 5) (N := 29) (K := 3) (by decide) (by decide) (by decide) hL_2 (by decide) (by decide) (by decide) (by decide) (by decide)); omega)) dX11_records_119 (fun H locs hP hD hS => ?_)
    have hP : va_P D vwCl ([(mw, .inl (ct 0, 958, .inl (upd f_23 ((568 + (5 * (f 12))) + 3).toNatClampNeg (f_23 8)))), (m, .inr (11, [.ref mw, .ref ma, .ref mf, .ref m0, .ref m1, .ref mu, .ref mv, .ref u0, .ref u1, .ref iz, .int th, .ref mb, .int mn, .int mpt, .int mbg, .int mwr, .int mwk, .int mlf, .int men]))] ++ ws_21) H := hP
    have hD : va_D A ([(mw, .inl (ct 0, 958, .inl (upd f_23 ((568 + (5 * (f 12))) + 3).toNatClampNeg (f_23 8)))), (m, .inr (11, [.ref mw, .ref ma, .ref mf, .ref m0, .ref m1, .ref mu, .ref mv, .ref u0, .ref u1, .ref iz, .int th, .ref mb, .int mn, .int mpt, .int mbg, .int mwr, .int mwk, .int mlf, .int men]))] ++ ws_21) := hD
    have hU_30 : rf_R G cx (upd f_23 ((568 + (5 * (f 12))) + 3).toNatClampNeg (f_23 8)) ∧ rf_sm f_23 (upd f_23 ((568 + (5 * (f 12))) + 3).toNatClampNeg (f_23 8)) := (rf_free _ hR_25 (Or.inr (rf_ge (rf_nb (A := 568) (B := 5) (N := 29) (K := 3) (by decide) (by decide) (by decide) hL_2 (by decide) (by decide) (by decide) (by decide) (by decide)).1)))
    generalize hf_33 : (upd f_23 ((568 + (5 * (f 12))) + 3).toNatClampNeg (f_23 8)) = f_29 at hP hD hU_30
    have hR_31 := hU_30.1
    have hM_32 := rf_smt hM_26 hU_30.2
    have hq_34 : f_29 12 = f 12 := (rf_u17 hf_33 (rf_ge (rf_nb (A := 568) (B := 5) (N := 29) (K := 3) (by decide) (by decide) (by decide) hL_2 (by decide) (by decide) (by decide) (by decide) (by decide)).1) (by omega)).trans hq_28
    refine lv_aload_n hx hb dX11_records_120 rfl (lv_at hl 1 rfl) ?_
    refine va_get (v := .ref mw) (D := D) (ci := 11) (C := RX11) (T := TX11) (N := 19) hx hb hts in_X11 hown hK hP 1 rfl rfl 0 (by decide) (hts _ kl_RX11_9) (fun _ h9 => h9) rfl dX11_records_121 ?_
    refine lv_iload_n hx hb dX11_records_124 rfl (lv_at hl 0 rfl) ?_
    refine lv_iconst (v := 4) hx hb dX11_records_125 (by decide) ?_
    refine lv_iadd hx hb dX11_records_126 ?_
    refine lv_iload_n hx hb dX11_records_127 rfl (lv_at hl 3 rfl) ?_
    refine lv_if_eq (tgt := 135) hx hb dX11_records_128 (by decide) (fun hc_35 => ?_) (fun hc_35 => ?_)
    · refine lv_iconst (v := 0) hx hb dX11_records_135 (by decide) ?_
      refine va_iast hx hb hK hP hD hS 0 0 rfl rfl (rf_in1 (by have := (rf_nb (A := 568) (B := 5) (N := 29) (K := 4) (by decide) (by decide) (by decide) hL_2 (by decide) (by decide) (by decide) (by decide) (by decide)); omega)) dX11_records_136 (fun H locs hP hD hS => ?_)
      have hP : va_P D vwCl ([(mw, .inl (ct 0, 958, .inl (upd f_29 ((568 + (5 * (f 12))) + 4).toNatClampNeg 0))), (m, .inr (11, [.ref mw, .ref ma, .ref mf, .ref m0, .ref m1, .ref mu, .ref mv, .ref u0, .ref u1, .ref iz, .int th, .ref mb, .int mn, .int mpt, .int mbg, .int mwr, .int mwk, .int mlf, .int men]))] ++ ws_21) H := hP
      have hD : va_D A ([(mw, .inl (ct 0, 958, .inl (upd f_29 ((568 + (5 * (f 12))) + 4).toNatClampNeg 0))), (m, .inr (11, [.ref mw, .ref ma, .ref mf, .ref m0, .ref m1, .ref mu, .ref mv, .ref u0, .ref u1, .ref iz, .int th, .ref mb, .int mn, .int mpt, .int mbg, .int mwr, .int mwk, .int mlf, .int men]))] ++ ws_21) := hD
      have hU_37 : rf_R G cx (upd f_29 ((568 + (5 * (f 12))) + 4).toNatClampNeg 0) ∧ rf_sm f_29 (upd f_29 ((568 + (5 * (f 12))) + 4).toNatClampNeg 0) := (rf_free _ hR_31 (Or.inr (rf_ge (rf_nb (A := 568) (B := 5) (N := 29) (K := 4) (by decide) (by decide) (by decide) hL_2 (by decide) (by decide) (by decide) (by decide) (by decide)).1)))
      generalize hf_40 : (upd f_29 ((568 + (5 * (f 12))) + 4).toNatClampNeg 0) = f_36 at hP hD hU_37
      have hR_38 := hU_37.1
      have hM_39 := rf_smt hM_32 hU_37.2
      have hq_41 : f_36 12 = f 12 := (rf_u17 hf_40 (rf_ge (rf_nb (A := 568) (B := 5) (N := 29) (K := 4) (by decide) (by decide) (by decide) hL_2 (by decide) (by decide) (by decide) (by decide) (by decide)).1) (by omega)).trans hq_34
      refine lv_aload_n hx hb dX11_records_137 rfl (lv_at hl 1 rfl) ?_
      refine va_get (v := .ref mw) (D := D) (ci := 11) (C := RX11) (T := TX11) (N := 19) hx hb hts in_X11 hown hK hP 1 rfl rfl 0 (by decide) (hts _ kl_RX11_9) (fun _ h9 => h9) rfl dX11_records_138 ?_
      refine lv_bipush (v := 12) hx hb dX11_records_141 (by decide) ?_
      refine lv_dup2_11 hx hb dX11_records_143 rfl rfl ?_
      refine va_iald hx hb hK hP 0 0 rfl rfl (cm_vin (by decide)) dX11_records_144 ?_
      refine cm_cst (y := (f_36 12)) (by first | rfl | decide +kernel) ?_
      refine lv_iconst (v := 1) hx hb dX11_records_145 (by decide) ?_
      refine lv_iadd hx hb dX11_records_146 ?_
      refine va_iast hx hb hK hP hD hS 0 0 rfl rfl (cm_vin (by decide)) dX11_records_147 (fun H locs hP hD hS => ?_)
      have hP : va_P D vwCl ([(mw, .inl (ct 0, 958, .inl (upd f_36 (12 : Int32).toNatClampNeg ((f_36 12) + 1)))), (m, .inr (11, [.ref mw, .ref ma, .ref mf, .ref m0, .ref m1, .ref mu, .ref mv, .ref u0, .ref u1, .ref iz, .int th, .ref mb, .int mn, .int mpt, .int mbg, .int mwr, .int mwk, .int mlf, .int men]))] ++ ws_21) H := hP
      have hD : va_D A ([(mw, .inl (ct 0, 958, .inl (upd f_36 (12 : Int32).toNatClampNeg ((f_36 12) + 1)))), (m, .inr (11, [.ref mw, .ref ma, .ref mf, .ref m0, .ref m1, .ref mu, .ref mv, .ref u0, .ref u1, .ref iz, .int th, .ref mb, .int mn, .int mpt, .int mbg, .int mwr, .int mwk, .int mlf, .int men]))] ++ ws_21) := hD
      have hU_43 : rf_R G cx (upd f_36 (12 : Int32).toNatClampNeg ((f_36 12) + 1)) ∧ rf_sm f_36 (upd f_36 (12 : Int32).toNatClampNeg ((f_36 12) + 1)) := (rf_num12 hR_38 (by rw [hq_41]; have := rf_inc9 hL_2 (by omega) (by omega); omega))
      generalize hf_46 : (upd f_36 (12 : Int32).toNatClampNeg ((f_36 12) + 1)) = f_42 at hP hD hU_43
      have hR_44 := hU_43.1
      have hM_45 := rf_smt hM_39 hU_43.2
      have hP : va_P D vwCl ([(m, .inr (11, [.ref mw, .ref ma, .ref mf, .ref m0, .ref m1, .ref mu, .ref mv, .ref u0, .ref u1, .ref iz, .int th, .ref mb, .int mn, .int mpt, .int mbg, .int mwr, .int mwk, .int mlf, .int men])), (mw, .inl (ct 0, 958, .inl f_42))] ++ ws_21) H := ty_permP hP (ty_ordp (E := [(mw, .inl (ct 0, 958, .inl f_42)), (m, .inr (11, [.ref mw, .ref ma, .ref mf, .ref m0, .ref m1, .ref mu, .ref mv, .ref u0, .ref u1, .ref iz, .int th, .ref mb, .int mn, .int mpt, .int mbg, .int mwr, .int mwk, .int mlf, .int men]))]) (E2 := [(m, .inr (11, [.ref mw, .ref ma, .ref mf, .ref m0, .ref m1, .ref mu, .ref mv, .ref u0, .ref u1, .ref iz, .int th, .ref mb, .int mn, .int mpt, .int mbg, .int mwr, .int mwk, .int mlf, .int men])), (mw, .inl (ct 0, 958, .inl f_42))]) [1, 0] rfl rfl (by decide))
      have hD : va_D A ([(m, .inr (11, [.ref mw, .ref ma, .ref mf, .ref m0, .ref m1, .ref mu, .ref mv, .ref u0, .ref u1, .ref iz, .int th, .ref mb, .int mn, .int mpt, .int mbg, .int mwr, .int mwk, .int mlf, .int men])), (mw, .inl (ct 0, 958, .inl f_42))] ++ ws_21) := ty_permD hD (ty_ordp (E := [(mw, .inl (ct 0, 958, .inl f_42)), (m, .inr (11, [.ref mw, .ref ma, .ref mf, .ref m0, .ref m1, .ref mu, .ref mv, .ref u0, .ref u1, .ref iz, .int th, .ref mb, .int mn, .int mpt, .int mbg, .int mwr, .int mwk, .int mlf, .int men]))]) (E2 := [(m, .inr (11, [.ref mw, .ref ma, .ref mf, .ref m0, .ref m1, .ref mu, .ref mv, .ref u0, .ref u1, .ref iz, .int th, .ref mb, .int mn, .int mpt, .int mbg, .int mwr, .int mwk, .int mlf, .int men])), (mw, .inl (ct 0, 958, .inl f_42))]) [1, 0] rfl rfl (by decide))
      exact W.vret hx hb hr (fun t ht hW => ⟨⟨(ws_21, f_42), rfl, ⟨hT, ⟨hR_44, hM_45⟩⟩, by rw [ht]; exact hP, by rw [hAe]; exact hD⟩, hS.F ht⟩) hS.2.2 dX11_records_148
    · refine lv_iconst (v := 1) hx hb dX11_records_131 (by decide) ?_
      refine lv_goto (tgt := 136) hx hb dX11_records_132 (by decide) ?_
      refine va_iast hx hb hK hP hD hS 0 0 rfl rfl (rf_in1 (by have := (rf_nb (A := 568) (B := 5) (N := 29) (K := 4) (by decide) (by decide) (by decide) hL_2 (by decide) (by decide) (by decide) (by decide) (by decide)); omega)) dX11_records_136 (fun H locs hP hD hS => ?_)
      have hP : va_P D vwCl ([(mw, .inl (ct 0, 958, .inl (upd f_29 ((568 + (5 * (f 12))) + 4).toNatClampNeg 1))), (m, .inr (11, [.ref mw, .ref ma, .ref mf, .ref m0, .ref m1, .ref mu, .ref mv, .ref u0, .ref u1, .ref iz, .int th, .ref mb, .int mn, .int mpt, .int mbg, .int mwr, .int mwk, .int mlf, .int men]))] ++ ws_21) H := hP
      have hD : va_D A ([(mw, .inl (ct 0, 958, .inl (upd f_29 ((568 + (5 * (f 12))) + 4).toNatClampNeg 1))), (m, .inr (11, [.ref mw, .ref ma, .ref mf, .ref m0, .ref m1, .ref mu, .ref mv, .ref u0, .ref u1, .ref iz, .int th, .ref mb, .int mn, .int mpt, .int mbg, .int mwr, .int mwk, .int mlf, .int men]))] ++ ws_21) := hD
      have hU_48 : rf_R G cx (upd f_29 ((568 + (5 * (f 12))) + 4).toNatClampNeg 1) ∧ rf_sm f_29 (upd f_29 ((568 + (5 * (f 12))) + 4).toNatClampNeg 1) := (rf_free _ hR_31 (Or.inr (rf_ge (rf_nb (A := 568) (B := 5) (N := 29) (K := 4) (by decide) (by decide) (by decide) hL_2 (by decide) (by decide) (by decide) (by decide) (by decide)).1)))
      generalize hf_51 : (upd f_29 ((568 + (5 * (f 12))) + 4).toNatClampNeg 1) = f_47 at hP hD hU_48
      have hR_49 := hU_48.1
      have hM_50 := rf_smt hM_32 hU_48.2
      have hq_52 : f_47 12 = f 12 := (rf_u17 hf_51 (rf_ge (rf_nb (A := 568) (B := 5) (N := 29) (K := 4) (by decide) (by decide) (by decide) hL_2 (by decide) (by decide) (by decide) (by decide) (by decide)).1) (by omega)).trans hq_34
      refine lv_aload_n hx hb dX11_records_137 rfl (lv_at hl 1 rfl) ?_
      refine va_get (v := .ref mw) (D := D) (ci := 11) (C := RX11) (T := TX11) (N := 19) hx hb hts in_X11 hown hK hP 1 rfl rfl 0 (by decide) (hts _ kl_RX11_9) (fun _ h9 => h9) rfl dX11_records_138 ?_
      refine lv_bipush (v := 12) hx hb dX11_records_141 (by decide) ?_
      refine lv_dup2_11 hx hb dX11_records_143 rfl rfl ?_
      refine va_iald hx hb hK hP 0 0 rfl rfl (cm_vin (by decide)) dX11_records_144 ?_
      refine cm_cst (y := (f_47 12)) (by first | rfl | decide +kernel) ?_
      refine lv_iconst (v := 1) hx hb dX11_records_145 (by decide) ?_
      refine lv_iadd hx hb dX11_records_146 ?_
      refine va_iast hx hb hK hP hD hS 0 0 rfl rfl (cm_vin (by decide)) dX11_records_147 (fun H locs hP hD hS => ?_)
      have hP : va_P D vwCl ([(mw, .inl (ct 0, 958, .inl (upd f_47 (12 : Int32).toNatClampNeg ((f_47 12) + 1)))), (m, .inr (11, [.ref mw, .ref ma, .ref mf, .ref m0, .ref m1, .ref mu, .ref mv, .ref u0, .ref u1, .ref iz, .int th, .ref mb, .int mn, .int mpt, .int mbg, .int mwr, .int mwk, .int mlf, .int men]))] ++ ws_21) H := hP
      have hD : va_D A ([(mw, .inl (ct 0, 958, .inl (upd f_47 (12 : Int32).toNatClampNeg ((f_47 12) + 1)))), (m, .inr (11, [.ref mw, .ref ma, .ref mf, .ref m0, .ref m1, .ref mu, .ref mv, .ref u0, .ref u1, .ref iz, .int th, .ref mb, .int mn, .int mpt, .int mbg, .int mwr, .int mwk, .int mlf, .int men]))] ++ ws_21) := hD
      have hU_54 : rf_R G cx (upd f_47 (12 : Int32).toNatClampNeg ((f_47 12) + 1)) ∧ rf_sm f_47 (upd f_47 (12 : Int32).toNatClampNeg ((f_47 12) + 1)) := (rf_num12 hR_49 (by rw [hq_52]; have := rf_inc9 hL_2 (by omega) (by omega); omega))
      generalize hf_57 : (upd f_47 (12 : Int32).toNatClampNeg ((f_47 12) + 1)) = f_53 at hP hD hU_54
      have hR_55 := hU_54.1
      have hM_56 := rf_smt hM_50 hU_54.2
      have hP : va_P D vwCl ([(m, .inr (11, [.ref mw, .ref ma, .ref mf, .ref m0, .ref m1, .ref mu, .ref mv, .ref u0, .ref u1, .ref iz, .int th, .ref mb, .int mn, .int mpt, .int mbg, .int mwr, .int mwk, .int mlf, .int men])), (mw, .inl (ct 0, 958, .inl f_53))] ++ ws_21) H := ty_permP hP (ty_ordp (E := [(mw, .inl (ct 0, 958, .inl f_53)), (m, .inr (11, [.ref mw, .ref ma, .ref mf, .ref m0, .ref m1, .ref mu, .ref mv, .ref u0, .ref u1, .ref iz, .int th, .ref mb, .int mn, .int mpt, .int mbg, .int mwr, .int mwk, .int mlf, .int men]))]) (E2 := [(m, .inr (11, [.ref mw, .ref ma, .ref mf, .ref m0, .ref m1, .ref mu, .ref mv, .ref u0, .ref u1, .ref iz, .int th, .ref mb, .int mn, .int mpt, .int mbg, .int mwr, .int mwk, .int mlf, .int men])), (mw, .inl (ct 0, 958, .inl f_53))]) [1, 0] rfl rfl (by decide))
      have hD : va_D A ([(m, .inr (11, [.ref mw, .ref ma, .ref mf, .ref m0, .ref m1, .ref mu, .ref mv, .ref u0, .ref u1, .ref iz, .int th, .ref mb, .int mn, .int mpt, .int mbg, .int mwr, .int mwk, .int mlf, .int men])), (mw, .inl (ct 0, 958, .inl f_53))] ++ ws_21) := ty_permD hD (ty_ordp (E := [(mw, .inl (ct 0, 958, .inl f_53)), (m, .inr (11, [.ref mw, .ref ma, .ref mf, .ref m0, .ref m1, .ref mu, .ref mv, .ref u0, .ref u1, .ref iz, .int th, .ref mb, .int mn, .int mpt, .int mbg, .int mwr, .int mwk, .int mlf, .int men]))]) (E2 := [(m, .inr (11, [.ref mw, .ref ma, .ref mf, .ref m0, .ref m1, .ref mu, .ref mv, .ref u0, .ref u1, .ref iz, .int th, .ref mb, .int mn, .int mpt, .int mbg, .int mwr, .int mwk, .int mlf, .int men])), (mw, .inl (ct 0, 958, .inl f_53))]) [1, 0] rfl rfl (by decide))
      exact W.vret hx hb hr (fun t ht hW => ⟨⟨(ws_21, f_53), rfl, ⟨hT, ⟨hR_55, hM_56⟩⟩, by rw [ht]; exact hP, by rw [hAe]; exact hD⟩, hS.F ht⟩) hS.2.2 dX11_records_148
  · refine lv_sipush (v := 568) hx hb dX11_records_12 (by decide) ?_
    refine lv_istore_n (lv' := [(3, .int 568), (0, .ref m), (1, .int p1), (2, .int p2)]) hx hb dX11_records_15 rfl hl (by decide) rfl (fun ls hl => ?_)
    refine ty_loop (I := fun μ H locs ls => ∃ (ws : va_W) (y_58 : Int32) (f_59 : Nat → Int32), μ = (2147483648 - y_58.toInt).toNat ∧ ty_W ct S ws ∧ va_P D vwCl ([(m, .inr (11, [.ref mw, .ref ma, .ref mf, .ref m0, .ref m1, .ref mu, .ref mv, .ref u0, .ref u1, .ref iz, .int th, .ref mb, .int mn, .int mpt, .int mbg, .int mwr, .int mwk, .int mlf, .int men])), (mw, .inl (ct 0, 958, .inl f_59))] ++ ws) H ∧ va_D A ([(m, .inr (11, [.ref mw, .ref ma, .ref mf, .ref m0, .ref m1, .ref mu, .ref mv, .ref u0, .ref u1, .ref iz, .int th, .ref mb, .int mn, .int mpt, .int mbg, .int mwr, .int mwk, .int mlf, .int men])), (mw, .inl (ct 0, 958, .inl f_59))] ++ ws) ∧ va_S A s.heap H locs ∧ lv_has ls 4 [(3, .int y_58), (0, .ref m), (1, .int p1), (2, .int p2)] ∧ rf_R G cx f_59 ∧ rf_sm f f_59 ∧ (568 ≤ y_58.toInt ∧ y_58.toInt ≤ 713) ∧ f_59 12 = 30) ⟨_, ws, (568 : Int32), f, rfl, hT, hP, hD, hS, (lv_sub hl [0, 1, 2, 3] rfl), hR, (rf_smr f), ⟨by decide, by decide⟩, hc_1⟩ (fun μ H locs ls hI ih_16 => ?_)
    obtain ⟨ws, y_58, f_59, rfl, hT, hP, hD, hS, hl, hR_16, hM_16, hex_16⟩ := hI
    refine lv_iload_n hx hb dX11_records_16 rfl (lv_at hl 0 rfl) ?_
    refine lv_sipush (v := 713) hx hb dX11_records_17 (by decide) ?_
    refine lv_icmp_ge (tgt := 43) hx hb dX11_records_20 (by decide) (fun hc_60 => ?_) (fun hc_60 => ?_)
    · refine lv_aload_n hx hb dX11_records_43 rfl (lv_at hl 1 rfl) ?_
      refine va_get (v := .ref mw) (D := D) (ci := 11) (C := RX11) (T := TX11) (N := 19) hx hb hts in_X11 hown hK hP 0 rfl rfl 0 (by decide) (hts _ kl_RX11_9) (fun _ h9 => h9) rfl dX11_records_44 ?_
      refine lv_bipush (v := 12) hx hb dX11_records_47 (by decide) ?_
      refine lv_dup2_11 hx hb dX11_records_49 rfl rfl ?_
      refine va_iald hx hb hK hP 1 0 rfl rfl (cm_vin (by decide)) dX11_records_50 ?_
      refine cm_cst (y := (f_59 12)) (by first | rfl | decide +kernel) ?_
      refine lv_iconst (v := 1) hx hb dX11_records_51 (by decide) ?_
      refine lv_isub hx hb dX11_records_52 ?_
      refine va_iast hx hb hK hP hD hS 1 0 rfl rfl (cm_vin (by decide)) dX11_records_53 (fun H locs hP hD hS => ?_)
      have hP : va_P D vwCl ([(m, .inr (11, [.ref mw, .ref ma, .ref mf, .ref m0, .ref m1, .ref mu, .ref mv, .ref u0, .ref u1, .ref iz, .int th, .ref mb, .int mn, .int mpt, .int mbg, .int mwr, .int mwk, .int mlf, .int men])), (mw, .inl (ct 0, 958, .inl (upd f_59 (12 : Int32).toNatClampNeg ((f_59 12) - 1))))] ++ ws) H := hP
      have hD : va_D A ([(m, .inr (11, [.ref mw, .ref ma, .ref mf, .ref m0, .ref m1, .ref mu, .ref mv, .ref u0, .ref u1, .ref iz, .int th, .ref mb, .int mn, .int mpt, .int mbg, .int mwr, .int mwk, .int mlf, .int men])), (mw, .inl (ct 0, 958, .inl (upd f_59 (12 : Int32).toNatClampNeg ((f_59 12) - 1))))] ++ ws) := hD
      have hU_62 : rf_R G cx (upd f_59 (12 : Int32).toNatClampNeg ((f_59 12) - 1)) ∧ rf_sm f_59 (upd f_59 (12 : Int32).toNatClampNeg ((f_59 12) - 1)) := (rf_num12 hR_16 (by rw [hex_16.2]; decide))
      generalize hf_65 : (upd f_59 (12 : Int32).toNatClampNeg ((f_59 12) - 1)) = f_61 at hP hD hU_62
      have hR_63 := hU_62.1
      have hM_64 := rf_smt hM_16 hU_62.2
      have hL_66 : 0 ≤ (f_61 12).toInt ∧ (f_61 12).toInt ≤ 29 := (by rw [rf_at12 hf_65, hex_16.2]; decide)
      refine lv_sipush (v := 568) hx hb dX11_records_54 (by decide) ?_
      refine lv_iconst (v := 5) hx hb dX11_records_57 (by decide) ?_
      refine lv_aload_n hx hb dX11_records_58 rfl (lv_at hl 1 rfl) ?_
      refine va_get (v := .ref mw) (D := D) (ci := 11) (C := RX11) (T := TX11) (N := 19) hx hb hts in_X11 hown hK hP 0 rfl rfl 0 (by decide) (hts _ kl_RX11_9) (fun _ h9 => h9) rfl dX11_records_59 ?_
      refine lv_bipush (v := 12) hx hb dX11_records_62 (by decide) ?_
      refine va_iald hx hb hK hP 1 0 rfl rfl (cm_vin (by decide)) dX11_records_64 ?_
      refine cm_cst (y := (f_61 12)) (by first | rfl | decide +kernel) ?_
      refine lv_imul hx hb dX11_records_65 ?_
      refine lv_iadd hx hb dX11_records_66 ?_
      refine lv_istore_n (lv' := [(3, .int (568 + (5 * (f_61 12)))), (0, .ref m), (1, .int p1), (2, .int p2)]) hx hb dX11_records_67 rfl hl (by decide) rfl (fun ls hl => ?_)
      refine lv_aload_n hx hb dX11_records_68 rfl (lv_at hl 1 rfl) ?_
      refine va_get (v := .ref mw) (D := D) (ci := 11) (C := RX11) (T := TX11) (N := 19) hx hb hts in_X11 hown hK hP 0 rfl rfl 0 (by decide) (hts _ kl_RX11_9) (fun _ h9 => h9) rfl dX11_records_69 ?_
      refine lv_iload_n hx hb dX11_records_72 rfl (lv_at hl 0 rfl) ?_
      refine lv_iload_n hx hb dX11_records_73 rfl (lv_at hl 2 rfl) ?_
      refine va_iast hx hb hK hP hD hS 1 0 rfl rfl (rf_in1 (by have := (rf_nb0 (A := 568) (B := 5) (N := 29) (by decide) (by decide) hL_66 (by decide) (by decide) (by decide) (by decide)); omega)) dX11_records_74 (fun H locs hP hD hS => ?_)
      have hP : va_P D vwCl ([(m, .inr (11, [.ref mw, .ref ma, .ref mf, .ref m0, .ref m1, .ref mu, .ref mv, .ref u0, .ref u1, .ref iz, .int th, .ref mb, .int mn, .int mpt, .int mbg, .int mwr, .int mwk, .int mlf, .int men])), (mw, .inl (ct 0, 958, .inl (upd f_61 (568 + (5 * (f_61 12))).toNatClampNeg p1)))] ++ ws) H := hP
      have hD : va_D A ([(m, .inr (11, [.ref mw, .ref ma, .ref mf, .ref m0, .ref m1, .ref mu, .ref mv, .ref u0, .ref u1, .ref iz, .int th, .ref mb, .int mn, .int mpt, .int mbg, .int mwr, .int mwk, .int mlf, .int men])), (mw, .inl (ct 0, 958, .inl (upd f_61 (568 + (5 * (f_61 12))).toNatClampNeg p1)))] ++ ws) := hD
      have hU_68 : rf_R G cx (upd f_61 (568 + (5 * (f_61 12))).toNatClampNeg p1) ∧ rf_sm f_61 (upd f_61 (568 + (5 * (f_61 12))).toNatClampNeg p1) := (rf_free _ hR_63 (Or.inr (rf_ge (rf_nb0 (A := 568) (B := 5) (N := 29) (by decide) (by decide) hL_66 (by decide) (by decide) (by decide) (by decide)).1)))
      generalize hf_71 : (upd f_61 (568 + (5 * (f_61 12))).toNatClampNeg p1) = f_67 at hP hD hU_68
      have hR_69 := hU_68.1
      have hM_70 := rf_smt hM_64 hU_68.2
      have hq_72 : f_67 12 = f_61 12 := (rf_u17 hf_71 (rf_ge (rf_nb0 (A := 568) (B := 5) (N := 29) (by decide) (by decide) hL_66 (by decide) (by decide) (by decide) (by decide)).1) (by omega)).trans rfl
      refine lv_aload_n hx hb dX11_records_75 rfl (lv_at hl 1 rfl) ?_
      refine va_get (v := .ref mw) (D := D) (ci := 11) (C := RX11) (T := TX11) (N := 19) hx hb hts in_X11 hown hK hP 0 rfl rfl 0 (by decide) (hts _ kl_RX11_9) (fun _ h9 => h9) rfl dX11_records_76 ?_
      refine lv_iload_n hx hb dX11_records_79 rfl (lv_at hl 0 rfl) ?_
      refine lv_iconst (v := 1) hx hb dX11_records_80 (by decide) ?_
      refine lv_iadd hx hb dX11_records_81 ?_
      refine lv_aload_n hx hb dX11_records_82 rfl (lv_at hl 1 rfl) ?_
      refine lv_iload_n hx hb dX11_records_83 rfl (lv_at hl 2 rfl) ?_
      refine lv_iconst (v := 4) hx hb dX11_records_84 (by decide) ?_
      have hP : va_P D vwCl ([(mw, .inl (ct 0, 958, .inl f_67)), (m, .inr (11, [.ref mw, .ref ma, .ref mf, .ref m0, .ref m1, .ref mu, .ref mv, .ref u0, .ref u1, .ref iz, .int th, .ref mb, .int mn, .int mpt, .int mbg, .int mwr, .int mwk, .int mlf, .int men]))] ++ ws) H := ty_permP hP (ty_ordp (E := [(m, .inr (11, [.ref mw, .ref ma, .ref mf, .ref m0, .ref m1, .ref mu, .ref mv, .ref u0, .ref u1, .ref iz, .int th, .ref mb, .int mn, .int mpt, .int mbg, .int mwr, .int mwk, .int mlf, .int men])), (mw, .inl (ct 0, 958, .inl f_67))]) (E2 := [(mw, .inl (ct 0, 958, .inl f_67)), (m, .inr (11, [.ref mw, .ref ma, .ref mf, .ref m0, .ref m1, .ref mu, .ref mv, .ref u0, .ref u1, .ref iz, .int th, .ref mb, .int mn, .int mpt, .int mbg, .int mwr, .int mwk, .int mlf, .int men]))]) [1, 0] rfl rfl (by decide))
      have hD : va_D A ([(mw, .inl (ct 0, 958, .inl f_67)), (m, .inr (11, [.ref mw, .ref ma, .ref mf, .ref m0, .ref m1, .ref mu, .ref mv, .ref u0, .ref u1, .ref iz, .int th, .ref mb, .int mn, .int mpt, .int mbg, .int mwr, .int mwk, .int mlf, .int men]))] ++ ws) := ty_permD hD (ty_ordp (E := [(m, .inr (11, [.ref mw, .ref ma, .ref mf, .ref m0, .ref m1, .ref mu, .ref mv, .ref u0, .ref u1, .ref iz, .int th, .ref mb, .int mn, .int mpt, .int mbg, .int mwr, .int mwk, .int mlf, .int men])), (mw, .inl (ct 0, 958, .inl f_67))]) (E2 := [(mw, .inl (ct 0, 958, .inl f_67)), (m, .inr (11, [.ref mw, .ref ma, .ref mf, .ref m0, .ref m1, .ref mu, .ref mv, .ref u0, .ref u1, .ref iz, .int th, .ref mb, .int mn, .int mpt, .int mbg, .int mwr, .int mwk, .int mlf, .int men]))]) [1, 0] rfl rfl (by decide))
      refine ty_kl (wr := [(mw, .inl (ct 0, 958, .inl f_67))]) (wc := ([(m, .inr (11, [.ref mw, .ref ma, .ref mf, .ref m0, .ref m1, .ref mu, .ref mv, .ref u0, .ref u1, .ref iz, .int th, .ref mb, .int mn, .int mpt, .int mbg, .int mwr, .int mwk, .int mlf, .int men]))] ++ ws)) (va_runV (As := [.int p1, .int 4]) (rest := [.int ((568 + (5 * (f_61 12))) + 1), .ref mw]) ⟨hx, hb, hml, hown, hts⟩ (m_X11_sum l D ct S ws m mw ma mf m0 m1 mu mv u0 u1 iz mb th mn mpt mbg mwr mwk mlf men p1 (4 : Int32) _ hT h_mu h_mv h_u0 h_u1 h_mb (rf_c6 hR_69 hc) (by decide)) (cm_V 2 hts kc_X11_sum ki_RX11 kl_RX11_261 kv_X11_sum kx_X11_sum kd_X11_sum ⟨Nat.le_of_ble_eq_true rfl, Nat.le_of_ble_eq_true rfl⟩) (ty_preE (wr := [(mw, .inl (ct 0, 958, .inl f_67))]) (wc := ([(m, .inr (11, [.ref mw, .ref ma, .ref mf, .ref m0, .ref m1, .ref mu, .ref mv, .ref u0, .ref u1, .ref iz, .int th, .ref mb, .int mn, .int mpt, .int mbg, .int mwr, .int mwk, .int mlf, .int men]))] ++ ws)) (ci := 11) (q0 := 1) hP hK hD hS hA hX rfl rfl) rfl rfl hl.1 rfl (lv_room (Nat.le_of_ble_eq_true rfl)) dX11_records_85 ⟨Nat.le_of_ble_eq_true rfl, Nat.le_of_ble_eq_true rfl⟩) hP hD hS hA (fun r_73 u H locs hw_74 hP hD hS => ?_)
      obtain ⟨ws_75, rfl⟩ : ∃ z, z = u := ⟨_, rfl⟩
      have hT := hw_74
      have hP : va_P D vwCl ([(mw, .inl (ct 0, 958, .inl f_67)), (m, .inr (11, [.ref mw, .ref ma, .ref mf, .ref m0, .ref m1, .ref mu, .ref mv, .ref u0, .ref u1, .ref iz, .int th, .ref mb, .int mn, .int mpt, .int mbg, .int mwr, .int mwk, .int mlf, .int men]))] ++ ws_75) H := hP
      have hD : va_D A ([(mw, .inl (ct 0, 958, .inl f_67)), (m, .inr (11, [.ref mw, .ref ma, .ref mf, .ref m0, .ref m1, .ref mu, .ref mv, .ref u0, .ref u1, .ref iz, .int th, .ref mb, .int mn, .int mpt, .int mbg, .int mwr, .int mwk, .int mlf, .int men]))] ++ ws_75) := hD
      refine lv_l2i hx hb dX11_records_88 rfl ?_
      refine lv_topi (fun x_76 _ => ?_)
      refine va_iast hx hb hK hP hD hS 0 0 rfl rfl (rf_in1 (by have := (rf_nb (A := 568) (B := 5) (N := 29) (K := 1) (by decide) (by decide) (by decide) hL_66 (by decide) (by decide) (by decide) (by decide) (by decide)); omega)) dX11_records_89 (fun H locs hP hD hS => ?_)
      have hP : va_P D vwCl ([(mw, .inl (ct 0, 958, .inl (upd f_67 ((568 + (5 * (f_61 12))) + 1).toNatClampNeg x_76))), (m, .inr (11, [.ref mw, .ref ma, .ref mf, .ref m0, .ref m1, .ref mu, .ref mv, .ref u0, .ref u1, .ref iz, .int th, .ref mb, .int mn, .int mpt, .int mbg, .int mwr, .int mwk, .int mlf, .int men]))] ++ ws_75) H := hP
      have hD : va_D A ([(mw, .inl (ct 0, 958, .inl (upd f_67 ((568 + (5 * (f_61 12))) + 1).toNatClampNeg x_76))), (m, .inr (11, [.ref mw, .ref ma, .ref mf, .ref m0, .ref m1, .ref mu, .ref mv, .ref u0, .ref u1, .ref iz, .int th, .ref mb, .int mn, .int mpt, .int mbg, .int mwr, .int mwk, .int mlf, .int men]))] ++ ws_75) := hD
      have hU_78 : rf_R G cx (upd f_67 ((568 + (5 * (f_61 12))) + 1).toNatClampNeg x_76) ∧ rf_sm f_67 (upd f_67 ((568 + (5 * (f_61 12))) + 1).toNatClampNeg x_76) := (rf_free _ hR_69 (Or.inr (rf_ge (rf_nb (A := 568) (B := 5) (N := 29) (K := 1) (by decide) (by decide) (by decide) hL_66 (by decide) (by decide) (by decide) (by decide) (by decide)).1)))
      generalize hf_81 : (upd f_67 ((568 + (5 * (f_61 12))) + 1).toNatClampNeg x_76) = f_77 at hP hD hU_78
      have hR_79 := hU_78.1
      have hM_80 := rf_smt hM_70 hU_78.2
      have hq_82 : f_77 12 = f_61 12 := (rf_u17 hf_81 (rf_ge (rf_nb (A := 568) (B := 5) (N := 29) (K := 1) (by decide) (by decide) (by decide) hL_66 (by decide) (by decide) (by decide) (by decide) (by decide)).1) (by omega)).trans hq_72
      refine lv_aload_n hx hb dX11_records_90 rfl (lv_at hl 1 rfl) ?_
      refine va_get (v := .ref mw) (D := D) (ci := 11) (C := RX11) (T := TX11) (N := 19) hx hb hts in_X11 hown hK hP 1 rfl rfl 0 (by decide) (hts _ kl_RX11_9) (fun _ h9 => h9) rfl dX11_records_91 ?_
      refine lv_iload_n hx hb dX11_records_94 rfl (lv_at hl 0 rfl) ?_
      refine lv_iconst (v := 2) hx hb dX11_records_95 (by decide) ?_
      refine lv_iadd hx hb dX11_records_96 ?_
      refine lv_aload_n hx hb dX11_records_97 rfl (lv_at hl 1 rfl) ?_
      refine lv_iload_n hx hb dX11_records_98 rfl (lv_at hl 2 rfl) ?_
      refine lv_iconst (v := 5) hx hb dX11_records_99 (by decide) ?_
      refine ty_kl (wr := [(mw, .inl (ct 0, 958, .inl f_77))]) (wc := ([(m, .inr (11, [.ref mw, .ref ma, .ref mf, .ref m0, .ref m1, .ref mu, .ref mv, .ref u0, .ref u1, .ref iz, .int th, .ref mb, .int mn, .int mpt, .int mbg, .int mwr, .int mwk, .int mlf, .int men]))] ++ ws_75)) (va_runV (As := [.int p1, .int 5]) (rest := [.int ((568 + (5 * (f_61 12))) + 2), .ref mw]) ⟨hx, hb, hml, hown, hts⟩ (m_X11_sum l D ct S ws_75 m mw ma mf m0 m1 mu mv u0 u1 iz mb th mn mpt mbg mwr mwk mlf men p1 (5 : Int32) _ hT h_mu h_mv h_u0 h_u1 h_mb (rf_c6 hR_79 hc) (by decide)) (cm_V 2 hts kc_X11_sum ki_RX11 kl_RX11_261 kv_X11_sum kx_X11_sum kd_X11_sum ⟨Nat.le_of_ble_eq_true rfl, Nat.le_of_ble_eq_true rfl⟩) (ty_preE (wr := [(mw, .inl (ct 0, 958, .inl f_77))]) (wc := ([(m, .inr (11, [.ref mw, .ref ma, .ref mf, .ref m0, .ref m1, .ref mu, .ref mv, .ref u0, .ref u1, .ref iz, .int th, .ref mb, .int mn, .int mpt, .int mbg, .int mwr, .int mwk, .int mlf, .int men]))] ++ ws_75)) (ci := 11) (q0 := 1) hP hK hD hS hA hX rfl rfl) rfl rfl hl.1 rfl (lv_room (Nat.le_of_ble_eq_true rfl)) dX11_records_100 ⟨Nat.le_of_ble_eq_true rfl, Nat.le_of_ble_eq_true rfl⟩) hP hD hS hA (fun r_83 u H locs hw_84 hP hD hS => ?_)
      obtain ⟨ws_85, rfl⟩ : ∃ z, z = u := ⟨_, rfl⟩
      have hT := hw_84
      have hP : va_P D vwCl ([(mw, .inl (ct 0, 958, .inl f_77)), (m, .inr (11, [.ref mw, .ref ma, .ref mf, .ref m0, .ref m1, .ref mu, .ref mv, .ref u0, .ref u1, .ref iz, .int th, .ref mb, .int mn, .int mpt, .int mbg, .int mwr, .int mwk, .int mlf, .int men]))] ++ ws_85) H := hP
      have hD : va_D A ([(mw, .inl (ct 0, 958, .inl f_77)), (m, .inr (11, [.ref mw, .ref ma, .ref mf, .ref m0, .ref m1, .ref mu, .ref mv, .ref u0, .ref u1, .ref iz, .int th, .ref mb, .int mn, .int mpt, .int mbg, .int mwr, .int mwk, .int mlf, .int men]))] ++ ws_85) := hD
      refine lv_l2i hx hb dX11_records_103 rfl ?_
      refine lv_topi (fun x_86 _ => ?_)
      refine va_iast hx hb hK hP hD hS 0 0 rfl rfl (rf_in1 (by have := (rf_nb (A := 568) (B := 5) (N := 29) (K := 2) (by decide) (by decide) (by decide) hL_66 (by decide) (by decide) (by decide) (by decide) (by decide)); omega)) dX11_records_104 (fun H locs hP hD hS => ?_)
      have hP : va_P D vwCl ([(mw, .inl (ct 0, 958, .inl (upd f_77 ((568 + (5 * (f_61 12))) + 2).toNatClampNeg x_86))), (m, .inr (11, [.ref mw, .ref ma, .ref mf, .ref m0, .ref m1, .ref mu, .ref mv, .ref u0, .ref u1, .ref iz, .int th, .ref mb, .int mn, .int mpt, .int mbg, .int mwr, .int mwk, .int mlf, .int men]))] ++ ws_85) H := hP
      have hD : va_D A ([(mw, .inl (ct 0, 958, .inl (upd f_77 ((568 + (5 * (f_61 12))) + 2).toNatClampNeg x_86))), (m, .inr (11, [.ref mw, .ref ma, .ref mf, .ref m0, .ref m1, .ref mu, .ref mv, .ref u0, .ref u1, .ref iz, .int th, .ref mb, .int mn, .int mpt, .int mbg, .int mwr, .int mwk, .int mlf, .int men]))] ++ ws_85) := hD
      have hU_88 : rf_R G cx (upd f_77 ((568 + (5 * (f_61 12))) + 2).toNatClampNeg x_86) ∧ rf_sm f_77 (upd f_77 ((568 + (5 * (f_61 12))) + 2).toNatClampNeg x_86) := (rf_free _ hR_79 (Or.inr (rf_ge (rf_nb (A := 568) (B := 5) (N := 29) (K := 2) (by decide) (by decide) (by decide) hL_66 (by decide) (by decide) (by decide) (by decide) (by decide)).1)))
      generalize hf_91 : (upd f_77 ((568 + (5 * (f_61 12))) + 2).toNatClampNeg x_86) = f_87 at hP hD hU_88
      have hR_89 := hU_88.1
      have hM_90 := rf_smt hM_80 hU_88.2
      have hq_92 : f_87 12 = f_61 12 := (rf_u17 hf_91 (rf_ge (rf_nb (A := 568) (B := 5) (N := 29) (K := 2) (by decide) (by decide) (by decide) hL_66 (by decide) (by decide) (by decide) (by decide) (by decide)).1) (by omega)).trans hq_82
      refine lv_aload_n hx hb dX11_records_105 rfl (lv_at hl 1 rfl) ?_
      refine va_get (v := .ref mw) (D := D) (ci := 11) (C := RX11) (T := TX11) (N := 19) hx hb hts in_X11 hown hK hP 1 rfl rfl 0 (by decide) (hts _ kl_RX11_9) (fun _ h9 => h9) rfl dX11_records_106 ?_
      refine lv_iload_n hx hb dX11_records_109 rfl (lv_at hl 0 rfl) ?_
      refine lv_iconst (v := 3) hx hb dX11_records_110 (by decide) ?_
      refine lv_iadd hx hb dX11_records_111 ?_
      refine lv_aload_n hx hb dX11_records_112 rfl (lv_at hl 1 rfl) ?_
      refine va_get (v := .ref mw) (D := D) (ci := 11) (C := RX11) (T := TX11) (N := 19) hx hb hts in_X11 hown hK hP 1 rfl rfl 0 (by decide) (hts _ kl_RX11_9) (fun _ h9 => h9) rfl dX11_records_113 ?_
      refine lv_bipush (v := 8) hx hb dX11_records_116 (by decide) ?_
      refine va_iald hx hb hK hP 0 0 rfl rfl (cm_vin (by decide)) dX11_records_118 ?_
      refine cm_cst (y := (f_87 8)) (by first | rfl | decide +kernel) ?_
      refine va_iast hx hb hK hP hD hS 0 0 rfl rfl (rf_in1 (by have := (rf_nb (A := 568) (B := 5) (N := 29) (K := 3) (by decide) (by decide) (by decide) hL_66 (by decide) (by decide) (by decide) (by decide) (by decide)); omega)) dX11_records_119 (fun H locs hP hD hS => ?_)
      have hP : va_P D vwCl ([(mw, .inl (ct 0, 958, .inl (upd f_87 ((568 + (5 * (f_61 12))) + 3).toNatClampNeg (f_87 8)))), (m, .inr (11, [.ref mw, .ref ma, .ref mf, .ref m0, .ref m1, .ref mu, .ref mv, .ref u0, .ref u1, .ref iz, .int th, .ref mb, .int mn, .int mpt, .int mbg, .int mwr, .int mwk, .int mlf, .int men]))] ++ ws_85) H := hP
      have hD : va_D A ([(mw, .inl (ct 0, 958, .inl (upd f_87 ((568 + (5 * (f_61 12))) + 3).toNatClampNeg (f_87 8)))), (m, .inr (11, [.ref mw, .ref ma, .ref mf, .ref m0, .ref m1, .ref mu, .ref mv, .ref u0, .ref u1, .ref iz, .int th, .ref mb, .int mn, .int mpt, .int mbg, .int mwr, .int mwk, .int mlf, .int men]))] ++ ws_85) := hD
      have hU_94 : rf_R G cx (upd f_87 ((568 + (5 * (f_61 12))) + 3).toNatClampNeg (f_87 8)) ∧ rf_sm f_87 (upd f_87 ((568 + (5 * (f_61 12))) + 3).toNatClampNeg (f_87 8)) := (rf_free _ hR_89 (Or.inr (rf_ge (rf_nb (A := 568) (B := 5) (N := 29) (K := 3) (by decide) (by decide) (by decide) hL_66 (by decide) (by decide) (by decide) (by decide) (by decide)).1)))
      generalize hf_97 : (upd f_87 ((568 + (5 * (f_61 12))) + 3).toNatClampNeg (f_87 8)) = f_93 at hP hD hU_94
      have hR_95 := hU_94.1
      have hM_96 := rf_smt hM_90 hU_94.2
      have hq_98 : f_93 12 = f_61 12 := (rf_u17 hf_97 (rf_ge (rf_nb (A := 568) (B := 5) (N := 29) (K := 3) (by decide) (by decide) (by decide) hL_66 (by decide) (by decide) (by decide) (by decide) (by decide)).1) (by omega)).trans hq_92
      refine lv_aload_n hx hb dX11_records_120 rfl (lv_at hl 1 rfl) ?_
      refine va_get (v := .ref mw) (D := D) (ci := 11) (C := RX11) (T := TX11) (N := 19) hx hb hts in_X11 hown hK hP 1 rfl rfl 0 (by decide) (hts _ kl_RX11_9) (fun _ h9 => h9) rfl dX11_records_121 ?_
      refine lv_iload_n hx hb dX11_records_124 rfl (lv_at hl 0 rfl) ?_
      refine lv_iconst (v := 4) hx hb dX11_records_125 (by decide) ?_
      refine lv_iadd hx hb dX11_records_126 ?_
      refine lv_iload_n hx hb dX11_records_127 rfl (lv_at hl 3 rfl) ?_
      refine lv_if_eq (tgt := 135) hx hb dX11_records_128 (by decide) (fun hc_99 => ?_) (fun hc_99 => ?_)
      · refine lv_iconst (v := 0) hx hb dX11_records_135 (by decide) ?_
        refine va_iast hx hb hK hP hD hS 0 0 rfl rfl (rf_in1 (by have := (rf_nb (A := 568) (B := 5) (N := 29) (K := 4) (by decide) (by decide) (by decide) hL_66 (by decide) (by decide) (by decide) (by decide) (by decide)); omega)) dX11_records_136 (fun H locs hP hD hS => ?_)
        have hP : va_P D vwCl ([(mw, .inl (ct 0, 958, .inl (upd f_93 ((568 + (5 * (f_61 12))) + 4).toNatClampNeg 0))), (m, .inr (11, [.ref mw, .ref ma, .ref mf, .ref m0, .ref m1, .ref mu, .ref mv, .ref u0, .ref u1, .ref iz, .int th, .ref mb, .int mn, .int mpt, .int mbg, .int mwr, .int mwk, .int mlf, .int men]))] ++ ws_85) H := hP
        have hD : va_D A ([(mw, .inl (ct 0, 958, .inl (upd f_93 ((568 + (5 * (f_61 12))) + 4).toNatClampNeg 0))), (m, .inr (11, [.ref mw, .ref ma, .ref mf, .ref m0, .ref m1, .ref mu, .ref mv, .ref u0, .ref u1, .ref iz, .int th, .ref mb, .int mn, .int mpt, .int mbg, .int mwr, .int mwk, .int mlf, .int men]))] ++ ws_85) := hD
        have hU_101 : rf_R G cx (upd f_93 ((568 + (5 * (f_61 12))) + 4).toNatClampNeg 0) ∧ rf_sm f_93 (upd f_93 ((568 + (5 * (f_61 12))) + 4).toNatClampNeg 0) := (rf_free _ hR_95 (Or.inr (rf_ge (rf_nb (A := 568) (B := 5) (N := 29) (K := 4) (by decide) (by decide) (by decide) hL_66 (by decide) (by decide) (by decide) (by decide) (by decide)).1)))
        generalize hf_104 : (upd f_93 ((568 + (5 * (f_61 12))) + 4).toNatClampNeg 0) = f_100 at hP hD hU_101
        have hR_102 := hU_101.1
        have hM_103 := rf_smt hM_96 hU_101.2
        have hq_105 : f_100 12 = f_61 12 := (rf_u17 hf_104 (rf_ge (rf_nb (A := 568) (B := 5) (N := 29) (K := 4) (by decide) (by decide) (by decide) hL_66 (by decide) (by decide) (by decide) (by decide) (by decide)).1) (by omega)).trans hq_98
        refine lv_aload_n hx hb dX11_records_137 rfl (lv_at hl 1 rfl) ?_
        refine va_get (v := .ref mw) (D := D) (ci := 11) (C := RX11) (T := TX11) (N := 19) hx hb hts in_X11 hown hK hP 1 rfl rfl 0 (by decide) (hts _ kl_RX11_9) (fun _ h9 => h9) rfl dX11_records_138 ?_
        refine lv_bipush (v := 12) hx hb dX11_records_141 (by decide) ?_
        refine lv_dup2_11 hx hb dX11_records_143 rfl rfl ?_
        refine va_iald hx hb hK hP 0 0 rfl rfl (cm_vin (by decide)) dX11_records_144 ?_
        refine cm_cst (y := (f_100 12)) (by first | rfl | decide +kernel) ?_
        refine lv_iconst (v := 1) hx hb dX11_records_145 (by decide) ?_
        refine lv_iadd hx hb dX11_records_146 ?_
        refine va_iast hx hb hK hP hD hS 0 0 rfl rfl (cm_vin (by decide)) dX11_records_147 (fun H locs hP hD hS => ?_)
        have hP : va_P D vwCl ([(mw, .inl (ct 0, 958, .inl (upd f_100 (12 : Int32).toNatClampNeg ((f_100 12) + 1)))), (m, .inr (11, [.ref mw, .ref ma, .ref mf, .ref m0, .ref m1, .ref mu, .ref mv, .ref u0, .ref u1, .ref iz, .int th, .ref mb, .int mn, .int mpt, .int mbg, .int mwr, .int mwk, .int mlf, .int men]))] ++ ws_85) H := hP
        have hD : va_D A ([(mw, .inl (ct 0, 958, .inl (upd f_100 (12 : Int32).toNatClampNeg ((f_100 12) + 1)))), (m, .inr (11, [.ref mw, .ref ma, .ref mf, .ref m0, .ref m1, .ref mu, .ref mv, .ref u0, .ref u1, .ref iz, .int th, .ref mb, .int mn, .int mpt, .int mbg, .int mwr, .int mwk, .int mlf, .int men]))] ++ ws_85) := hD
        have hU_107 : rf_R G cx (upd f_100 (12 : Int32).toNatClampNeg ((f_100 12) + 1)) ∧ rf_sm f_100 (upd f_100 (12 : Int32).toNatClampNeg ((f_100 12) + 1)) := (rf_num12 hR_102 (by rw [hq_105]; have := rf_inc9 hL_66 (by omega) (by omega); omega))
        generalize hf_110 : (upd f_100 (12 : Int32).toNatClampNeg ((f_100 12) + 1)) = f_106 at hP hD hU_107
        have hR_108 := hU_107.1
        have hM_109 := rf_smt hM_103 hU_107.2
        have hP : va_P D vwCl ([(m, .inr (11, [.ref mw, .ref ma, .ref mf, .ref m0, .ref m1, .ref mu, .ref mv, .ref u0, .ref u1, .ref iz, .int th, .ref mb, .int mn, .int mpt, .int mbg, .int mwr, .int mwk, .int mlf, .int men])), (mw, .inl (ct 0, 958, .inl f_106))] ++ ws_85) H := ty_permP hP (ty_ordp (E := [(mw, .inl (ct 0, 958, .inl f_106)), (m, .inr (11, [.ref mw, .ref ma, .ref mf, .ref m0, .ref m1, .ref mu, .ref mv, .ref u0, .ref u1, .ref iz, .int th, .ref mb, .int mn, .int mpt, .int mbg, .int mwr, .int mwk, .int mlf, .int men]))]) (E2 := [(m, .inr (11, [.ref mw, .ref ma, .ref mf, .ref m0, .ref m1, .ref mu, .ref mv, .ref u0, .ref u1, .ref iz, .int th, .ref mb, .int mn, .int mpt, .int mbg, .int mwr, .int mwk, .int mlf, .int men])), (mw, .inl (ct 0, 958, .inl f_106))]) [1, 0] rfl rfl (by decide))
        have hD : va_D A ([(m, .inr (11, [.ref mw, .ref ma, .ref mf, .ref m0, .ref m1, .ref mu, .ref mv, .ref u0, .ref u1, .ref iz, .int th, .ref mb, .int mn, .int mpt, .int mbg, .int mwr, .int mwk, .int mlf, .int men])), (mw, .inl (ct 0, 958, .inl f_106))] ++ ws_85) := ty_permD hD (ty_ordp (E := [(mw, .inl (ct 0, 958, .inl f_106)), (m, .inr (11, [.ref mw, .ref ma, .ref mf, .ref m0, .ref m1, .ref mu, .ref mv, .ref u0, .ref u1, .ref iz, .int th, .ref mb, .int mn, .int mpt, .int mbg, .int mwr, .int mwk, .int mlf, .int men]))]) (E2 := [(m, .inr (11, [.ref mw, .ref ma, .ref mf, .ref m0, .ref m1, .ref mu, .ref mv, .ref u0, .ref u1, .ref iz, .int th, .ref mb, .int mn, .int mpt, .int mbg, .int mwr, .int mwk, .int mlf, .int men])), (mw, .inl (ct 0, 958, .inl f_106))]) [1, 0] rfl rfl (by decide))
        exact W.vret hx hb hr (fun t ht hW => ⟨⟨(ws_85, f_106), rfl, ⟨hT, ⟨hR_108, hM_109⟩⟩, by rw [ht]; exact hP, by rw [hAe]; exact hD⟩, hS.F ht⟩) hS.2.2 dX11_records_148
      · refine lv_iconst (v := 1) hx hb dX11_records_131 (by decide) ?_
        refine lv_goto (tgt := 136) hx hb dX11_records_132 (by decide) ?_
        refine va_iast hx hb hK hP hD hS 0 0 rfl rfl (rf_in1 (by have := (rf_nb (A := 568) (B := 5) (N := 29) (K := 4) (by decide) (by decide) (by decide) hL_66 (by decide) (by decide) (by decide) (by decide) (by decide)); omega)) dX11_records_136 (fun H locs hP hD hS => ?_)
        have hP : va_P D vwCl ([(mw, .inl (ct 0, 958, .inl (upd f_93 ((568 + (5 * (f_61 12))) + 4).toNatClampNeg 1))), (m, .inr (11, [.ref mw, .ref ma, .ref mf, .ref m0, .ref m1, .ref mu, .ref mv, .ref u0, .ref u1, .ref iz, .int th, .ref mb, .int mn, .int mpt, .int mbg, .int mwr, .int mwk, .int mlf, .int men]))] ++ ws_85) H := hP
        have hD : va_D A ([(mw, .inl (ct 0, 958, .inl (upd f_93 ((568 + (5 * (f_61 12))) + 4).toNatClampNeg 1))), (m, .inr (11, [.ref mw, .ref ma, .ref mf, .ref m0, .ref m1, .ref mu, .ref mv, .ref u0, .ref u1, .ref iz, .int th, .ref mb, .int mn, .int mpt, .int mbg, .int mwr, .int mwk, .int mlf, .int men]))] ++ ws_85) := hD
        have hU_112 : rf_R G cx (upd f_93 ((568 + (5 * (f_61 12))) + 4).toNatClampNeg 1) ∧ rf_sm f_93 (upd f_93 ((568 + (5 * (f_61 12))) + 4).toNatClampNeg 1) := (rf_free _ hR_95 (Or.inr (rf_ge (rf_nb (A := 568) (B := 5) (N := 29) (K := 4) (by decide) (by decide) (by decide) hL_66 (by decide) (by decide) (by decide) (by decide) (by decide)).1)))
        generalize hf_115 : (upd f_93 ((568 + (5 * (f_61 12))) + 4).toNatClampNeg 1) = f_111 at hP hD hU_112
        have hR_113 := hU_112.1
        have hM_114 := rf_smt hM_96 hU_112.2
        have hq_116 : f_111 12 = f_61 12 := (rf_u17 hf_115 (rf_ge (rf_nb (A := 568) (B := 5) (N := 29) (K := 4) (by decide) (by decide) (by decide) hL_66 (by decide) (by decide) (by decide) (by decide) (by decide)).1) (by omega)).trans hq_98
        refine lv_aload_n hx hb dX11_records_137 rfl (lv_at hl 1 rfl) ?_
        refine va_get (v := .ref mw) (D := D) (ci := 11) (C := RX11) (T := TX11) (N := 19) hx hb hts in_X11 hown hK hP 1 rfl rfl 0 (by decide) (hts _ kl_RX11_9) (fun _ h9 => h9) rfl dX11_records_138 ?_
        refine lv_bipush (v := 12) hx hb dX11_records_141 (by decide) ?_
        refine lv_dup2_11 hx hb dX11_records_143 rfl rfl ?_
        refine va_iald hx hb hK hP 0 0 rfl rfl (cm_vin (by decide)) dX11_records_144 ?_
        refine cm_cst (y := (f_111 12)) (by first | rfl | decide +kernel) ?_
        refine lv_iconst (v := 1) hx hb dX11_records_145 (by decide) ?_
        refine lv_iadd hx hb dX11_records_146 ?_
        refine va_iast hx hb hK hP hD hS 0 0 rfl rfl (cm_vin (by decide)) dX11_records_147 (fun H locs hP hD hS => ?_)
        have hP : va_P D vwCl ([(mw, .inl (ct 0, 958, .inl (upd f_111 (12 : Int32).toNatClampNeg ((f_111 12) + 1)))), (m, .inr (11, [.ref mw, .ref ma, .ref mf, .ref m0, .ref m1, .ref mu, .ref mv, .ref u0, .ref u1, .ref iz, .int th, .ref mb, .int mn, .int mpt, .int mbg, .int mwr, .int mwk, .int mlf, .int men]))] ++ ws_85) H := hP
        have hD : va_D A ([(mw, .inl (ct 0, 958, .inl (upd f_111 (12 : Int32).toNatClampNeg ((f_111 12) + 1)))), (m, .inr (11, [.ref mw, .ref ma, .ref mf, .ref m0, .ref m1, .ref mu, .ref mv, .ref u0, .ref u1, .ref iz, .int th, .ref mb, .int mn, .int mpt, .int mbg, .int mwr, .int mwk, .int mlf, .int men]))] ++ ws_85) := hD
        have hU_118 : rf_R G cx (upd f_111 (12 : Int32).toNatClampNeg ((f_111 12) + 1)) ∧ rf_sm f_111 (upd f_111 (12 : Int32).toNatClampNeg ((f_111 12) + 1)) := (rf_num12 hR_113 (by rw [hq_116]; have := rf_inc9 hL_66 (by omega) (by omega); omega))
        generalize hf_121 : (upd f_111 (12 : Int32).toNatClampNeg ((f_111 12) + 1)) = f_117 at hP hD hU_118
        have hR_119 := hU_118.1
        have hM_120 := rf_smt hM_114 hU_118.2
        have hP : va_P D vwCl ([(m, .inr (11, [.ref mw, .ref ma, .ref mf, .ref m0, .ref m1, .ref mu, .ref mv, .ref u0, .ref u1, .ref iz, .int th, .ref mb, .int mn, .int mpt, .int mbg, .int mwr, .int mwk, .int mlf, .int men])), (mw, .inl (ct 0, 958, .inl f_117))] ++ ws_85) H := ty_permP hP (ty_ordp (E := [(mw, .inl (ct 0, 958, .inl f_117)), (m, .inr (11, [.ref mw, .ref ma, .ref mf, .ref m0, .ref m1, .ref mu, .ref mv, .ref u0, .ref u1, .ref iz, .int th, .ref mb, .int mn, .int mpt, .int mbg, .int mwr, .int mwk, .int mlf, .int men]))]) (E2 := [(m, .inr (11, [.ref mw, .ref ma, .ref mf, .ref m0, .ref m1, .ref mu, .ref mv, .ref u0, .ref u1, .ref iz, .int th, .ref mb, .int mn, .int mpt, .int mbg, .int mwr, .int mwk, .int mlf, .int men])), (mw, .inl (ct 0, 958, .inl f_117))]) [1, 0] rfl rfl (by decide))
        have hD : va_D A ([(m, .inr (11, [.ref mw, .ref ma, .ref mf, .ref m0, .ref m1, .ref mu, .ref mv, .ref u0, .ref u1, .ref iz, .int th, .ref mb, .int mn, .int mpt, .int mbg, .int mwr, .int mwk, .int mlf, .int men])), (mw, .inl (ct 0, 958, .inl f_117))] ++ ws_85) := ty_permD hD (ty_ordp (E := [(mw, .inl (ct 0, 958, .inl f_117)), (m, .inr (11, [.ref mw, .ref ma, .ref mf, .ref m0, .ref m1, .ref mu, .ref mv, .ref u0, .ref u1, .ref iz, .int th, .ref mb, .int mn, .int mpt, .int mbg, .int mwr, .int mwk, .int mlf, .int men]))]) (E2 := [(m, .inr (11, [.ref mw, .ref ma, .ref mf, .ref m0, .ref m1, .ref mu, .ref mv, .ref u0, .ref u1, .ref iz, .int th, .ref mb, .int mn, .int mpt, .int mbg, .int mwr, .int mwk, .int mlf, .int men])), (mw, .inl (ct 0, 958, .inl f_117))]) [1, 0] rfl rfl (by decide))
        exact W.vret hx hb hr (fun t ht hW => ⟨⟨(ws_85, f_117), rfl, ⟨hT, ⟨hR_119, hM_120⟩⟩, by rw [ht]; exact hP, by rw [hAe]; exact hD⟩, hS.F ht⟩) hS.2.2 dX11_records_148
    · refine lv_aload_n hx hb dX11_records_23 rfl (lv_at hl 1 rfl) ?_
      refine va_get (v := .ref mw) (D := D) (ci := 11) (C := RX11) (T := TX11) (N := 19) hx hb hts in_X11 hown hK hP 0 rfl rfl 0 (by decide) (hts _ kl_RX11_9) (fun _ h9 => h9) rfl dX11_records_24 ?_
      refine lv_iload_n hx hb dX11_records_27 rfl (lv_at hl 0 rfl) ?_
      refine lv_aload_n hx hb dX11_records_28 rfl (lv_at hl 1 rfl) ?_
      refine va_get (v := .ref mw) (D := D) (ci := 11) (C := RX11) (T := TX11) (N := 19) hx hb hts in_X11 hown hK hP 0 rfl rfl 0 (by decide) (hts _ kl_RX11_9) (fun _ h9 => h9) rfl dX11_records_29 ?_
      refine lv_iload_n hx hb dX11_records_32 rfl (lv_at hl 0 rfl) ?_
      refine lv_iconst (v := 5) hx hb dX11_records_33 (by decide) ?_
      refine lv_iadd hx hb dX11_records_34 ?_
      refine va_iald hx hb hK hP 1 0 rfl rfl (rf_in2 (K := 5) (by decide) (by have := hex_16.1; have := rf_ng (b := 713) (by decide) hc_60; omega)) dX11_records_35 ?_
      refine va_iast hx hb hK hP hD hS 1 0 rfl rfl (rf_in1 (by have := hex_16.1; omega)) dX11_records_36 (fun H locs hP hD hS => ?_)
      have hP : va_P D vwCl ([(m, .inr (11, [.ref mw, .ref ma, .ref mf, .ref m0, .ref m1, .ref mu, .ref mv, .ref u0, .ref u1, .ref iz, .int th, .ref mb, .int mn, .int mpt, .int mbg, .int mwr, .int mwk, .int mlf, .int men])), (mw, .inl (ct 0, 958, .inl (upd f_59 y_58.toNatClampNeg (f_59 (y_58 + 5).toNatClampNeg))))] ++ ws) H := hP
      have hD : va_D A ([(m, .inr (11, [.ref mw, .ref ma, .ref mf, .ref m0, .ref m1, .ref mu, .ref mv, .ref u0, .ref u1, .ref iz, .int th, .ref mb, .int mn, .int mpt, .int mbg, .int mwr, .int mwk, .int mlf, .int men])), (mw, .inl (ct 0, 958, .inl (upd f_59 y_58.toNatClampNeg (f_59 (y_58 + 5).toNatClampNeg))))] ++ ws) := hD
      have hU_123 : rf_R G cx (upd f_59 y_58.toNatClampNeg (f_59 (y_58 + 5).toNatClampNeg)) ∧ rf_sm f_59 (upd f_59 y_58.toNatClampNeg (f_59 (y_58 + 5).toNatClampNeg)) := (rf_free _ hR_16 (Or.inr (rf_ge (by have := hex_16.1; omega))))
      generalize hf_126 : (upd f_59 y_58.toNatClampNeg (f_59 (y_58 + 5).toNatClampNeg)) = f_122 at hP hD hU_123
      have hR_124 := hU_123.1
      have hM_125 := rf_smt hM_16 hU_123.2
      refine lv_iinc (v := (y_58 + Int32.ofInt 1)) (lv' := [(3, .int (y_58 + Int32.ofInt 1)), (0, .ref m), (1, .int p1), (2, .int p2)]) hx hb dX11_records_37 hl (k := 0) rfl rfl (by decide) rfl (fun ls hl => ?_)
      refine lv_goto (tgt := 16) hx hb dX11_records_40 (by decide) ?_
      exact ih_16 _ _ _ _ (ty_inc (cm_lt hc_60)) ⟨ws, (y_58 + Int32.ofInt 1), f_122, rfl, hT, hP, hD, hS, (lv_sub hl [0, 1, 2, 3] rfl), hR_124, hM_125, rf_lp (by decide) hex_16.1 hc_60 (by omega) (by omega), (rf_u17 hf_126 (rf_ge (by have := hex_16; omega)) (by omega)).trans hex_16.2⟩
theorem dX11_ends_0 : decode cX11_ends 0 = .ok (.aload_n 0, 1) := by decide +kernel
theorem dX11_ends_1 : decode cX11_ends 1 = .ok (.iload_n 1, 1) := by decide +kernel
theorem dX11_ends_2 : decode cX11_ends 2 = .ok (.iconst 0, 1) := by decide +kernel
theorem dX11_ends_3 : decode cX11_ends 3 = .ok (.invokevirtual 228, 3) := by decide +kernel
theorem dX11_ends_6 : decode cX11_ends 6 = .ok (.istore_n 2, 1) := by decide +kernel
theorem dX11_ends_7 : decode cX11_ends 7 = .ok (.iload_n 2, 1) := by decide +kernel
theorem dX11_ends_8 : decode cX11_ends 8 = .ok (.iconst 1, 1) := by decide +kernel
theorem dX11_ends_9 : decode cX11_ends 9 = .ok (.if_icmp .ne 11, 3) := by decide +kernel
theorem dX11_ends_12 : decode cX11_ends 12 = .ok (.aload_n 0, 1) := by decide +kernel
theorem dX11_ends_13 : decode cX11_ends 13 = .ok (.iload_n 1, 1) := by decide +kernel
theorem dX11_ends_14 : decode cX11_ends 14 = .ok (.bipush 21, 2) := by decide +kernel
theorem dX11_ends_16 : decode cX11_ends 16 = .ok (.iconst 1, 1) := by decide +kernel
theorem dX11_ends_17 : decode cX11_ends 17 = .ok (.invokevirtual 234, 3) := by decide +kernel
theorem dX11_ends_20 : decode cX11_ends 20 = .ok (.iload_n 2, 1) := by decide +kernel
theorem dX11_ends_21 : decode cX11_ends 21 = .ok (.iconst 3, 1) := by decide +kernel
theorem dX11_ends_22 : decode cX11_ends 22 = .ok (.if_icmp .ne 16, 3) := by decide +kernel
theorem dX11_ends_25 : decode cX11_ends 25 = .ok (.aload_n 0, 1) := by decide +kernel
theorem dX11_ends_26 : decode cX11_ends 26 = .ok (.iload_n 1, 1) := by decide +kernel
theorem dX11_ends_27 : decode cX11_ends 27 = .ok (.bipush 19, 2) := by decide +kernel
theorem dX11_ends_29 : decode cX11_ends 29 = .ok (.aload_n 0, 1) := by decide +kernel
theorem dX11_ends_30 : decode cX11_ends 30 = .ok (.iload_n 1, 1) := by decide +kernel
theorem dX11_ends_31 : decode cX11_ends 31 = .ok (.iconst 5, 1) := by decide +kernel
theorem dX11_ends_32 : decode cX11_ends 32 = .ok (.invokevirtual 209, 3) := by decide +kernel
theorem dX11_ends_35 : decode cX11_ends 35 = .ok (.invokevirtual 234, 3) := by decide +kernel
theorem dX11_ends_38 : decode cX11_ends 38 = .ok (.iload_n 2, 1) := by decide +kernel
theorem dX11_ends_39 : decode cX11_ends 39 = .ok (.iconst 2, 1) := by decide +kernel
theorem dX11_ends_40 : decode cX11_ends 40 = .ok (.if_icmp .eq 4, 3) := by decide +kernel
theorem dX11_ends_43 : decode cX11_ends 43 = .ok (.return_, 1) := by decide +kernel
theorem dX11_ends_44 : decode cX11_ends 44 = .ok (.aload_n 0, 1) := by decide +kernel
theorem dX11_ends_45 : decode cX11_ends 45 = .ok (.iload_n 1, 1) := by decide +kernel
theorem dX11_ends_46 : decode cX11_ends 46 = .ok (.bipush 21, 2) := by decide +kernel
theorem dX11_ends_48 : decode cX11_ends 48 = .ok (.invokevirtual 209, 3) := by decide +kernel
theorem dX11_ends_51 : decode cX11_ends 51 = .ok (.iconst 1, 1) := by decide +kernel
theorem dX11_ends_52 : decode cX11_ends 52 = .ok (.if_icmp .ne 22, 3) := by decide +kernel
theorem dX11_ends_55 : decode cX11_ends 55 = .ok (.aload_n 0, 1) := by decide +kernel
theorem dX11_ends_56 : decode cX11_ends 56 = .ok (.iload_n 1, 1) := by decide +kernel
theorem dX11_ends_57 : decode cX11_ends 57 = .ok (.iconst 5, 1) := by decide +kernel
theorem dX11_ends_58 : decode cX11_ends 58 = .ok (.invokevirtual 209, 3) := by decide +kernel
theorem dX11_ends_61 : decode cX11_ends 61 = .ok (.aload_n 0, 1) := by decide +kernel
theorem dX11_ends_62 : decode cX11_ends 62 = .ok (.iload_n 1, 1) := by decide +kernel
theorem dX11_ends_63 : decode cX11_ends 63 = .ok (.iconst 2, 1) := by decide +kernel
theorem dX11_ends_64 : decode cX11_ends 64 = .ok (.invokevirtual 228, 3) := by decide +kernel
theorem dX11_ends_67 : decode cX11_ends 67 = .ok (.if_icmp .gt 7, 3) := by decide +kernel
theorem dX11_ends_70 : decode cX11_ends 70 = .ok (.iconst 1, 1) := by decide +kernel
theorem dX11_ends_71 : decode cX11_ends 71 = .ok (.goto 4, 3) := by decide +kernel
theorem dX11_ends_74 : decode cX11_ends 74 = .ok (.iconst 0, 1) := by decide +kernel
theorem dX11_ends_75 : decode cX11_ends 75 = .ok (.istore_n 3, 1) := by decide +kernel
theorem dX11_ends_76 : decode cX11_ends 76 = .ok (.aload_n 0, 1) := by decide +kernel
theorem dX11_ends_77 : decode cX11_ends 77 = .ok (.iload_n 1, 1) := by decide +kernel
theorem dX11_ends_78 : decode cX11_ends 78 = .ok (.iload_n 3, 1) := by decide +kernel
theorem dX11_ends_79 : decode cX11_ends 79 = .ok (.invokevirtual 268, 3) := by decide +kernel
theorem dX11_ends_82 : decode cX11_ends 82 = .ok (.iload_n 3, 1) := by decide +kernel
theorem dX11_ends_83 : decode cX11_ends 83 = .ok (.ifCond .eq 25, 3) := by decide +kernel
theorem dX11_ends_86 : decode cX11_ends 86 = .ok (.aload_n 0, 1) := by decide +kernel
theorem dX11_ends_87 : decode cX11_ends 87 = .ok (.iload_n 1, 1) := by decide +kernel
theorem dX11_ends_88 : decode cX11_ends 88 = .ok (.bipush 20, 2) := by decide +kernel
theorem dX11_ends_90 : decode cX11_ends 90 = .ok (.aload_n 0, 1) := by decide +kernel
theorem dX11_ends_91 : decode cX11_ends 91 = .ok (.iload_n 1, 1) := by decide +kernel
theorem dX11_ends_92 : decode cX11_ends 92 = .ok (.iconst 1, 1) := by decide +kernel
theorem dX11_ends_93 : decode cX11_ends 93 = .ok (.invokevirtual 261, 3) := by decide +kernel
theorem dX11_ends_96 : decode cX11_ends 96 = .ok (.aload_n 0, 1) := by decide +kernel
theorem dX11_ends_97 : decode cX11_ends 97 = .ok (.iload_n 1, 1) := by decide +kernel
theorem dX11_ends_98 : decode cX11_ends 98 = .ok (.bipush 6, 2) := by decide +kernel
theorem dX11_ends_100 : decode cX11_ends 100 = .ok (.invokevirtual 261, 3) := by decide +kernel
theorem dX11_ends_103 : decode cX11_ends 103 = .ok (.lsub, 1) := by decide +kernel
theorem dX11_ends_104 : decode cX11_ends 104 = .ok (.l2i, 1) := by decide +kernel
theorem dX11_ends_105 : decode cX11_ends 105 = .ok (.invokevirtual 234, 3) := by decide +kernel
theorem dX11_ends_108 : decode cX11_ends 108 = .ok (.aload_n 0, 1) := by decide +kernel
theorem dX11_ends_109 : decode cX11_ends 109 = .ok (.iload_n 1, 1) := by decide +kernel
theorem dX11_ends_110 : decode cX11_ends 110 = .ok (.invokevirtual 272, 3) := by decide +kernel
theorem dX11_ends_113 : decode cX11_ends 113 = .ok (.return_, 1) := by decide +kernel
set_option maxRecDepth 100000 in
set_option maxHeartbeats 4000000 in
theorem m_X11_ends (l : Launch) (D : va_G) (ct : Nat → ClassId) (S : ty_S) (ws : va_W) (m : Nat) (mw : Nat) (ma : Nat) (mf : Nat) (m0 : Nat) (m1 : Nat) (mu : Nat) (mv : Nat) (u0 : Nat) (u1 : Nat) (iz : Nat) (mb : Nat) (th : Int32) (mn : Int32) (mpt : Int32) (mbg : Int32) (mwr : Int32) (mwk : Int32) (mlf : Int32) (men : Int32) (f : Nat → Int32) (G : Nat → Int32) (cx : Int) (p1 : Int32) (sz : Nat) (hT : ty_W ct S ws) (h_mu : S mu = some (.inr (1, 42))) (h_mv : S mv = some (.inr (1, 42))) (h_u0 : S u0 = some (.inr (1, 42))) (h_u1 : S u1 = some (.inr (1, 42))) (h_mb : S mb = some (.inr (0, 800))) (hR : rf_R G cx f) (hc : 0 ≤ p1.toInt ∧ p1.toInt < (G 9).toInt) (ho : rf_on G f p1) : Met l yX11_ends (ws_ yX11_ends cX11_ends 4 none) ({ frames := 2, cells := 0, slots := 0, locals := 45 } : Room) (va_Pc [.ref m, .int p1] (cmP D ct sz ([(m, .inr (11, [.ref mw, .ref ma, .ref mf, .ref m0, .ref m1, .ref mu, .ref mv, .ref u0, .ref u1, .ref iz, .int th, .ref mb, .int mn, .int mpt, .int mbg, .int mwr, .int mwk, .int mlf, .int men])), (mw, .inl (ct 0, 958, .inl f))] ++ ws))) (va_Qv (fun (u : va_W × (Nat → Int32)) => match u with | (u9, f1) => ty_W ct S u9 ∧ rf_R G cx f1 ∧ rf_sm f f1) (cmB D ([(m, .inr (11, [.ref mw, .ref ma, .ref mf, .ref m0, .ref m1, .ref mu, .ref mv, .ref u0, .ref u1, .ref iz, .int th, .ref mb, .int mn, .int mpt, .int mbg, .int mwr, .int mwk, .int mlf, .int men])), (mw, .inl (ct 0, 958, .inl f))] ++ ws) sz (fun (u : va_W × (Nat → Int32)) => match u with | (u9, f1) => ([(m, .inr (11, [.ref mw, .ref ma, .ref mf, .ref m0, .ref m1, .ref mu, .ref mv, .ref u0, .ref u1, .ref iz, .int th, .ref mb, .int mn, .int mpt, .int mbg, .int mwr, .int mwk, .int mlf, .int men])), (mw, .inl (ct 0, 958, .inl f1))] ++ u9))) (va_A ([(m, .inr (11, [.ref mw, .ref ma, .ref mf, .ref m0, .ref m1, .ref mu, .ref mv, .ref u0, .ref u1, .ref iz, .int th, .ref mb, .int mn, .int mpt, .int mbg, .int mwr, .int mwk, .int mlf, .int men])), (mw, .inl (ct 0, 958, .inl f))] ++ ws) sz)) 0 0 (va_A ([(m, .inr (11, [.ref mw, .ref ma, .ref mf, .ref m0, .ref m1, .ref mu, .ref mv, .ref u0, .ref u1, .ref iz, .int th, .ref mb, .int mn, .int mpt, .int mbg, .int mwr, .int mwk, .int mlf, .int men])), (mw, .inl (ct 0, 958, .inl f))] ++ ws) sz) := by
  refine Met.ofW (cc := cX11_ends) (maxL := 4) (ret := none) (by decide) rfl ?_
  intro p e s m args below meth c s₁ B hml hv
  obtain ⟨rfl, hsz, hP, hK, hD0, hX⟩ := hv
  have hx := B.exec
  have hb := B.bytes
  have hr := B.returns
  have hts := ws_all (atoms_spec (ws := ws_ yX11_ends cX11_ends 4 none) B.pre)
  have hown : s.vm.findClass RX11 = some m.cls := findClass_of_methodNamed B.named
  have hlocks := B.notSynchronized
  subst hsz
  have hD := hD0.self (sz := s.heap.size)
  generalize hAe : va_A ([(m, .inr (11, [.ref mw, .ref ma, .ref mf, .ref m0, .ref m1, .ref mu, .ref mv, .ref u0, .ref u1, .ref iz, .int th, .ref mb, .int mn, .int mpt, .int mbg, .int mwr, .int mwk, .int mlf, .int men])), (mw, .inl (ct 0, 958, .inl f))] ++ ws) s.heap.size = A at hD hX ⊢
  have hA : ∀ q : Nat, s.heap.size ≤ q → A q := fun q h => by rw [← hAe]; exact Or.inr h
  have hS : va_S A s.heap s.heap [] := va_S.rf
  have hl := lv_entry ([.ref m, .int p1]) (n := 4) (Nat.le_of_ble_eq_true rfl)
  rw [lg_entry_eq]
  generalize (lg_sl ([.ref m, .int p1]) ++ List.replicate (4 - (lg_sl ([.ref m, .int p1])).length) Slot.unset).toArray = ls at hl ⊢
  have hl : lv_has ls 4 [(0, .ref m), (1, .int p1)] := hl
  refine lv_aload_n hx hb dX11_ends_0 rfl (lv_at hl 0 rfl) ?_
  refine lv_iload_n hx hb dX11_ends_1 rfl (lv_at hl 1 rfl) ?_
  refine lv_iconst (v := 0) hx hb dX11_ends_2 (by decide) ?_
  refine ty_ki (wr := []) (wc := ([(m, .inr (11, [.ref mw, .ref ma, .ref mf, .ref m0, .ref m1, .ref mu, .ref mv, .ref u0, .ref u1, .ref iz, .int th, .ref mb, .int mn, .int mpt, .int mbg, .int mwr, .int mwk, .int mlf, .int men])), (mw, .inl (ct 0, 958, .inl f))] ++ ws)) (va_runV (As := [.int p1, .int 0]) (rest := []) ⟨hx, hb, hml, hown, hts⟩ (m_step_0 l D ct S ws m mw ma mf m0 m1 mu mv u0 u1 iz mb th mn mpt mbg mwr mwk mlf men f G cx p1 _ hT h_mu h_mv h_u0 h_u1 h_mb hR hc (by decide)) (cm_V 2 hts kc_X11_step ki_RX11 kl_RX11_228 kv_X11_step kx_X11_step kd_X11_step ⟨Nat.le_of_ble_eq_true rfl, Nat.le_of_ble_eq_true rfl⟩) (ty_preE (wr := []) (wc := ([(m, .inr (11, [.ref mw, .ref ma, .ref mf, .ref m0, .ref m1, .ref mu, .ref mv, .ref u0, .ref u1, .ref iz, .int th, .ref mb, .int mn, .int mpt, .int mbg, .int mwr, .int mwk, .int mlf, .int men])), (mw, .inl (ct 0, 958, .inl f))] ++ ws)) (ci := 11) (q0 := 0) hP hK hD hS hA hX rfl rfl) rfl rfl hl.1 rfl (lv_room (Nat.le_of_ble_eq_true rfl)) dX11_ends_3 ⟨Nat.le_of_ble_eq_true rfl, Nat.le_of_ble_eq_true rfl⟩) hP hD hS hA (fun r_1 u H locs hw_2 hP hD hS => ?_)
  obtain ⟨ws_3, rfl⟩ : ∃ z, z = u := ⟨_, rfl⟩
  obtain ⟨hT, rfl⟩ := hw_2
  have hP : va_P D vwCl ([(m, .inr (11, [.ref mw, .ref ma, .ref mf, .ref m0, .ref m1, .ref mu, .ref mv, .ref u0, .ref u1, .ref iz, .int th, .ref mb, .int mn, .int mpt, .int mbg, .int mwr, .int mwk, .int mlf, .int men])), (mw, .inl (ct 0, 958, .inl f))] ++ ws_3) H := hP
  have hD : va_D A ([(m, .inr (11, [.ref mw, .ref ma, .ref mf, .ref m0, .ref m1, .ref mu, .ref mv, .ref u0, .ref u1, .ref iz, .int th, .ref mb, .int mn, .int mpt, .int mbg, .int mwr, .int mwk, .int mlf, .int men])), (mw, .inl (ct 0, 958, .inl f))] ++ ws_3) := hD
  refine lv_istore_n (lv' := [(2, .int (rf_st3 f p1 0)), (0, .ref m), (1, .int p1)]) hx hb dX11_ends_6 rfl hl (by decide) rfl (fun ls hl => ?_)
  refine lv_iload_n hx hb dX11_ends_7 rfl (lv_at hl 0 rfl) ?_
  refine lv_iconst (v := 1) hx hb dX11_ends_8 (by decide) ?_
  refine lv_icmp_ne (tgt := 20) hx hb dX11_ends_9 (by decide) (fun hc_4 => ?_) (fun hc_4 => ?_)
  · refine lv_iload_n hx hb dX11_ends_20 rfl (lv_at hl 0 rfl) ?_
    refine lv_iconst (v := 3) hx hb dX11_ends_21 (by decide) ?_
    refine lv_icmp_ne (tgt := 38) hx hb dX11_ends_22 (by decide) (fun hc_5 => ?_) (fun hc_5 => ?_)
    · refine lv_iload_n hx hb dX11_ends_38 rfl (lv_at hl 0 rfl) ?_
      refine lv_iconst (v := 2) hx hb dX11_ends_39 (by decide) ?_
      refine lv_icmp_eq (tgt := 44) hx hb dX11_ends_40 (by decide) (fun hc_6 => ?_) (fun hc_6 => ?_)
      · refine lv_aload_n hx hb dX11_ends_44 rfl (lv_at hl 1 rfl) ?_
        refine lv_iload_n hx hb dX11_ends_45 rfl (lv_at hl 2 rfl) ?_
        refine lv_bipush (v := 21) hx hb dX11_ends_46 (by decide) ?_
        refine ty_ki (wr := []) (wc := ([(m, .inr (11, [.ref mw, .ref ma, .ref mf, .ref m0, .ref m1, .ref mu, .ref mv, .ref u0, .ref u1, .ref iz, .int th, .ref mb, .int mn, .int mpt, .int mbg, .int mwr, .int mwk, .int mlf, .int men])), (mw, .inl (ct 0, 958, .inl f))] ++ ws_3)) (va_runV (As := [.int p1, .int 21]) (rest := []) ⟨hx, hb, hml, hown, hts⟩ (m_of_21 l D ct S ws_3 m mw ma mf m0 m1 mu mv u0 u1 iz mb th mn mpt mbg mwr mwk mlf men f G cx p1 _ hT h_mu h_mv h_u0 h_u1 h_mb hR hc) (cm_V 2 hts kc_X11_of ki_RX11 kl_RX11_209 kv_X11_of kx_X11_of kd_X11_of ⟨Nat.le_of_ble_eq_true rfl, Nat.le_of_ble_eq_true rfl⟩) (ty_preE (wr := []) (wc := ([(m, .inr (11, [.ref mw, .ref ma, .ref mf, .ref m0, .ref m1, .ref mu, .ref mv, .ref u0, .ref u1, .ref iz, .int th, .ref mb, .int mn, .int mpt, .int mbg, .int mwr, .int mwk, .int mlf, .int men])), (mw, .inl (ct 0, 958, .inl f))] ++ ws_3)) (ci := 11) (q0 := 0) hP hK hD hS hA hX rfl rfl) rfl rfl hl.1 rfl (lv_room (Nat.le_of_ble_eq_true rfl)) dX11_ends_48 ⟨Nat.le_of_ble_eq_true rfl, Nat.le_of_ble_eq_true rfl⟩) hP hD hS hA (fun r_7 u H locs hw_8 hP hD hS => ?_)
        obtain ⟨ws_9, rfl⟩ : ∃ z, z = u := ⟨_, rfl⟩
        obtain ⟨hT, rfl⟩ := hw_8
        have hP : va_P D vwCl ([(m, .inr (11, [.ref mw, .ref ma, .ref mf, .ref m0, .ref m1, .ref mu, .ref mv, .ref u0, .ref u1, .ref iz, .int th, .ref mb, .int mn, .int mpt, .int mbg, .int mwr, .int mwk, .int mlf, .int men])), (mw, .inl (ct 0, 958, .inl f))] ++ ws_9) H := hP
        have hD : va_D A ([(m, .inr (11, [.ref mw, .ref ma, .ref mf, .ref m0, .ref m1, .ref mu, .ref mv, .ref u0, .ref u1, .ref iz, .int th, .ref mb, .int mn, .int mpt, .int mbg, .int mwr, .int mwk, .int mlf, .int men])), (mw, .inl (ct 0, 958, .inl f))] ++ ws_9) := hD
        refine lv_iconst (v := 1) hx hb dX11_ends_51 (by decide) ?_
        refine lv_icmp_ne (tgt := 74) hx hb dX11_ends_52 (by decide) (fun hc_10 => ?_) (fun hc_10 => ?_)
        · refine lv_iconst (v := 0) hx hb dX11_ends_74 (by decide) ?_
          refine lv_istore_n (lv' := [(3, .int 0), (2, .int (rf_st3 f p1 0)), (0, .ref m), (1, .int p1)]) hx hb dX11_ends_75 rfl hl (by decide) rfl (fun ls hl => ?_)
          refine lv_aload_n hx hb dX11_ends_76 rfl (lv_at hl 2 rfl) ?_
          refine lv_iload_n hx hb dX11_ends_77 rfl (lv_at hl 3 rfl) ?_
          refine lv_iload_n hx hb dX11_ends_78 rfl (lv_at hl 0 rfl) ?_
          refine ty_kv (wr := []) (wc := ([(m, .inr (11, [.ref mw, .ref ma, .ref mf, .ref m0, .ref m1, .ref mu, .ref mv, .ref u0, .ref u1, .ref iz, .int th, .ref mb, .int mn, .int mpt, .int mbg, .int mwr, .int mwk, .int mlf, .int men])), (mw, .inl (ct 0, 958, .inl f))] ++ ws_9)) (va_runV (As := [.int p1, .int 0]) (rest := []) ⟨hx, hb, hml, hown, hts⟩ (m_X11_records l D ct S ws_9 m mw ma mf m0 m1 mu mv u0 u1 iz mb th mn mpt mbg mwr mwk mlf men f G cx p1 (0 : Int32) _ hT h_mu h_mv h_u0 h_u1 h_mb hR hc) (cm_V 2 hts kc_X11_records ki_RX11 kl_RX11_268 kv_X11_records kx_X11_records kd_X11_records ⟨Nat.le_of_ble_eq_true rfl, Nat.le_of_ble_eq_true rfl⟩) (ty_preE (wr := []) (wc := ([(m, .inr (11, [.ref mw, .ref ma, .ref mf, .ref m0, .ref m1, .ref mu, .ref mv, .ref u0, .ref u1, .ref iz, .int th, .ref mb, .int mn, .int mpt, .int mbg, .int mwr, .int mwk, .int mlf, .int men])), (mw, .inl (ct 0, 958, .inl f))] ++ ws_9)) (ci := 11) (q0 := 0) hP hK hD hS hA hX rfl rfl) rfl rfl hl.1 rfl (lv_room (Nat.le_of_ble_eq_true rfl)) dX11_ends_79 ⟨Nat.le_of_ble_eq_true rfl, Nat.le_of_ble_eq_true rfl⟩) hP hD hS hA (fun u H locs hw_12 hP hD hS => ?_)
          obtain ⟨ws_13, f1_14⟩ := u
          obtain ⟨hT, hp_15⟩ := hw_12
          have hp_15 : rf_R G cx f1_14 ∧ rf_sm f f1_14 := hp_15
          have hR_16 := hp_15.1
          have hM_17 := rf_smt (rf_smr f) hp_15.2.1
          have hP : va_P D vwCl ([(m, .inr (11, [.ref mw, .ref ma, .ref mf, .ref m0, .ref m1, .ref mu, .ref mv, .ref u0, .ref u1, .ref iz, .int th, .ref mb, .int mn, .int mpt, .int mbg, .int mwr, .int mwk, .int mlf, .int men])), (mw, .inl (ct 0, 958, .inl f1_14))] ++ ws_13) H := hP
          have hD : va_D A ([(m, .inr (11, [.ref mw, .ref ma, .ref mf, .ref m0, .ref m1, .ref mu, .ref mv, .ref u0, .ref u1, .ref iz, .int th, .ref mb, .int mn, .int mpt, .int mbg, .int mwr, .int mwk, .int mlf, .int men])), (mw, .inl (ct 0, 958, .inl f1_14))] ++ ws_13) := hD
          refine lv_iload_n hx hb dX11_ends_82 rfl (lv_at hl 0 rfl) ?_
          refine lv_if_eq (tgt := 108) hx hb dX11_ends_83 (by decide) (fun _ => ?_) (fun hc => absurd (by decide) hc)
          refine lv_aload_n hx hb dX11_ends_108 rfl (lv_at hl 2 rfl) ?_
          refine lv_iload_n hx hb dX11_ends_109 rfl (lv_at hl 3 rfl) ?_
          refine ty_kv (wr := []) (wc := ([(m, .inr (11, [.ref mw, .ref ma, .ref mf, .ref m0, .ref m1, .ref mu, .ref mv, .ref u0, .ref u1, .ref iz, .int th, .ref mb, .int mn, .int mpt, .int mbg, .int mwr, .int mwk, .int mlf, .int men])), (mw, .inl (ct 0, 958, .inl f1_14))] ++ ws_13)) (va_runV (As := [.int p1]) (rest := []) ⟨hx, hb, hml, hown, hts⟩ (m_X11_clears l D ct S ws_13 m mw ma mf m0 m1 mu mv u0 u1 iz mb th mn mpt mbg mwr mwk mlf men f1_14 G cx p1 _ hT h_mu h_mv h_u0 h_u1 h_mb hR_16 hc) (cm_V 1 hts kc_X11_clears ki_RX11 kl_RX11_272 kv_X11_clears kx_X11_clears kd_X11_clears ⟨Nat.le_of_ble_eq_true rfl, Nat.le_of_ble_eq_true rfl⟩) (ty_preE (wr := []) (wc := ([(m, .inr (11, [.ref mw, .ref ma, .ref mf, .ref m0, .ref m1, .ref mu, .ref mv, .ref u0, .ref u1, .ref iz, .int th, .ref mb, .int mn, .int mpt, .int mbg, .int mwr, .int mwk, .int mlf, .int men])), (mw, .inl (ct 0, 958, .inl f1_14))] ++ ws_13)) (ci := 11) (q0 := 0) hP hK hD hS hA hX rfl rfl) rfl rfl hl.1 rfl (lv_room (Nat.le_of_ble_eq_true rfl)) dX11_ends_110 ⟨Nat.le_of_ble_eq_true rfl, Nat.le_of_ble_eq_true rfl⟩) hP hD hS hA (fun u H locs hw_19 hP hD hS => ?_)
          obtain ⟨ws_20, f1_21⟩ := u
          obtain ⟨hT, hp_22⟩ := hw_19
          have hp_22 : rf_R G cx f1_21 ∧ rf_sm f1_14 f1_21 := hp_22
          have hR_23 := hp_22.1
          have hM_24 := rf_smt hM_17 hp_22.2.1
          have hP : va_P D vwCl ([(m, .inr (11, [.ref mw, .ref ma, .ref mf, .ref m0, .ref m1, .ref mu, .ref mv, .ref u0, .ref u1, .ref iz, .int th, .ref mb, .int mn, .int mpt, .int mbg, .int mwr, .int mwk, .int mlf, .int men])), (mw, .inl (ct 0, 958, .inl f1_21))] ++ ws_20) H := hP
          have hD : va_D A ([(m, .inr (11, [.ref mw, .ref ma, .ref mf, .ref m0, .ref m1, .ref mu, .ref mv, .ref u0, .ref u1, .ref iz, .int th, .ref mb, .int mn, .int mpt, .int mbg, .int mwr, .int mwk, .int mlf, .int men])), (mw, .inl (ct 0, 958, .inl f1_21))] ++ ws_20) := hD
          exact W.vret hx hb hr (fun t ht hW => ⟨⟨(ws_20, f1_21), rfl, ⟨hT, ⟨hR_23, hM_24⟩⟩, by rw [ht]; exact hP, by rw [hAe]; exact hD⟩, hS.F ht⟩) hS.2.2 dX11_ends_113
        · refine lv_aload_n hx hb dX11_ends_55 rfl (lv_at hl 1 rfl) ?_
          refine lv_iload_n hx hb dX11_ends_56 rfl (lv_at hl 2 rfl) ?_
          refine lv_iconst (v := 5) hx hb dX11_ends_57 (by decide) ?_
          refine ty_ki (wr := []) (wc := ([(m, .inr (11, [.ref mw, .ref ma, .ref mf, .ref m0, .ref m1, .ref mu, .ref mv, .ref u0, .ref u1, .ref iz, .int th, .ref mb, .int mn, .int mpt, .int mbg, .int mwr, .int mwk, .int mlf, .int men])), (mw, .inl (ct 0, 958, .inl f))] ++ ws_9)) (va_runV (As := [.int p1, .int 5]) (rest := []) ⟨hx, hb, hml, hown, hts⟩ (m_of_5 l D ct S ws_9 m mw ma mf m0 m1 mu mv u0 u1 iz mb th mn mpt mbg mwr mwk mlf men f G cx p1 _ hT h_mu h_mv h_u0 h_u1 h_mb hR hc) (cm_V 2 hts kc_X11_of ki_RX11 kl_RX11_209 kv_X11_of kx_X11_of kd_X11_of ⟨Nat.le_of_ble_eq_true rfl, Nat.le_of_ble_eq_true rfl⟩) (ty_preE (wr := []) (wc := ([(m, .inr (11, [.ref mw, .ref ma, .ref mf, .ref m0, .ref m1, .ref mu, .ref mv, .ref u0, .ref u1, .ref iz, .int th, .ref mb, .int mn, .int mpt, .int mbg, .int mwr, .int mwk, .int mlf, .int men])), (mw, .inl (ct 0, 958, .inl f))] ++ ws_9)) (ci := 11) (q0 := 0) hP hK hD hS hA hX rfl rfl) rfl rfl hl.1 rfl (lv_room (Nat.le_of_ble_eq_true rfl)) dX11_ends_58 ⟨Nat.le_of_ble_eq_true rfl, Nat.le_of_ble_eq_true rfl⟩) hP hD hS hA (fun r_25 u H locs hw_26 hP hD hS => ?_)
          obtain ⟨ws_27, rfl⟩ : ∃ z, z = u := ⟨_, rfl⟩
          obtain ⟨hT, rfl⟩ := hw_26
          have hP : va_P D vwCl ([(m, .inr (11, [.ref mw, .ref ma, .ref mf, .ref m0, .ref m1, .ref mu, .ref mv, .ref u0, .ref u1, .ref iz, .int th, .ref mb, .int mn, .int mpt, .int mbg, .int mwr, .int mwk, .int mlf, .int men])), (mw, .inl (ct 0, 958, .inl f))] ++ ws_27) H := hP
          have hD : va_D A ([(m, .inr (11, [.ref mw, .ref ma, .ref mf, .ref m0, .ref m1, .ref mu, .ref mv, .ref u0, .ref u1, .ref iz, .int th, .ref mb, .int mn, .int mpt, .int mbg, .int mwr, .int mwk, .int mlf, .int men])), (mw, .inl (ct 0, 958, .inl f))] ++ ws_27) := hD
          refine lv_aload_n hx hb dX11_ends_61 rfl (lv_at hl 1 rfl) ?_
          refine lv_iload_n hx hb dX11_ends_62 rfl (lv_at hl 2 rfl) ?_
          refine lv_iconst (v := 2) hx hb dX11_ends_63 (by decide) ?_
          refine ty_ki (wr := []) (wc := ([(m, .inr (11, [.ref mw, .ref ma, .ref mf, .ref m0, .ref m1, .ref mu, .ref mv, .ref u0, .ref u1, .ref iz, .int th, .ref mb, .int mn, .int mpt, .int mbg, .int mwr, .int mwk, .int mlf, .int men])), (mw, .inl (ct 0, 958, .inl f))] ++ ws_27)) (va_runV (As := [.int p1, .int 2]) (rest := [.int (rf_of f p1 5)]) ⟨hx, hb, hml, hown, hts⟩ (m_step_2 l D ct S ws_27 m mw ma mf m0 m1 mu mv u0 u1 iz mb th mn mpt mbg mwr mwk mlf men f G cx p1 _ hT h_mu h_mv h_u0 h_u1 h_mb hR hc (by decide)) (cm_V 2 hts kc_X11_step ki_RX11 kl_RX11_228 kv_X11_step kx_X11_step kd_X11_step ⟨Nat.le_of_ble_eq_true rfl, Nat.le_of_ble_eq_true rfl⟩) (ty_preE (wr := []) (wc := ([(m, .inr (11, [.ref mw, .ref ma, .ref mf, .ref m0, .ref m1, .ref mu, .ref mv, .ref u0, .ref u1, .ref iz, .int th, .ref mb, .int mn, .int mpt, .int mbg, .int mwr, .int mwk, .int mlf, .int men])), (mw, .inl (ct 0, 958, .inl f))] ++ ws_27)) (ci := 11) (q0 := 0) hP hK hD hS hA hX rfl rfl) rfl rfl hl.1 rfl (lv_room (Nat.le_of_ble_eq_true rfl)) dX11_ends_64 ⟨Nat.le_of_ble_eq_true rfl, Nat.le_of_ble_eq_true rfl⟩) hP hD hS hA (fun r_28 u H locs hw_29 hP hD hS => ?_)
          obtain ⟨ws_30, rfl⟩ : ∃ z, z = u := ⟨_, rfl⟩
          obtain ⟨hT, rfl⟩ := hw_29
          have hP : va_P D vwCl ([(m, .inr (11, [.ref mw, .ref ma, .ref mf, .ref m0, .ref m1, .ref mu, .ref mv, .ref u0, .ref u1, .ref iz, .int th, .ref mb, .int mn, .int mpt, .int mbg, .int mwr, .int mwk, .int mlf, .int men])), (mw, .inl (ct 0, 958, .inl f))] ++ ws_30) H := hP
          have hD : va_D A ([(m, .inr (11, [.ref mw, .ref ma, .ref mf, .ref m0, .ref m1, .ref mu, .ref mv, .ref u0, .ref u1, .ref iz, .int th, .ref mb, .int mn, .int mpt, .int mbg, .int mwr, .int mwk, .int mlf, .int men])), (mw, .inl (ct 0, 958, .inl f))] ++ ws_30) := hD
          refine lv_icmp_gt (tgt := 74) hx hb dX11_ends_67 (by decide) (fun hc_31 => ?_) (fun hc_31 => ?_)
          · refine lv_iconst (v := 0) hx hb dX11_ends_74 (by decide) ?_
            refine lv_istore_n (lv' := [(3, .int 0), (2, .int (rf_st3 f p1 0)), (0, .ref m), (1, .int p1)]) hx hb dX11_ends_75 rfl hl (by decide) rfl (fun ls hl => ?_)
            refine lv_aload_n hx hb dX11_ends_76 rfl (lv_at hl 2 rfl) ?_
            refine lv_iload_n hx hb dX11_ends_77 rfl (lv_at hl 3 rfl) ?_
            refine lv_iload_n hx hb dX11_ends_78 rfl (lv_at hl 0 rfl) ?_
            refine ty_kv (wr := []) (wc := ([(m, .inr (11, [.ref mw, .ref ma, .ref mf, .ref m0, .ref m1, .ref mu, .ref mv, .ref u0, .ref u1, .ref iz, .int th, .ref mb, .int mn, .int mpt, .int mbg, .int mwr, .int mwk, .int mlf, .int men])), (mw, .inl (ct 0, 958, .inl f))] ++ ws_30)) (va_runV (As := [.int p1, .int 0]) (rest := []) ⟨hx, hb, hml, hown, hts⟩ (m_X11_records l D ct S ws_30 m mw ma mf m0 m1 mu mv u0 u1 iz mb th mn mpt mbg mwr mwk mlf men f G cx p1 (0 : Int32) _ hT h_mu h_mv h_u0 h_u1 h_mb hR hc) (cm_V 2 hts kc_X11_records ki_RX11 kl_RX11_268 kv_X11_records kx_X11_records kd_X11_records ⟨Nat.le_of_ble_eq_true rfl, Nat.le_of_ble_eq_true rfl⟩) (ty_preE (wr := []) (wc := ([(m, .inr (11, [.ref mw, .ref ma, .ref mf, .ref m0, .ref m1, .ref mu, .ref mv, .ref u0, .ref u1, .ref iz, .int th, .ref mb, .int mn, .int mpt, .int mbg, .int mwr, .int mwk, .int mlf, .int men])), (mw, .inl (ct 0, 958, .inl f))] ++ ws_30)) (ci := 11) (q0 := 0) hP hK hD hS hA hX rfl rfl) rfl rfl hl.1 rfl (lv_room (Nat.le_of_ble_eq_true rfl)) dX11_ends_79 ⟨Nat.le_of_ble_eq_true rfl, Nat.le_of_ble_eq_true rfl⟩) hP hD hS hA (fun u H locs hw_33 hP hD hS => ?_)
            obtain ⟨ws_34, f1_35⟩ := u
            obtain ⟨hT, hp_36⟩ := hw_33
            have hp_36 : rf_R G cx f1_35 ∧ rf_sm f f1_35 := hp_36
            have hR_37 := hp_36.1
            have hM_38 := rf_smt (rf_smr f) hp_36.2.1
            have hP : va_P D vwCl ([(m, .inr (11, [.ref mw, .ref ma, .ref mf, .ref m0, .ref m1, .ref mu, .ref mv, .ref u0, .ref u1, .ref iz, .int th, .ref mb, .int mn, .int mpt, .int mbg, .int mwr, .int mwk, .int mlf, .int men])), (mw, .inl (ct 0, 958, .inl f1_35))] ++ ws_34) H := hP
            have hD : va_D A ([(m, .inr (11, [.ref mw, .ref ma, .ref mf, .ref m0, .ref m1, .ref mu, .ref mv, .ref u0, .ref u1, .ref iz, .int th, .ref mb, .int mn, .int mpt, .int mbg, .int mwr, .int mwk, .int mlf, .int men])), (mw, .inl (ct 0, 958, .inl f1_35))] ++ ws_34) := hD
            refine lv_iload_n hx hb dX11_ends_82 rfl (lv_at hl 0 rfl) ?_
            refine lv_if_eq (tgt := 108) hx hb dX11_ends_83 (by decide) (fun _ => ?_) (fun hc => absurd (by decide) hc)
            refine lv_aload_n hx hb dX11_ends_108 rfl (lv_at hl 2 rfl) ?_
            refine lv_iload_n hx hb dX11_ends_109 rfl (lv_at hl 3 rfl) ?_
            refine ty_kv (wr := []) (wc := ([(m, .inr (11, [.ref mw, .ref ma, .ref mf, .ref m0, .ref m1, .ref mu, .ref mv, .ref u0, .ref u1, .ref iz, .int th, .ref mb, .int mn, .int mpt, .int mbg, .int mwr, .int mwk, .int mlf, .int men])), (mw, .inl (ct 0, 958, .inl f1_35))] ++ ws_34)) (va_runV (As := [.int p1]) (rest := []) ⟨hx, hb, hml, hown, hts⟩ (m_X11_clears l D ct S ws_34 m mw ma mf m0 m1 mu mv u0 u1 iz mb th mn mpt mbg mwr mwk mlf men f1_35 G cx p1 _ hT h_mu h_mv h_u0 h_u1 h_mb hR_37 hc) (cm_V 1 hts kc_X11_clears ki_RX11 kl_RX11_272 kv_X11_clears kx_X11_clears kd_X11_clears ⟨Nat.le_of_ble_eq_true rfl, Nat.le_of_ble_eq_true rfl⟩) (ty_preE (wr := []) (wc := ([(m, .inr (11, [.ref mw, .ref ma, .ref mf, .ref m0, .ref m1, .ref mu, .ref mv, .ref u0, .ref u1, .ref iz, .int th, .ref mb, .int mn, .int mpt, .int mbg, .int mwr, .int mwk, .int mlf, .int men])), (mw, .inl (ct 0, 958, .inl f1_35))] ++ ws_34)) (ci := 11) (q0 := 0) hP hK hD hS hA hX rfl rfl) rfl rfl hl.1 rfl (lv_room (Nat.le_of_ble_eq_true rfl)) dX11_ends_110 ⟨Nat.le_of_ble_eq_true rfl, Nat.le_of_ble_eq_true rfl⟩) hP hD hS hA (fun u H locs hw_40 hP hD hS => ?_)
            obtain ⟨ws_41, f1_42⟩ := u
            obtain ⟨hT, hp_43⟩ := hw_40
            have hp_43 : rf_R G cx f1_42 ∧ rf_sm f1_35 f1_42 := hp_43
            have hR_44 := hp_43.1
            have hM_45 := rf_smt hM_38 hp_43.2.1
            have hP : va_P D vwCl ([(m, .inr (11, [.ref mw, .ref ma, .ref mf, .ref m0, .ref m1, .ref mu, .ref mv, .ref u0, .ref u1, .ref iz, .int th, .ref mb, .int mn, .int mpt, .int mbg, .int mwr, .int mwk, .int mlf, .int men])), (mw, .inl (ct 0, 958, .inl f1_42))] ++ ws_41) H := hP
            have hD : va_D A ([(m, .inr (11, [.ref mw, .ref ma, .ref mf, .ref m0, .ref m1, .ref mu, .ref mv, .ref u0, .ref u1, .ref iz, .int th, .ref mb, .int mn, .int mpt, .int mbg, .int mwr, .int mwk, .int mlf, .int men])), (mw, .inl (ct 0, 958, .inl f1_42))] ++ ws_41) := hD
            exact W.vret hx hb hr (fun t ht hW => ⟨⟨(ws_41, f1_42), rfl, ⟨hT, ⟨hR_44, hM_45⟩⟩, by rw [ht]; exact hP, by rw [hAe]; exact hD⟩, hS.F ht⟩) hS.2.2 dX11_ends_113
          · refine lv_iconst (v := 1) hx hb dX11_ends_70 (by decide) ?_
            refine lv_goto (tgt := 75) hx hb dX11_ends_71 (by decide) ?_
            refine lv_istore_n (lv' := [(3, .int 1), (2, .int (rf_st3 f p1 0)), (0, .ref m), (1, .int p1)]) hx hb dX11_ends_75 rfl hl (by decide) rfl (fun ls hl => ?_)
            refine lv_aload_n hx hb dX11_ends_76 rfl (lv_at hl 2 rfl) ?_
            refine lv_iload_n hx hb dX11_ends_77 rfl (lv_at hl 3 rfl) ?_
            refine lv_iload_n hx hb dX11_ends_78 rfl (lv_at hl 0 rfl) ?_
            refine ty_kv (wr := []) (wc := ([(m, .inr (11, [.ref mw, .ref ma, .ref mf, .ref m0, .ref m1, .ref mu, .ref mv, .ref u0, .ref u1, .ref iz, .int th, .ref mb, .int mn, .int mpt, .int mbg, .int mwr, .int mwk, .int mlf, .int men])), (mw, .inl (ct 0, 958, .inl f))] ++ ws_30)) (va_runV (As := [.int p1, .int 1]) (rest := []) ⟨hx, hb, hml, hown, hts⟩ (m_X11_records l D ct S ws_30 m mw ma mf m0 m1 mu mv u0 u1 iz mb th mn mpt mbg mwr mwk mlf men f G cx p1 (1 : Int32) _ hT h_mu h_mv h_u0 h_u1 h_mb hR hc) (cm_V 2 hts kc_X11_records ki_RX11 kl_RX11_268 kv_X11_records kx_X11_records kd_X11_records ⟨Nat.le_of_ble_eq_true rfl, Nat.le_of_ble_eq_true rfl⟩) (ty_preE (wr := []) (wc := ([(m, .inr (11, [.ref mw, .ref ma, .ref mf, .ref m0, .ref m1, .ref mu, .ref mv, .ref u0, .ref u1, .ref iz, .int th, .ref mb, .int mn, .int mpt, .int mbg, .int mwr, .int mwk, .int mlf, .int men])), (mw, .inl (ct 0, 958, .inl f))] ++ ws_30)) (ci := 11) (q0 := 0) hP hK hD hS hA hX rfl rfl) rfl rfl hl.1 rfl (lv_room (Nat.le_of_ble_eq_true rfl)) dX11_ends_79 ⟨Nat.le_of_ble_eq_true rfl, Nat.le_of_ble_eq_true rfl⟩) hP hD hS hA (fun u H locs hw_47 hP hD hS => ?_)
            obtain ⟨ws_48, f1_49⟩ := u
            obtain ⟨hT, hp_50⟩ := hw_47
            have hp_50 : rf_R G cx f1_49 ∧ rf_sm f f1_49 := hp_50
            have hR_51 := hp_50.1
            have hM_52 := rf_smt (rf_smr f) hp_50.2.1
            have hP : va_P D vwCl ([(m, .inr (11, [.ref mw, .ref ma, .ref mf, .ref m0, .ref m1, .ref mu, .ref mv, .ref u0, .ref u1, .ref iz, .int th, .ref mb, .int mn, .int mpt, .int mbg, .int mwr, .int mwk, .int mlf, .int men])), (mw, .inl (ct 0, 958, .inl f1_49))] ++ ws_48) H := hP
            have hD : va_D A ([(m, .inr (11, [.ref mw, .ref ma, .ref mf, .ref m0, .ref m1, .ref mu, .ref mv, .ref u0, .ref u1, .ref iz, .int th, .ref mb, .int mn, .int mpt, .int mbg, .int mwr, .int mwk, .int mlf, .int men])), (mw, .inl (ct 0, 958, .inl f1_49))] ++ ws_48) := hD
            refine lv_iload_n hx hb dX11_ends_82 rfl (lv_at hl 0 rfl) ?_
            refine lv_if_eq (tgt := 108) hx hb dX11_ends_83 (by decide) (fun hc => absurd hc (by decide)) (fun _ => ?_)
            refine lv_aload_n hx hb dX11_ends_86 rfl (lv_at hl 2 rfl) ?_
            refine lv_iload_n hx hb dX11_ends_87 rfl (lv_at hl 3 rfl) ?_
            refine lv_bipush (v := 20) hx hb dX11_ends_88 (by decide) ?_
            refine lv_aload_n hx hb dX11_ends_90 rfl (lv_at hl 2 rfl) ?_
            refine lv_iload_n hx hb dX11_ends_91 rfl (lv_at hl 3 rfl) ?_
            refine lv_iconst (v := 1) hx hb dX11_ends_92 (by decide) ?_
            have hP : va_P D vwCl ([(mw, .inl (ct 0, 958, .inl f1_49)), (m, .inr (11, [.ref mw, .ref ma, .ref mf, .ref m0, .ref m1, .ref mu, .ref mv, .ref u0, .ref u1, .ref iz, .int th, .ref mb, .int mn, .int mpt, .int mbg, .int mwr, .int mwk, .int mlf, .int men]))] ++ ws_48) H := ty_permP hP (ty_ordp (E := [(m, .inr (11, [.ref mw, .ref ma, .ref mf, .ref m0, .ref m1, .ref mu, .ref mv, .ref u0, .ref u1, .ref iz, .int th, .ref mb, .int mn, .int mpt, .int mbg, .int mwr, .int mwk, .int mlf, .int men])), (mw, .inl (ct 0, 958, .inl f1_49))]) (E2 := [(mw, .inl (ct 0, 958, .inl f1_49)), (m, .inr (11, [.ref mw, .ref ma, .ref mf, .ref m0, .ref m1, .ref mu, .ref mv, .ref u0, .ref u1, .ref iz, .int th, .ref mb, .int mn, .int mpt, .int mbg, .int mwr, .int mwk, .int mlf, .int men]))]) [1, 0] rfl rfl (by decide))
            have hD : va_D A ([(mw, .inl (ct 0, 958, .inl f1_49)), (m, .inr (11, [.ref mw, .ref ma, .ref mf, .ref m0, .ref m1, .ref mu, .ref mv, .ref u0, .ref u1, .ref iz, .int th, .ref mb, .int mn, .int mpt, .int mbg, .int mwr, .int mwk, .int mlf, .int men]))] ++ ws_48) := ty_permD hD (ty_ordp (E := [(m, .inr (11, [.ref mw, .ref ma, .ref mf, .ref m0, .ref m1, .ref mu, .ref mv, .ref u0, .ref u1, .ref iz, .int th, .ref mb, .int mn, .int mpt, .int mbg, .int mwr, .int mwk, .int mlf, .int men])), (mw, .inl (ct 0, 958, .inl f1_49))]) (E2 := [(mw, .inl (ct 0, 958, .inl f1_49)), (m, .inr (11, [.ref mw, .ref ma, .ref mf, .ref m0, .ref m1, .ref mu, .ref mv, .ref u0, .ref u1, .ref iz, .int th, .ref mb, .int mn, .int mpt, .int mbg, .int mwr, .int mwk, .int mlf, .int men]))]) [1, 0] rfl rfl (by decide))
            refine ty_kl (wr := [(mw, .inl (ct 0, 958, .inl f1_49))]) (wc := ([(m, .inr (11, [.ref mw, .ref ma, .ref mf, .ref m0, .ref m1, .ref mu, .ref mv, .ref u0, .ref u1, .ref iz, .int th, .ref mb, .int mn, .int mpt, .int mbg, .int mwr, .int mwk, .int mlf, .int men]))] ++ ws_48)) (va_runV (As := [.int p1, .int 1]) (rest := [.int 20, .int p1, .ref m]) ⟨hx, hb, hml, hown, hts⟩ (m_X11_sum l D ct S ws_48 m mw ma mf m0 m1 mu mv u0 u1 iz mb th mn mpt mbg mwr mwk mlf men p1 (1 : Int32) _ hT h_mu h_mv h_u0 h_u1 h_mb (rf_c6 hR_51 hc) (by decide)) (cm_V 2 hts kc_X11_sum ki_RX11 kl_RX11_261 kv_X11_sum kx_X11_sum kd_X11_sum ⟨Nat.le_of_ble_eq_true rfl, Nat.le_of_ble_eq_true rfl⟩) (ty_preE (wr := [(mw, .inl (ct 0, 958, .inl f1_49))]) (wc := ([(m, .inr (11, [.ref mw, .ref ma, .ref mf, .ref m0, .ref m1, .ref mu, .ref mv, .ref u0, .ref u1, .ref iz, .int th, .ref mb, .int mn, .int mpt, .int mbg, .int mwr, .int mwk, .int mlf, .int men]))] ++ ws_48)) (ci := 11) (q0 := 1) hP hK hD hS hA hX rfl rfl) rfl rfl hl.1 rfl (lv_room (Nat.le_of_ble_eq_true rfl)) dX11_ends_93 ⟨Nat.le_of_ble_eq_true rfl, Nat.le_of_ble_eq_true rfl⟩) hP hD hS hA (fun r_53 u H locs hw_54 hP hD hS => ?_)
            obtain ⟨ws_55, rfl⟩ : ∃ z, z = u := ⟨_, rfl⟩
            have hT := hw_54
            have hP : va_P D vwCl ([(mw, .inl (ct 0, 958, .inl f1_49)), (m, .inr (11, [.ref mw, .ref ma, .ref mf, .ref m0, .ref m1, .ref mu, .ref mv, .ref u0, .ref u1, .ref iz, .int th, .ref mb, .int mn, .int mpt, .int mbg, .int mwr, .int mwk, .int mlf, .int men]))] ++ ws_55) H := hP
            have hD : va_D A ([(mw, .inl (ct 0, 958, .inl f1_49)), (m, .inr (11, [.ref mw, .ref ma, .ref mf, .ref m0, .ref m1, .ref mu, .ref mv, .ref u0, .ref u1, .ref iz, .int th, .ref mb, .int mn, .int mpt, .int mbg, .int mwr, .int mwk, .int mlf, .int men]))] ++ ws_55) := hD
            refine lv_aload_n hx hb dX11_ends_96 rfl (lv_at hl 2 rfl) ?_
            refine lv_iload_n hx hb dX11_ends_97 rfl (lv_at hl 3 rfl) ?_
            refine lv_bipush (v := 6) hx hb dX11_ends_98 (by decide) ?_
            refine ty_kl (wr := [(mw, .inl (ct 0, 958, .inl f1_49))]) (wc := ([(m, .inr (11, [.ref mw, .ref ma, .ref mf, .ref m0, .ref m1, .ref mu, .ref mv, .ref u0, .ref u1, .ref iz, .int th, .ref mb, .int mn, .int mpt, .int mbg, .int mwr, .int mwk, .int mlf, .int men]))] ++ ws_55)) (va_runV (As := [.int p1, .int 6]) (rest := [.long r_53, .int 20, .int p1, .ref m]) ⟨hx, hb, hml, hown, hts⟩ (m_X11_sum l D ct S ws_55 m mw ma mf m0 m1 mu mv u0 u1 iz mb th mn mpt mbg mwr mwk mlf men p1 (6 : Int32) _ hT h_mu h_mv h_u0 h_u1 h_mb (rf_c6 hR_51 hc) (by decide)) (cm_V 2 hts kc_X11_sum ki_RX11 kl_RX11_261 kv_X11_sum kx_X11_sum kd_X11_sum ⟨Nat.le_of_ble_eq_true rfl, Nat.le_of_ble_eq_true rfl⟩) (ty_preE (wr := [(mw, .inl (ct 0, 958, .inl f1_49))]) (wc := ([(m, .inr (11, [.ref mw, .ref ma, .ref mf, .ref m0, .ref m1, .ref mu, .ref mv, .ref u0, .ref u1, .ref iz, .int th, .ref mb, .int mn, .int mpt, .int mbg, .int mwr, .int mwk, .int mlf, .int men]))] ++ ws_55)) (ci := 11) (q0 := 1) hP hK hD hS hA hX rfl rfl) rfl rfl hl.1 rfl (lv_room (Nat.le_of_ble_eq_true rfl)) dX11_ends_100 ⟨Nat.le_of_ble_eq_true rfl, Nat.le_of_ble_eq_true rfl⟩) hP hD hS hA (fun r_56 u H locs hw_57 hP hD hS => ?_)
            obtain ⟨ws_58, rfl⟩ : ∃ z, z = u := ⟨_, rfl⟩
            have hT := hw_57
            have hP : va_P D vwCl ([(mw, .inl (ct 0, 958, .inl f1_49)), (m, .inr (11, [.ref mw, .ref ma, .ref mf, .ref m0, .ref m1, .ref mu, .ref mv, .ref u0, .ref u1, .ref iz, .int th, .ref mb, .int mn, .int mpt, .int mbg, .int mwr, .int mwk, .int mlf, .int men]))] ++ ws_58) H := hP
            have hD : va_D A ([(mw, .inl (ct 0, 958, .inl f1_49)), (m, .inr (11, [.ref mw, .ref ma, .ref mf, .ref m0, .ref m1, .ref mu, .ref mv, .ref u0, .ref u1, .ref iz, .int th, .ref mb, .int mn, .int mpt, .int mbg, .int mwr, .int mwk, .int mlf, .int men]))] ++ ws_58) := hD
            refine lv_lsub hx hb dX11_ends_103 ?_
            refine lv_topl (fun x_59 _ => ?_)
            refine lv_l2i hx hb dX11_ends_104 rfl ?_
            refine lv_topi (fun x_60 _ => ?_)
            have hP : va_P D vwCl ([(m, .inr (11, [.ref mw, .ref ma, .ref mf, .ref m0, .ref m1, .ref mu, .ref mv, .ref u0, .ref u1, .ref iz, .int th, .ref mb, .int mn, .int mpt, .int mbg, .int mwr, .int mwk, .int mlf, .int men])), (mw, .inl (ct 0, 958, .inl f1_49))] ++ ws_58) H := ty_permP hP (ty_ordp (E := [(mw, .inl (ct 0, 958, .inl f1_49)), (m, .inr (11, [.ref mw, .ref ma, .ref mf, .ref m0, .ref m1, .ref mu, .ref mv, .ref u0, .ref u1, .ref iz, .int th, .ref mb, .int mn, .int mpt, .int mbg, .int mwr, .int mwk, .int mlf, .int men]))]) (E2 := [(m, .inr (11, [.ref mw, .ref ma, .ref mf, .ref m0, .ref m1, .ref mu, .ref mv, .ref u0, .ref u1, .ref iz, .int th, .ref mb, .int mn, .int mpt, .int mbg, .int mwr, .int mwk, .int mlf, .int men])), (mw, .inl (ct 0, 958, .inl f1_49))]) [1, 0] rfl rfl (by decide))
            have hD : va_D A ([(m, .inr (11, [.ref mw, .ref ma, .ref mf, .ref m0, .ref m1, .ref mu, .ref mv, .ref u0, .ref u1, .ref iz, .int th, .ref mb, .int mn, .int mpt, .int mbg, .int mwr, .int mwk, .int mlf, .int men])), (mw, .inl (ct 0, 958, .inl f1_49))] ++ ws_58) := ty_permD hD (ty_ordp (E := [(mw, .inl (ct 0, 958, .inl f1_49)), (m, .inr (11, [.ref mw, .ref ma, .ref mf, .ref m0, .ref m1, .ref mu, .ref mv, .ref u0, .ref u1, .ref iz, .int th, .ref mb, .int mn, .int mpt, .int mbg, .int mwr, .int mwk, .int mlf, .int men]))]) (E2 := [(m, .inr (11, [.ref mw, .ref ma, .ref mf, .ref m0, .ref m1, .ref mu, .ref mv, .ref u0, .ref u1, .ref iz, .int th, .ref mb, .int mn, .int mpt, .int mbg, .int mwr, .int mwk, .int mlf, .int men])), (mw, .inl (ct 0, 958, .inl f1_49))]) [1, 0] rfl rfl (by decide))
            refine ty_kv (wr := []) (wc := ([(m, .inr (11, [.ref mw, .ref ma, .ref mf, .ref m0, .ref m1, .ref mu, .ref mv, .ref u0, .ref u1, .ref iz, .int th, .ref mb, .int mn, .int mpt, .int mbg, .int mwr, .int mwk, .int mlf, .int men])), (mw, .inl (ct 0, 958, .inl f1_49))] ++ ws_58)) (va_runV (As := [.int p1, .int 20, .int x_60]) (rest := []) ⟨hx, hb, hml, hown, hts⟩ (m_put_20 l D ct S ws_58 m mw ma mf m0 m1 mu mv u0 u1 iz mb th mn mpt mbg mwr mwk mlf men f1_49 G cx p1 x_60 _ hT h_mu h_mv h_u0 h_u1 h_mb hR_51 hc) (cm_V 3 hts kc_X11_put ki_RX11 kl_RX11_234 kv_X11_put kx_X11_put kd_X11_put ⟨Nat.le_of_ble_eq_true rfl, Nat.le_of_ble_eq_true rfl⟩) (ty_preE (wr := []) (wc := ([(m, .inr (11, [.ref mw, .ref ma, .ref mf, .ref m0, .ref m1, .ref mu, .ref mv, .ref u0, .ref u1, .ref iz, .int th, .ref mb, .int mn, .int mpt, .int mbg, .int mwr, .int mwk, .int mlf, .int men])), (mw, .inl (ct 0, 958, .inl f1_49))] ++ ws_58)) (ci := 11) (q0 := 0) hP hK hD hS hA hX rfl rfl) rfl rfl hl.1 rfl (lv_room (Nat.le_of_ble_eq_true rfl)) dX11_ends_105 ⟨Nat.le_of_ble_eq_true rfl, Nat.le_of_ble_eq_true rfl⟩) hP hD hS hA (fun u H locs hw_62 hP hD hS => ?_)
            obtain ⟨ws_63, f1_64⟩ := u
            obtain ⟨hT, hp_65⟩ := hw_62
            have hp_65 : rf_R G cx f1_64 ∧ rf_sm f1_49 f1_64 ∧ f1_64 = upd f1_49 (244 + 54 * p1.toInt.toNat + 20) x_60 := hp_65
            have hR_66 := hp_65.1
            have hM_67 := rf_smt hM_52 hp_65.2.1
            have hP : va_P D vwCl ([(m, .inr (11, [.ref mw, .ref ma, .ref mf, .ref m0, .ref m1, .ref mu, .ref mv, .ref u0, .ref u1, .ref iz, .int th, .ref mb, .int mn, .int mpt, .int mbg, .int mwr, .int mwk, .int mlf, .int men])), (mw, .inl (ct 0, 958, .inl f1_64))] ++ ws_63) H := hP
            have hD : va_D A ([(m, .inr (11, [.ref mw, .ref ma, .ref mf, .ref m0, .ref m1, .ref mu, .ref mv, .ref u0, .ref u1, .ref iz, .int th, .ref mb, .int mn, .int mpt, .int mbg, .int mwr, .int mwk, .int mlf, .int men])), (mw, .inl (ct 0, 958, .inl f1_64))] ++ ws_63) := hD
            refine lv_aload_n hx hb dX11_ends_108 rfl (lv_at hl 2 rfl) ?_
            refine lv_iload_n hx hb dX11_ends_109 rfl (lv_at hl 3 rfl) ?_
            refine ty_kv (wr := []) (wc := ([(m, .inr (11, [.ref mw, .ref ma, .ref mf, .ref m0, .ref m1, .ref mu, .ref mv, .ref u0, .ref u1, .ref iz, .int th, .ref mb, .int mn, .int mpt, .int mbg, .int mwr, .int mwk, .int mlf, .int men])), (mw, .inl (ct 0, 958, .inl f1_64))] ++ ws_63)) (va_runV (As := [.int p1]) (rest := []) ⟨hx, hb, hml, hown, hts⟩ (m_X11_clears l D ct S ws_63 m mw ma mf m0 m1 mu mv u0 u1 iz mb th mn mpt mbg mwr mwk mlf men f1_64 G cx p1 _ hT h_mu h_mv h_u0 h_u1 h_mb hR_66 hc) (cm_V 1 hts kc_X11_clears ki_RX11 kl_RX11_272 kv_X11_clears kx_X11_clears kd_X11_clears ⟨Nat.le_of_ble_eq_true rfl, Nat.le_of_ble_eq_true rfl⟩) (ty_preE (wr := []) (wc := ([(m, .inr (11, [.ref mw, .ref ma, .ref mf, .ref m0, .ref m1, .ref mu, .ref mv, .ref u0, .ref u1, .ref iz, .int th, .ref mb, .int mn, .int mpt, .int mbg, .int mwr, .int mwk, .int mlf, .int men])), (mw, .inl (ct 0, 958, .inl f1_64))] ++ ws_63)) (ci := 11) (q0 := 0) hP hK hD hS hA hX rfl rfl) rfl rfl hl.1 rfl (lv_room (Nat.le_of_ble_eq_true rfl)) dX11_ends_110 ⟨Nat.le_of_ble_eq_true rfl, Nat.le_of_ble_eq_true rfl⟩) hP hD hS hA (fun u H locs hw_69 hP hD hS => ?_)
            obtain ⟨ws_70, f1_71⟩ := u
            obtain ⟨hT, hp_72⟩ := hw_69
            have hp_72 : rf_R G cx f1_71 ∧ rf_sm f1_64 f1_71 := hp_72
            have hR_73 := hp_72.1
            have hM_74 := rf_smt hM_67 hp_72.2.1
            have hP : va_P D vwCl ([(m, .inr (11, [.ref mw, .ref ma, .ref mf, .ref m0, .ref m1, .ref mu, .ref mv, .ref u0, .ref u1, .ref iz, .int th, .ref mb, .int mn, .int mpt, .int mbg, .int mwr, .int mwk, .int mlf, .int men])), (mw, .inl (ct 0, 958, .inl f1_71))] ++ ws_70) H := hP
            have hD : va_D A ([(m, .inr (11, [.ref mw, .ref ma, .ref mf, .ref m0, .ref m1, .ref mu, .ref mv, .ref u0, .ref u1, .ref iz, .int th, .ref mb, .int mn, .int mpt, .int mbg, .int mwr, .int mwk, .int mlf, .int men])), (mw, .inl (ct 0, 958, .inl f1_71))] ++ ws_70) := hD
            exact W.vret hx hb hr (fun t ht hW => ⟨⟨(ws_70, f1_71), rfl, ⟨hT, ⟨hR_73, hM_74⟩⟩, by rw [ht]; exact hP, by rw [hAe]; exact hD⟩, hS.F ht⟩) hS.2.2 dX11_ends_113
      · exact W.vret hx hb hr (fun t ht hW => ⟨⟨(ws_3, f), rfl, ⟨hT, ⟨hR, (rf_smr f)⟩⟩, by rw [ht]; exact hP, by rw [hAe]; exact hD⟩, hS.F ht⟩) hS.2.2 dX11_ends_43
    · refine lv_aload_n hx hb dX11_ends_25 rfl (lv_at hl 1 rfl) ?_
      refine lv_iload_n hx hb dX11_ends_26 rfl (lv_at hl 2 rfl) ?_
      refine lv_bipush (v := 19) hx hb dX11_ends_27 (by decide) ?_
      refine lv_aload_n hx hb dX11_ends_29 rfl (lv_at hl 1 rfl) ?_
      refine lv_iload_n hx hb dX11_ends_30 rfl (lv_at hl 2 rfl) ?_
      refine lv_iconst (v := 5) hx hb dX11_ends_31 (by decide) ?_
      refine ty_ki (wr := []) (wc := ([(m, .inr (11, [.ref mw, .ref ma, .ref mf, .ref m0, .ref m1, .ref mu, .ref mv, .ref u0, .ref u1, .ref iz, .int th, .ref mb, .int mn, .int mpt, .int mbg, .int mwr, .int mwk, .int mlf, .int men])), (mw, .inl (ct 0, 958, .inl f))] ++ ws_3)) (va_runV (As := [.int p1, .int 5]) (rest := [.int 19, .int p1, .ref m]) ⟨hx, hb, hml, hown, hts⟩ (m_of_5 l D ct S ws_3 m mw ma mf m0 m1 mu mv u0 u1 iz mb th mn mpt mbg mwr mwk mlf men f G cx p1 _ hT h_mu h_mv h_u0 h_u1 h_mb hR hc) (cm_V 2 hts kc_X11_of ki_RX11 kl_RX11_209 kv_X11_of kx_X11_of kd_X11_of ⟨Nat.le_of_ble_eq_true rfl, Nat.le_of_ble_eq_true rfl⟩) (ty_preE (wr := []) (wc := ([(m, .inr (11, [.ref mw, .ref ma, .ref mf, .ref m0, .ref m1, .ref mu, .ref mv, .ref u0, .ref u1, .ref iz, .int th, .ref mb, .int mn, .int mpt, .int mbg, .int mwr, .int mwk, .int mlf, .int men])), (mw, .inl (ct 0, 958, .inl f))] ++ ws_3)) (ci := 11) (q0 := 0) hP hK hD hS hA hX rfl rfl) rfl rfl hl.1 rfl (lv_room (Nat.le_of_ble_eq_true rfl)) dX11_ends_32 ⟨Nat.le_of_ble_eq_true rfl, Nat.le_of_ble_eq_true rfl⟩) hP hD hS hA (fun r_75 u H locs hw_76 hP hD hS => ?_)
      obtain ⟨ws_77, rfl⟩ : ∃ z, z = u := ⟨_, rfl⟩
      obtain ⟨hT, rfl⟩ := hw_76
      have hP : va_P D vwCl ([(m, .inr (11, [.ref mw, .ref ma, .ref mf, .ref m0, .ref m1, .ref mu, .ref mv, .ref u0, .ref u1, .ref iz, .int th, .ref mb, .int mn, .int mpt, .int mbg, .int mwr, .int mwk, .int mlf, .int men])), (mw, .inl (ct 0, 958, .inl f))] ++ ws_77) H := hP
      have hD : va_D A ([(m, .inr (11, [.ref mw, .ref ma, .ref mf, .ref m0, .ref m1, .ref mu, .ref mv, .ref u0, .ref u1, .ref iz, .int th, .ref mb, .int mn, .int mpt, .int mbg, .int mwr, .int mwk, .int mlf, .int men])), (mw, .inl (ct 0, 958, .inl f))] ++ ws_77) := hD
      refine ty_kv (wr := []) (wc := ([(m, .inr (11, [.ref mw, .ref ma, .ref mf, .ref m0, .ref m1, .ref mu, .ref mv, .ref u0, .ref u1, .ref iz, .int th, .ref mb, .int mn, .int mpt, .int mbg, .int mwr, .int mwk, .int mlf, .int men])), (mw, .inl (ct 0, 958, .inl f))] ++ ws_77)) (va_runV (As := [.int p1, .int 19, .int (rf_of f p1 5)]) (rest := []) ⟨hx, hb, hml, hown, hts⟩ (m_put_19 l D ct S ws_77 m mw ma mf m0 m1 mu mv u0 u1 iz mb th mn mpt mbg mwr mwk mlf men f G cx p1 (rf_of f p1 5) _ hT h_mu h_mv h_u0 h_u1 h_mb hR hc) (cm_V 3 hts kc_X11_put ki_RX11 kl_RX11_234 kv_X11_put kx_X11_put kd_X11_put ⟨Nat.le_of_ble_eq_true rfl, Nat.le_of_ble_eq_true rfl⟩) (ty_preE (wr := []) (wc := ([(m, .inr (11, [.ref mw, .ref ma, .ref mf, .ref m0, .ref m1, .ref mu, .ref mv, .ref u0, .ref u1, .ref iz, .int th, .ref mb, .int mn, .int mpt, .int mbg, .int mwr, .int mwk, .int mlf, .int men])), (mw, .inl (ct 0, 958, .inl f))] ++ ws_77)) (ci := 11) (q0 := 0) hP hK hD hS hA hX rfl rfl) rfl rfl hl.1 rfl (lv_room (Nat.le_of_ble_eq_true rfl)) dX11_ends_35 ⟨Nat.le_of_ble_eq_true rfl, Nat.le_of_ble_eq_true rfl⟩) hP hD hS hA (fun u H locs hw_79 hP hD hS => ?_)
      obtain ⟨ws_80, f1_81⟩ := u
      obtain ⟨hT, hp_82⟩ := hw_79
      have hp_82 : rf_R G cx f1_81 ∧ rf_sm f f1_81 ∧ f1_81 = upd f (244 + 54 * p1.toInt.toNat + 19) (rf_of f p1 5) := hp_82
      have hR_83 := hp_82.1
      have hM_84 := rf_smt (rf_smr f) hp_82.2.1
      have hP : va_P D vwCl ([(m, .inr (11, [.ref mw, .ref ma, .ref mf, .ref m0, .ref m1, .ref mu, .ref mv, .ref u0, .ref u1, .ref iz, .int th, .ref mb, .int mn, .int mpt, .int mbg, .int mwr, .int mwk, .int mlf, .int men])), (mw, .inl (ct 0, 958, .inl f1_81))] ++ ws_80) H := hP
      have hD : va_D A ([(m, .inr (11, [.ref mw, .ref ma, .ref mf, .ref m0, .ref m1, .ref mu, .ref mv, .ref u0, .ref u1, .ref iz, .int th, .ref mb, .int mn, .int mpt, .int mbg, .int mwr, .int mwk, .int mlf, .int men])), (mw, .inl (ct 0, 958, .inl f1_81))] ++ ws_80) := hD
      refine lv_iload_n hx hb dX11_ends_38 rfl (lv_at hl 0 rfl) ?_
      refine lv_iconst (v := 2) hx hb dX11_ends_39 (by decide) ?_
      refine lv_icmp_eq (tgt := 44) hx hb dX11_ends_40 (by decide) (fun hc_85 => ?_) (fun hc_85 => ?_)
      · refine lv_aload_n hx hb dX11_ends_44 rfl (lv_at hl 1 rfl) ?_
        refine lv_iload_n hx hb dX11_ends_45 rfl (lv_at hl 2 rfl) ?_
        refine lv_bipush (v := 21) hx hb dX11_ends_46 (by decide) ?_
        refine ty_ki (wr := []) (wc := ([(m, .inr (11, [.ref mw, .ref ma, .ref mf, .ref m0, .ref m1, .ref mu, .ref mv, .ref u0, .ref u1, .ref iz, .int th, .ref mb, .int mn, .int mpt, .int mbg, .int mwr, .int mwk, .int mlf, .int men])), (mw, .inl (ct 0, 958, .inl f1_81))] ++ ws_80)) (va_runV (As := [.int p1, .int 21]) (rest := []) ⟨hx, hb, hml, hown, hts⟩ (m_of_21 l D ct S ws_80 m mw ma mf m0 m1 mu mv u0 u1 iz mb th mn mpt mbg mwr mwk mlf men f1_81 G cx p1 _ hT h_mu h_mv h_u0 h_u1 h_mb hR_83 hc) (cm_V 2 hts kc_X11_of ki_RX11 kl_RX11_209 kv_X11_of kx_X11_of kd_X11_of ⟨Nat.le_of_ble_eq_true rfl, Nat.le_of_ble_eq_true rfl⟩) (ty_preE (wr := []) (wc := ([(m, .inr (11, [.ref mw, .ref ma, .ref mf, .ref m0, .ref m1, .ref mu, .ref mv, .ref u0, .ref u1, .ref iz, .int th, .ref mb, .int mn, .int mpt, .int mbg, .int mwr, .int mwk, .int mlf, .int men])), (mw, .inl (ct 0, 958, .inl f1_81))] ++ ws_80)) (ci := 11) (q0 := 0) hP hK hD hS hA hX rfl rfl) rfl rfl hl.1 rfl (lv_room (Nat.le_of_ble_eq_true rfl)) dX11_ends_48 ⟨Nat.le_of_ble_eq_true rfl, Nat.le_of_ble_eq_true rfl⟩) hP hD hS hA (fun r_86 u H locs hw_87 hP hD hS => ?_)
        obtain ⟨ws_88, rfl⟩ : ∃ z, z = u := ⟨_, rfl⟩
        obtain ⟨hT, rfl⟩ := hw_87
        have hP : va_P D vwCl ([(m, .inr (11, [.ref mw, .ref ma, .ref mf, .ref m0, .ref m1, .ref mu, .ref mv, .ref u0, .ref u1, .ref iz, .int th, .ref mb, .int mn, .int mpt, .int mbg, .int mwr, .int mwk, .int mlf, .int men])), (mw, .inl (ct 0, 958, .inl f1_81))] ++ ws_88) H := hP
        have hD : va_D A ([(m, .inr (11, [.ref mw, .ref ma, .ref mf, .ref m0, .ref m1, .ref mu, .ref mv, .ref u0, .ref u1, .ref iz, .int th, .ref mb, .int mn, .int mpt, .int mbg, .int mwr, .int mwk, .int mlf, .int men])), (mw, .inl (ct 0, 958, .inl f1_81))] ++ ws_88) := hD
        refine lv_iconst (v := 1) hx hb dX11_ends_51 (by decide) ?_
        refine lv_icmp_ne (tgt := 74) hx hb dX11_ends_52 (by decide) (fun hc_89 => ?_) (fun hc_89 => ?_)
        · refine lv_iconst (v := 0) hx hb dX11_ends_74 (by decide) ?_
          refine lv_istore_n (lv' := [(3, .int 0), (2, .int (rf_st3 f p1 0)), (0, .ref m), (1, .int p1)]) hx hb dX11_ends_75 rfl hl (by decide) rfl (fun ls hl => ?_)
          refine lv_aload_n hx hb dX11_ends_76 rfl (lv_at hl 2 rfl) ?_
          refine lv_iload_n hx hb dX11_ends_77 rfl (lv_at hl 3 rfl) ?_
          refine lv_iload_n hx hb dX11_ends_78 rfl (lv_at hl 0 rfl) ?_
          refine ty_kv (wr := []) (wc := ([(m, .inr (11, [.ref mw, .ref ma, .ref mf, .ref m0, .ref m1, .ref mu, .ref mv, .ref u0, .ref u1, .ref iz, .int th, .ref mb, .int mn, .int mpt, .int mbg, .int mwr, .int mwk, .int mlf, .int men])), (mw, .inl (ct 0, 958, .inl f1_81))] ++ ws_88)) (va_runV (As := [.int p1, .int 0]) (rest := []) ⟨hx, hb, hml, hown, hts⟩ (m_X11_records l D ct S ws_88 m mw ma mf m0 m1 mu mv u0 u1 iz mb th mn mpt mbg mwr mwk mlf men f1_81 G cx p1 (0 : Int32) _ hT h_mu h_mv h_u0 h_u1 h_mb hR_83 hc) (cm_V 2 hts kc_X11_records ki_RX11 kl_RX11_268 kv_X11_records kx_X11_records kd_X11_records ⟨Nat.le_of_ble_eq_true rfl, Nat.le_of_ble_eq_true rfl⟩) (ty_preE (wr := []) (wc := ([(m, .inr (11, [.ref mw, .ref ma, .ref mf, .ref m0, .ref m1, .ref mu, .ref mv, .ref u0, .ref u1, .ref iz, .int th, .ref mb, .int mn, .int mpt, .int mbg, .int mwr, .int mwk, .int mlf, .int men])), (mw, .inl (ct 0, 958, .inl f1_81))] ++ ws_88)) (ci := 11) (q0 := 0) hP hK hD hS hA hX rfl rfl) rfl rfl hl.1 rfl (lv_room (Nat.le_of_ble_eq_true rfl)) dX11_ends_79 ⟨Nat.le_of_ble_eq_true rfl, Nat.le_of_ble_eq_true rfl⟩) hP hD hS hA (fun u H locs hw_91 hP hD hS => ?_)
          obtain ⟨ws_92, f1_93⟩ := u
          obtain ⟨hT, hp_94⟩ := hw_91
          have hp_94 : rf_R G cx f1_93 ∧ rf_sm f1_81 f1_93 := hp_94
          have hR_95 := hp_94.1
          have hM_96 := rf_smt hM_84 hp_94.2.1
          have hP : va_P D vwCl ([(m, .inr (11, [.ref mw, .ref ma, .ref mf, .ref m0, .ref m1, .ref mu, .ref mv, .ref u0, .ref u1, .ref iz, .int th, .ref mb, .int mn, .int mpt, .int mbg, .int mwr, .int mwk, .int mlf, .int men])), (mw, .inl (ct 0, 958, .inl f1_93))] ++ ws_92) H := hP
          have hD : va_D A ([(m, .inr (11, [.ref mw, .ref ma, .ref mf, .ref m0, .ref m1, .ref mu, .ref mv, .ref u0, .ref u1, .ref iz, .int th, .ref mb, .int mn, .int mpt, .int mbg, .int mwr, .int mwk, .int mlf, .int men])), (mw, .inl (ct 0, 958, .inl f1_93))] ++ ws_92) := hD
          refine lv_iload_n hx hb dX11_ends_82 rfl (lv_at hl 0 rfl) ?_
          refine lv_if_eq (tgt := 108) hx hb dX11_ends_83 (by decide) (fun _ => ?_) (fun hc => absurd (by decide) hc)
          refine lv_aload_n hx hb dX11_ends_108 rfl (lv_at hl 2 rfl) ?_
          refine lv_iload_n hx hb dX11_ends_109 rfl (lv_at hl 3 rfl) ?_
          refine ty_kv (wr := []) (wc := ([(m, .inr (11, [.ref mw, .ref ma, .ref mf, .ref m0, .ref m1, .ref mu, .ref mv, .ref u0, .ref u1, .ref iz, .int th, .ref mb, .int mn, .int mpt, .int mbg, .int mwr, .int mwk, .int mlf, .int men])), (mw, .inl (ct 0, 958, .inl f1_93))] ++ ws_92)) (va_runV (As := [.int p1]) (rest := []) ⟨hx, hb, hml, hown, hts⟩ (m_X11_clears l D ct S ws_92 m mw ma mf m0 m1 mu mv u0 u1 iz mb th mn mpt mbg mwr mwk mlf men f1_93 G cx p1 _ hT h_mu h_mv h_u0 h_u1 h_mb hR_95 hc) (cm_V 1 hts kc_X11_clears ki_RX11 kl_RX11_272 kv_X11_clears kx_X11_clears kd_X11_clears ⟨Nat.le_of_ble_eq_true rfl, Nat.le_of_ble_eq_true rfl⟩) (ty_preE (wr := []) (wc := ([(m, .inr (11, [.ref mw, .ref ma, .ref mf, .ref m0, .ref m1, .ref mu, .ref mv, .ref u0, .ref u1, .ref iz, .int th, .ref mb, .int mn, .int mpt, .int mbg, .int mwr, .int mwk, .int mlf, .int men])), (mw, .inl (ct 0, 958, .inl f1_93))] ++ ws_92)) (ci := 11) (q0 := 0) hP hK hD hS hA hX rfl rfl) rfl rfl hl.1 rfl (lv_room (Nat.le_of_ble_eq_true rfl)) dX11_ends_110 ⟨Nat.le_of_ble_eq_true rfl, Nat.le_of_ble_eq_true rfl⟩) hP hD hS hA (fun u H locs hw_98 hP hD hS => ?_)
          obtain ⟨ws_99, f1_100⟩ := u
          obtain ⟨hT, hp_101⟩ := hw_98
          have hp_101 : rf_R G cx f1_100 ∧ rf_sm f1_93 f1_100 := hp_101
          have hR_102 := hp_101.1
          have hM_103 := rf_smt hM_96 hp_101.2.1
          have hP : va_P D vwCl ([(m, .inr (11, [.ref mw, .ref ma, .ref mf, .ref m0, .ref m1, .ref mu, .ref mv, .ref u0, .ref u1, .ref iz, .int th, .ref mb, .int mn, .int mpt, .int mbg, .int mwr, .int mwk, .int mlf, .int men])), (mw, .inl (ct 0, 958, .inl f1_100))] ++ ws_99) H := hP
          have hD : va_D A ([(m, .inr (11, [.ref mw, .ref ma, .ref mf, .ref m0, .ref m1, .ref mu, .ref mv, .ref u0, .ref u1, .ref iz, .int th, .ref mb, .int mn, .int mpt, .int mbg, .int mwr, .int mwk, .int mlf, .int men])), (mw, .inl (ct 0, 958, .inl f1_100))] ++ ws_99) := hD
          exact W.vret hx hb hr (fun t ht hW => ⟨⟨(ws_99, f1_100), rfl, ⟨hT, ⟨hR_102, hM_103⟩⟩, by rw [ht]; exact hP, by rw [hAe]; exact hD⟩, hS.F ht⟩) hS.2.2 dX11_ends_113
        · refine lv_aload_n hx hb dX11_ends_55 rfl (lv_at hl 1 rfl) ?_
          refine lv_iload_n hx hb dX11_ends_56 rfl (lv_at hl 2 rfl) ?_
          refine lv_iconst (v := 5) hx hb dX11_ends_57 (by decide) ?_
          refine ty_ki (wr := []) (wc := ([(m, .inr (11, [.ref mw, .ref ma, .ref mf, .ref m0, .ref m1, .ref mu, .ref mv, .ref u0, .ref u1, .ref iz, .int th, .ref mb, .int mn, .int mpt, .int mbg, .int mwr, .int mwk, .int mlf, .int men])), (mw, .inl (ct 0, 958, .inl f1_81))] ++ ws_88)) (va_runV (As := [.int p1, .int 5]) (rest := []) ⟨hx, hb, hml, hown, hts⟩ (m_of_5 l D ct S ws_88 m mw ma mf m0 m1 mu mv u0 u1 iz mb th mn mpt mbg mwr mwk mlf men f1_81 G cx p1 _ hT h_mu h_mv h_u0 h_u1 h_mb hR_83 hc) (cm_V 2 hts kc_X11_of ki_RX11 kl_RX11_209 kv_X11_of kx_X11_of kd_X11_of ⟨Nat.le_of_ble_eq_true rfl, Nat.le_of_ble_eq_true rfl⟩) (ty_preE (wr := []) (wc := ([(m, .inr (11, [.ref mw, .ref ma, .ref mf, .ref m0, .ref m1, .ref mu, .ref mv, .ref u0, .ref u1, .ref iz, .int th, .ref mb, .int mn, .int mpt, .int mbg, .int mwr, .int mwk, .int mlf, .int men])), (mw, .inl (ct 0, 958, .inl f1_81))] ++ ws_88)) (ci := 11) (q0 := 0) hP hK hD hS hA hX rfl rfl) rfl rfl hl.1 rfl (lv_room (Nat.le_of_ble_eq_true rfl)) dX11_ends_58 ⟨Nat.le_of_ble_eq_true rfl, Nat.le_of_ble_eq_true rfl⟩) hP hD hS hA (fun r_104 u H locs hw_105 hP hD hS => ?_)
          obtain ⟨ws_106, rfl⟩ : ∃ z, z = u := ⟨_, rfl⟩
          obtain ⟨hT, rfl⟩ := hw_105
          have hP : va_P D vwCl ([(m, .inr (11, [.ref mw, .ref ma, .ref mf, .ref m0, .ref m1, .ref mu, .ref mv, .ref u0, .ref u1, .ref iz, .int th, .ref mb, .int mn, .int mpt, .int mbg, .int mwr, .int mwk, .int mlf, .int men])), (mw, .inl (ct 0, 958, .inl f1_81))] ++ ws_106) H := hP
          have hD : va_D A ([(m, .inr (11, [.ref mw, .ref ma, .ref mf, .ref m0, .ref m1, .ref mu, .ref mv, .ref u0, .ref u1, .ref iz, .int th, .ref mb, .int mn, .int mpt, .int mbg, .int mwr, .int mwk, .int mlf, .int men])), (mw, .inl (ct 0, 958, .inl f1_81))] ++ ws_106) := hD
          refine lv_aload_n hx hb dX11_ends_61 rfl (lv_at hl 1 rfl) ?_
          refine lv_iload_n hx hb dX11_ends_62 rfl (lv_at hl 2 rfl) ?_
          refine lv_iconst (v := 2) hx hb dX11_ends_63 (by decide) ?_
          refine ty_ki (wr := []) (wc := ([(m, .inr (11, [.ref mw, .ref ma, .ref mf, .ref m0, .ref m1, .ref mu, .ref mv, .ref u0, .ref u1, .ref iz, .int th, .ref mb, .int mn, .int mpt, .int mbg, .int mwr, .int mwk, .int mlf, .int men])), (mw, .inl (ct 0, 958, .inl f1_81))] ++ ws_106)) (va_runV (As := [.int p1, .int 2]) (rest := [.int (rf_of f1_81 p1 5)]) ⟨hx, hb, hml, hown, hts⟩ (m_step_2 l D ct S ws_106 m mw ma mf m0 m1 mu mv u0 u1 iz mb th mn mpt mbg mwr mwk mlf men f1_81 G cx p1 _ hT h_mu h_mv h_u0 h_u1 h_mb hR_83 hc (by decide)) (cm_V 2 hts kc_X11_step ki_RX11 kl_RX11_228 kv_X11_step kx_X11_step kd_X11_step ⟨Nat.le_of_ble_eq_true rfl, Nat.le_of_ble_eq_true rfl⟩) (ty_preE (wr := []) (wc := ([(m, .inr (11, [.ref mw, .ref ma, .ref mf, .ref m0, .ref m1, .ref mu, .ref mv, .ref u0, .ref u1, .ref iz, .int th, .ref mb, .int mn, .int mpt, .int mbg, .int mwr, .int mwk, .int mlf, .int men])), (mw, .inl (ct 0, 958, .inl f1_81))] ++ ws_106)) (ci := 11) (q0 := 0) hP hK hD hS hA hX rfl rfl) rfl rfl hl.1 rfl (lv_room (Nat.le_of_ble_eq_true rfl)) dX11_ends_64 ⟨Nat.le_of_ble_eq_true rfl, Nat.le_of_ble_eq_true rfl⟩) hP hD hS hA (fun r_107 u H locs hw_108 hP hD hS => ?_)
          obtain ⟨ws_109, rfl⟩ : ∃ z, z = u := ⟨_, rfl⟩
          obtain ⟨hT, rfl⟩ := hw_108
          have hP : va_P D vwCl ([(m, .inr (11, [.ref mw, .ref ma, .ref mf, .ref m0, .ref m1, .ref mu, .ref mv, .ref u0, .ref u1, .ref iz, .int th, .ref mb, .int mn, .int mpt, .int mbg, .int mwr, .int mwk, .int mlf, .int men])), (mw, .inl (ct 0, 958, .inl f1_81))] ++ ws_109) H := hP
          have hD : va_D A ([(m, .inr (11, [.ref mw, .ref ma, .ref mf, .ref m0, .ref m1, .ref mu, .ref mv, .ref u0, .ref u1, .ref iz, .int th, .ref mb, .int mn, .int mpt, .int mbg, .int mwr, .int mwk, .int mlf, .int men])), (mw, .inl (ct 0, 958, .inl f1_81))] ++ ws_109) := hD
          refine lv_icmp_gt (tgt := 74) hx hb dX11_ends_67 (by decide) (fun hc_110 => ?_) (fun hc_110 => ?_)
          · refine lv_iconst (v := 0) hx hb dX11_ends_74 (by decide) ?_
            refine lv_istore_n (lv' := [(3, .int 0), (2, .int (rf_st3 f p1 0)), (0, .ref m), (1, .int p1)]) hx hb dX11_ends_75 rfl hl (by decide) rfl (fun ls hl => ?_)
            refine lv_aload_n hx hb dX11_ends_76 rfl (lv_at hl 2 rfl) ?_
            refine lv_iload_n hx hb dX11_ends_77 rfl (lv_at hl 3 rfl) ?_
            refine lv_iload_n hx hb dX11_ends_78 rfl (lv_at hl 0 rfl) ?_
            refine ty_kv (wr := []) (wc := ([(m, .inr (11, [.ref mw, .ref ma, .ref mf, .ref m0, .ref m1, .ref mu, .ref mv, .ref u0, .ref u1, .ref iz, .int th, .ref mb, .int mn, .int mpt, .int mbg, .int mwr, .int mwk, .int mlf, .int men])), (mw, .inl (ct 0, 958, .inl f1_81))] ++ ws_109)) (va_runV (As := [.int p1, .int 0]) (rest := []) ⟨hx, hb, hml, hown, hts⟩ (m_X11_records l D ct S ws_109 m mw ma mf m0 m1 mu mv u0 u1 iz mb th mn mpt mbg mwr mwk mlf men f1_81 G cx p1 (0 : Int32) _ hT h_mu h_mv h_u0 h_u1 h_mb hR_83 hc) (cm_V 2 hts kc_X11_records ki_RX11 kl_RX11_268 kv_X11_records kx_X11_records kd_X11_records ⟨Nat.le_of_ble_eq_true rfl, Nat.le_of_ble_eq_true rfl⟩) (ty_preE (wr := []) (wc := ([(m, .inr (11, [.ref mw, .ref ma, .ref mf, .ref m0, .ref m1, .ref mu, .ref mv, .ref u0, .ref u1, .ref iz, .int th, .ref mb, .int mn, .int mpt, .int mbg, .int mwr, .int mwk, .int mlf, .int men])), (mw, .inl (ct 0, 958, .inl f1_81))] ++ ws_109)) (ci := 11) (q0 := 0) hP hK hD hS hA hX rfl rfl) rfl rfl hl.1 rfl (lv_room (Nat.le_of_ble_eq_true rfl)) dX11_ends_79 ⟨Nat.le_of_ble_eq_true rfl, Nat.le_of_ble_eq_true rfl⟩) hP hD hS hA (fun u H locs hw_112 hP hD hS => ?_)
            obtain ⟨ws_113, f1_114⟩ := u
            obtain ⟨hT, hp_115⟩ := hw_112
            have hp_115 : rf_R G cx f1_114 ∧ rf_sm f1_81 f1_114 := hp_115
            have hR_116 := hp_115.1
            have hM_117 := rf_smt hM_84 hp_115.2.1
            have hP : va_P D vwCl ([(m, .inr (11, [.ref mw, .ref ma, .ref mf, .ref m0, .ref m1, .ref mu, .ref mv, .ref u0, .ref u1, .ref iz, .int th, .ref mb, .int mn, .int mpt, .int mbg, .int mwr, .int mwk, .int mlf, .int men])), (mw, .inl (ct 0, 958, .inl f1_114))] ++ ws_113) H := hP
            have hD : va_D A ([(m, .inr (11, [.ref mw, .ref ma, .ref mf, .ref m0, .ref m1, .ref mu, .ref mv, .ref u0, .ref u1, .ref iz, .int th, .ref mb, .int mn, .int mpt, .int mbg, .int mwr, .int mwk, .int mlf, .int men])), (mw, .inl (ct 0, 958, .inl f1_114))] ++ ws_113) := hD
            refine lv_iload_n hx hb dX11_ends_82 rfl (lv_at hl 0 rfl) ?_
            refine lv_if_eq (tgt := 108) hx hb dX11_ends_83 (by decide) (fun _ => ?_) (fun hc => absurd (by decide) hc)
            refine lv_aload_n hx hb dX11_ends_108 rfl (lv_at hl 2 rfl) ?_
            refine lv_iload_n hx hb dX11_ends_109 rfl (lv_at hl 3 rfl) ?_
            refine ty_kv (wr := []) (wc := ([(m, .inr (11, [.ref mw, .ref ma, .ref mf, .ref m0, .ref m1, .ref mu, .ref mv, .ref u0, .ref u1, .ref iz, .int th, .ref mb, .int mn, .int mpt, .int mbg, .int mwr, .int mwk, .int mlf, .int men])), (mw, .inl (ct 0, 958, .inl f1_114))] ++ ws_113)) (va_runV (As := [.int p1]) (rest := []) ⟨hx, hb, hml, hown, hts⟩ (m_X11_clears l D ct S ws_113 m mw ma mf m0 m1 mu mv u0 u1 iz mb th mn mpt mbg mwr mwk mlf men f1_114 G cx p1 _ hT h_mu h_mv h_u0 h_u1 h_mb hR_116 hc) (cm_V 1 hts kc_X11_clears ki_RX11 kl_RX11_272 kv_X11_clears kx_X11_clears kd_X11_clears ⟨Nat.le_of_ble_eq_true rfl, Nat.le_of_ble_eq_true rfl⟩) (ty_preE (wr := []) (wc := ([(m, .inr (11, [.ref mw, .ref ma, .ref mf, .ref m0, .ref m1, .ref mu, .ref mv, .ref u0, .ref u1, .ref iz, .int th, .ref mb, .int mn, .int mpt, .int mbg, .int mwr, .int mwk, .int mlf, .int men])), (mw, .inl (ct 0, 958, .inl f1_114))] ++ ws_113)) (ci := 11) (q0 := 0) hP hK hD hS hA hX rfl rfl) rfl rfl hl.1 rfl (lv_room (Nat.le_of_ble_eq_true rfl)) dX11_ends_110 ⟨Nat.le_of_ble_eq_true rfl, Nat.le_of_ble_eq_true rfl⟩) hP hD hS hA (fun u H locs hw_119 hP hD hS => ?_)
            obtain ⟨ws_120, f1_121⟩ := u
            obtain ⟨hT, hp_122⟩ := hw_119
            have hp_122 : rf_R G cx f1_121 ∧ rf_sm f1_114 f1_121 := hp_122
            have hR_123 := hp_122.1
            have hM_124 := rf_smt hM_117 hp_122.2.1
            have hP : va_P D vwCl ([(m, .inr (11, [.ref mw, .ref ma, .ref mf, .ref m0, .ref m1, .ref mu, .ref mv, .ref u0, .ref u1, .ref iz, .int th, .ref mb, .int mn, .int mpt, .int mbg, .int mwr, .int mwk, .int mlf, .int men])), (mw, .inl (ct 0, 958, .inl f1_121))] ++ ws_120) H := hP
            have hD : va_D A ([(m, .inr (11, [.ref mw, .ref ma, .ref mf, .ref m0, .ref m1, .ref mu, .ref mv, .ref u0, .ref u1, .ref iz, .int th, .ref mb, .int mn, .int mpt, .int mbg, .int mwr, .int mwk, .int mlf, .int men])), (mw, .inl (ct 0, 958, .inl f1_121))] ++ ws_120) := hD
            exact W.vret hx hb hr (fun t ht hW => ⟨⟨(ws_120, f1_121), rfl, ⟨hT, ⟨hR_123, hM_124⟩⟩, by rw [ht]; exact hP, by rw [hAe]; exact hD⟩, hS.F ht⟩) hS.2.2 dX11_ends_113
          · refine lv_iconst (v := 1) hx hb dX11_ends_70 (by decide) ?_
            refine lv_goto (tgt := 75) hx hb dX11_ends_71 (by decide) ?_
            refine lv_istore_n (lv' := [(3, .int 1), (2, .int (rf_st3 f p1 0)), (0, .ref m), (1, .int p1)]) hx hb dX11_ends_75 rfl hl (by decide) rfl (fun ls hl => ?_)
            refine lv_aload_n hx hb dX11_ends_76 rfl (lv_at hl 2 rfl) ?_
            refine lv_iload_n hx hb dX11_ends_77 rfl (lv_at hl 3 rfl) ?_
            refine lv_iload_n hx hb dX11_ends_78 rfl (lv_at hl 0 rfl) ?_
            refine ty_kv (wr := []) (wc := ([(m, .inr (11, [.ref mw, .ref ma, .ref mf, .ref m0, .ref m1, .ref mu, .ref mv, .ref u0, .ref u1, .ref iz, .int th, .ref mb, .int mn, .int mpt, .int mbg, .int mwr, .int mwk, .int mlf, .int men])), (mw, .inl (ct 0, 958, .inl f1_81))] ++ ws_109)) (va_runV (As := [.int p1, .int 1]) (rest := []) ⟨hx, hb, hml, hown, hts⟩ (m_X11_records l D ct S ws_109 m mw ma mf m0 m1 mu mv u0 u1 iz mb th mn mpt mbg mwr mwk mlf men f1_81 G cx p1 (1 : Int32) _ hT h_mu h_mv h_u0 h_u1 h_mb hR_83 hc) (cm_V 2 hts kc_X11_records ki_RX11 kl_RX11_268 kv_X11_records kx_X11_records kd_X11_records ⟨Nat.le_of_ble_eq_true rfl, Nat.le_of_ble_eq_true rfl⟩) (ty_preE (wr := []) (wc := ([(m, .inr (11, [.ref mw, .ref ma, .ref mf, .ref m0, .ref m1, .ref mu, .ref mv, .ref u0, .ref u1, .ref iz, .int th, .ref mb, .int mn, .int mpt, .int mbg, .int mwr, .int mwk, .int mlf, .int men])), (mw, .inl (ct 0, 958, .inl f1_81))] ++ ws_109)) (ci := 11) (q0 := 0) hP hK hD hS hA hX rfl rfl) rfl rfl hl.1 rfl (lv_room (Nat.le_of_ble_eq_true rfl)) dX11_ends_79 ⟨Nat.le_of_ble_eq_true rfl, Nat.le_of_ble_eq_true rfl⟩) hP hD hS hA (fun u H locs hw_126 hP hD hS => ?_)
            obtain ⟨ws_127, f1_128⟩ := u
            obtain ⟨hT, hp_129⟩ := hw_126
            have hp_129 : rf_R G cx f1_128 ∧ rf_sm f1_81 f1_128 := hp_129
            have hR_130 := hp_129.1
            have hM_131 := rf_smt hM_84 hp_129.2.1
            have hP : va_P D vwCl ([(m, .inr (11, [.ref mw, .ref ma, .ref mf, .ref m0, .ref m1, .ref mu, .ref mv, .ref u0, .ref u1, .ref iz, .int th, .ref mb, .int mn, .int mpt, .int mbg, .int mwr, .int mwk, .int mlf, .int men])), (mw, .inl (ct 0, 958, .inl f1_128))] ++ ws_127) H := hP
            have hD : va_D A ([(m, .inr (11, [.ref mw, .ref ma, .ref mf, .ref m0, .ref m1, .ref mu, .ref mv, .ref u0, .ref u1, .ref iz, .int th, .ref mb, .int mn, .int mpt, .int mbg, .int mwr, .int mwk, .int mlf, .int men])), (mw, .inl (ct 0, 958, .inl f1_128))] ++ ws_127) := hD
            refine lv_iload_n hx hb dX11_ends_82 rfl (lv_at hl 0 rfl) ?_
            refine lv_if_eq (tgt := 108) hx hb dX11_ends_83 (by decide) (fun hc => absurd hc (by decide)) (fun _ => ?_)
            refine lv_aload_n hx hb dX11_ends_86 rfl (lv_at hl 2 rfl) ?_
            refine lv_iload_n hx hb dX11_ends_87 rfl (lv_at hl 3 rfl) ?_
            refine lv_bipush (v := 20) hx hb dX11_ends_88 (by decide) ?_
            refine lv_aload_n hx hb dX11_ends_90 rfl (lv_at hl 2 rfl) ?_
            refine lv_iload_n hx hb dX11_ends_91 rfl (lv_at hl 3 rfl) ?_
            refine lv_iconst (v := 1) hx hb dX11_ends_92 (by decide) ?_
            have hP : va_P D vwCl ([(mw, .inl (ct 0, 958, .inl f1_128)), (m, .inr (11, [.ref mw, .ref ma, .ref mf, .ref m0, .ref m1, .ref mu, .ref mv, .ref u0, .ref u1, .ref iz, .int th, .ref mb, .int mn, .int mpt, .int mbg, .int mwr, .int mwk, .int mlf, .int men]))] ++ ws_127) H := ty_permP hP (ty_ordp (E := [(m, .inr (11, [.ref mw, .ref ma, .ref mf, .ref m0, .ref m1, .ref mu, .ref mv, .ref u0, .ref u1, .ref iz, .int th, .ref mb, .int mn, .int mpt, .int mbg, .int mwr, .int mwk, .int mlf, .int men])), (mw, .inl (ct 0, 958, .inl f1_128))]) (E2 := [(mw, .inl (ct 0, 958, .inl f1_128)), (m, .inr (11, [.ref mw, .ref ma, .ref mf, .ref m0, .ref m1, .ref mu, .ref mv, .ref u0, .ref u1, .ref iz, .int th, .ref mb, .int mn, .int mpt, .int mbg, .int mwr, .int mwk, .int mlf, .int men]))]) [1, 0] rfl rfl (by decide))
            have hD : va_D A ([(mw, .inl (ct 0, 958, .inl f1_128)), (m, .inr (11, [.ref mw, .ref ma, .ref mf, .ref m0, .ref m1, .ref mu, .ref mv, .ref u0, .ref u1, .ref iz, .int th, .ref mb, .int mn, .int mpt, .int mbg, .int mwr, .int mwk, .int mlf, .int men]))] ++ ws_127) := ty_permD hD (ty_ordp (E := [(m, .inr (11, [.ref mw, .ref ma, .ref mf, .ref m0, .ref m1, .ref mu, .ref mv, .ref u0, .ref u1, .ref iz, .int th, .ref mb, .int mn, .int mpt, .int mbg, .int mwr, .int mwk, .int mlf, .int men])), (mw, .inl (ct 0, 958, .inl f1_128))]) (E2 := [(mw, .inl (ct 0, 958, .inl f1_128)), (m, .inr (11, [.ref mw, .ref ma, .ref mf, .ref m0, .ref m1, .ref mu, .ref mv, .ref u0, .ref u1, .ref iz, .int th, .ref mb, .int mn, .int mpt, .int mbg, .int mwr, .int mwk, .int mlf, .int men]))]) [1, 0] rfl rfl (by decide))
            refine ty_kl (wr := [(mw, .inl (ct 0, 958, .inl f1_128))]) (wc := ([(m, .inr (11, [.ref mw, .ref ma, .ref mf, .ref m0, .ref m1, .ref mu, .ref mv, .ref u0, .ref u1, .ref iz, .int th, .ref mb, .int mn, .int mpt, .int mbg, .int mwr, .int mwk, .int mlf, .int men]))] ++ ws_127)) (va_runV (As := [.int p1, .int 1]) (rest := [.int 20, .int p1, .ref m]) ⟨hx, hb, hml, hown, hts⟩ (m_X11_sum l D ct S ws_127 m mw ma mf m0 m1 mu mv u0 u1 iz mb th mn mpt mbg mwr mwk mlf men p1 (1 : Int32) _ hT h_mu h_mv h_u0 h_u1 h_mb (rf_c6 hR_130 hc) (by decide)) (cm_V 2 hts kc_X11_sum ki_RX11 kl_RX11_261 kv_X11_sum kx_X11_sum kd_X11_sum ⟨Nat.le_of_ble_eq_true rfl, Nat.le_of_ble_eq_true rfl⟩) (ty_preE (wr := [(mw, .inl (ct 0, 958, .inl f1_128))]) (wc := ([(m, .inr (11, [.ref mw, .ref ma, .ref mf, .ref m0, .ref m1, .ref mu, .ref mv, .ref u0, .ref u1, .ref iz, .int th, .ref mb, .int mn, .int mpt, .int mbg, .int mwr, .int mwk, .int mlf, .int men]))] ++ ws_127)) (ci := 11) (q0 := 1) hP hK hD hS hA hX rfl rfl) rfl rfl hl.1 rfl (lv_room (Nat.le_of_ble_eq_true rfl)) dX11_ends_93 ⟨Nat.le_of_ble_eq_true rfl, Nat.le_of_ble_eq_true rfl⟩) hP hD hS hA (fun r_132 u H locs hw_133 hP hD hS => ?_)
            obtain ⟨ws_134, rfl⟩ : ∃ z, z = u := ⟨_, rfl⟩
            have hT := hw_133
            have hP : va_P D vwCl ([(mw, .inl (ct 0, 958, .inl f1_128)), (m, .inr (11, [.ref mw, .ref ma, .ref mf, .ref m0, .ref m1, .ref mu, .ref mv, .ref u0, .ref u1, .ref iz, .int th, .ref mb, .int mn, .int mpt, .int mbg, .int mwr, .int mwk, .int mlf, .int men]))] ++ ws_134) H := hP
            have hD : va_D A ([(mw, .inl (ct 0, 958, .inl f1_128)), (m, .inr (11, [.ref mw, .ref ma, .ref mf, .ref m0, .ref m1, .ref mu, .ref mv, .ref u0, .ref u1, .ref iz, .int th, .ref mb, .int mn, .int mpt, .int mbg, .int mwr, .int mwk, .int mlf, .int men]))] ++ ws_134) := hD
            refine lv_aload_n hx hb dX11_ends_96 rfl (lv_at hl 2 rfl) ?_
            refine lv_iload_n hx hb dX11_ends_97 rfl (lv_at hl 3 rfl) ?_
            refine lv_bipush (v := 6) hx hb dX11_ends_98 (by decide) ?_
            refine ty_kl (wr := [(mw, .inl (ct 0, 958, .inl f1_128))]) (wc := ([(m, .inr (11, [.ref mw, .ref ma, .ref mf, .ref m0, .ref m1, .ref mu, .ref mv, .ref u0, .ref u1, .ref iz, .int th, .ref mb, .int mn, .int mpt, .int mbg, .int mwr, .int mwk, .int mlf, .int men]))] ++ ws_134)) (va_runV (As := [.int p1, .int 6]) (rest := [.long r_132, .int 20, .int p1, .ref m]) ⟨hx, hb, hml, hown, hts⟩ (m_X11_sum l D ct S ws_134 m mw ma mf m0 m1 mu mv u0 u1 iz mb th mn mpt mbg mwr mwk mlf men p1 (6 : Int32) _ hT h_mu h_mv h_u0 h_u1 h_mb (rf_c6 hR_130 hc) (by decide)) (cm_V 2 hts kc_X11_sum ki_RX11 kl_RX11_261 kv_X11_sum kx_X11_sum kd_X11_sum ⟨Nat.le_of_ble_eq_true rfl, Nat.le_of_ble_eq_true rfl⟩) (ty_preE (wr := [(mw, .inl (ct 0, 958, .inl f1_128))]) (wc := ([(m, .inr (11, [.ref mw, .ref ma, .ref mf, .ref m0, .ref m1, .ref mu, .ref mv, .ref u0, .ref u1, .ref iz, .int th, .ref mb, .int mn, .int mpt, .int mbg, .int mwr, .int mwk, .int mlf, .int men]))] ++ ws_134)) (ci := 11) (q0 := 1) hP hK hD hS hA hX rfl rfl) rfl rfl hl.1 rfl (lv_room (Nat.le_of_ble_eq_true rfl)) dX11_ends_100 ⟨Nat.le_of_ble_eq_true rfl, Nat.le_of_ble_eq_true rfl⟩) hP hD hS hA (fun r_135 u H locs hw_136 hP hD hS => ?_)
            obtain ⟨ws_137, rfl⟩ : ∃ z, z = u := ⟨_, rfl⟩
            have hT := hw_136
            have hP : va_P D vwCl ([(mw, .inl (ct 0, 958, .inl f1_128)), (m, .inr (11, [.ref mw, .ref ma, .ref mf, .ref m0, .ref m1, .ref mu, .ref mv, .ref u0, .ref u1, .ref iz, .int th, .ref mb, .int mn, .int mpt, .int mbg, .int mwr, .int mwk, .int mlf, .int men]))] ++ ws_137) H := hP
            have hD : va_D A ([(mw, .inl (ct 0, 958, .inl f1_128)), (m, .inr (11, [.ref mw, .ref ma, .ref mf, .ref m0, .ref m1, .ref mu, .ref mv, .ref u0, .ref u1, .ref iz, .int th, .ref mb, .int mn, .int mpt, .int mbg, .int mwr, .int mwk, .int mlf, .int men]))] ++ ws_137) := hD
            refine lv_lsub hx hb dX11_ends_103 ?_
            refine lv_topl (fun x_138 _ => ?_)
            refine lv_l2i hx hb dX11_ends_104 rfl ?_
            refine lv_topi (fun x_139 _ => ?_)
            have hP : va_P D vwCl ([(m, .inr (11, [.ref mw, .ref ma, .ref mf, .ref m0, .ref m1, .ref mu, .ref mv, .ref u0, .ref u1, .ref iz, .int th, .ref mb, .int mn, .int mpt, .int mbg, .int mwr, .int mwk, .int mlf, .int men])), (mw, .inl (ct 0, 958, .inl f1_128))] ++ ws_137) H := ty_permP hP (ty_ordp (E := [(mw, .inl (ct 0, 958, .inl f1_128)), (m, .inr (11, [.ref mw, .ref ma, .ref mf, .ref m0, .ref m1, .ref mu, .ref mv, .ref u0, .ref u1, .ref iz, .int th, .ref mb, .int mn, .int mpt, .int mbg, .int mwr, .int mwk, .int mlf, .int men]))]) (E2 := [(m, .inr (11, [.ref mw, .ref ma, .ref mf, .ref m0, .ref m1, .ref mu, .ref mv, .ref u0, .ref u1, .ref iz, .int th, .ref mb, .int mn, .int mpt, .int mbg, .int mwr, .int mwk, .int mlf, .int men])), (mw, .inl (ct 0, 958, .inl f1_128))]) [1, 0] rfl rfl (by decide))
            have hD : va_D A ([(m, .inr (11, [.ref mw, .ref ma, .ref mf, .ref m0, .ref m1, .ref mu, .ref mv, .ref u0, .ref u1, .ref iz, .int th, .ref mb, .int mn, .int mpt, .int mbg, .int mwr, .int mwk, .int mlf, .int men])), (mw, .inl (ct 0, 958, .inl f1_128))] ++ ws_137) := ty_permD hD (ty_ordp (E := [(mw, .inl (ct 0, 958, .inl f1_128)), (m, .inr (11, [.ref mw, .ref ma, .ref mf, .ref m0, .ref m1, .ref mu, .ref mv, .ref u0, .ref u1, .ref iz, .int th, .ref mb, .int mn, .int mpt, .int mbg, .int mwr, .int mwk, .int mlf, .int men]))]) (E2 := [(m, .inr (11, [.ref mw, .ref ma, .ref mf, .ref m0, .ref m1, .ref mu, .ref mv, .ref u0, .ref u1, .ref iz, .int th, .ref mb, .int mn, .int mpt, .int mbg, .int mwr, .int mwk, .int mlf, .int men])), (mw, .inl (ct 0, 958, .inl f1_128))]) [1, 0] rfl rfl (by decide))
            refine ty_kv (wr := []) (wc := ([(m, .inr (11, [.ref mw, .ref ma, .ref mf, .ref m0, .ref m1, .ref mu, .ref mv, .ref u0, .ref u1, .ref iz, .int th, .ref mb, .int mn, .int mpt, .int mbg, .int mwr, .int mwk, .int mlf, .int men])), (mw, .inl (ct 0, 958, .inl f1_128))] ++ ws_137)) (va_runV (As := [.int p1, .int 20, .int x_139]) (rest := []) ⟨hx, hb, hml, hown, hts⟩ (m_put_20 l D ct S ws_137 m mw ma mf m0 m1 mu mv u0 u1 iz mb th mn mpt mbg mwr mwk mlf men f1_128 G cx p1 x_139 _ hT h_mu h_mv h_u0 h_u1 h_mb hR_130 hc) (cm_V 3 hts kc_X11_put ki_RX11 kl_RX11_234 kv_X11_put kx_X11_put kd_X11_put ⟨Nat.le_of_ble_eq_true rfl, Nat.le_of_ble_eq_true rfl⟩) (ty_preE (wr := []) (wc := ([(m, .inr (11, [.ref mw, .ref ma, .ref mf, .ref m0, .ref m1, .ref mu, .ref mv, .ref u0, .ref u1, .ref iz, .int th, .ref mb, .int mn, .int mpt, .int mbg, .int mwr, .int mwk, .int mlf, .int men])), (mw, .inl (ct 0, 958, .inl f1_128))] ++ ws_137)) (ci := 11) (q0 := 0) hP hK hD hS hA hX rfl rfl) rfl rfl hl.1 rfl (lv_room (Nat.le_of_ble_eq_true rfl)) dX11_ends_105 ⟨Nat.le_of_ble_eq_true rfl, Nat.le_of_ble_eq_true rfl⟩) hP hD hS hA (fun u H locs hw_141 hP hD hS => ?_)
            obtain ⟨ws_142, f1_143⟩ := u
            obtain ⟨hT, hp_144⟩ := hw_141
            have hp_144 : rf_R G cx f1_143 ∧ rf_sm f1_128 f1_143 ∧ f1_143 = upd f1_128 (244 + 54 * p1.toInt.toNat + 20) x_139 := hp_144
            have hR_145 := hp_144.1
            have hM_146 := rf_smt hM_131 hp_144.2.1
            have hP : va_P D vwCl ([(m, .inr (11, [.ref mw, .ref ma, .ref mf, .ref m0, .ref m1, .ref mu, .ref mv, .ref u0, .ref u1, .ref iz, .int th, .ref mb, .int mn, .int mpt, .int mbg, .int mwr, .int mwk, .int mlf, .int men])), (mw, .inl (ct 0, 958, .inl f1_143))] ++ ws_142) H := hP
            have hD : va_D A ([(m, .inr (11, [.ref mw, .ref ma, .ref mf, .ref m0, .ref m1, .ref mu, .ref mv, .ref u0, .ref u1, .ref iz, .int th, .ref mb, .int mn, .int mpt, .int mbg, .int mwr, .int mwk, .int mlf, .int men])), (mw, .inl (ct 0, 958, .inl f1_143))] ++ ws_142) := hD
            refine lv_aload_n hx hb dX11_ends_108 rfl (lv_at hl 2 rfl) ?_
            refine lv_iload_n hx hb dX11_ends_109 rfl (lv_at hl 3 rfl) ?_
            refine ty_kv (wr := []) (wc := ([(m, .inr (11, [.ref mw, .ref ma, .ref mf, .ref m0, .ref m1, .ref mu, .ref mv, .ref u0, .ref u1, .ref iz, .int th, .ref mb, .int mn, .int mpt, .int mbg, .int mwr, .int mwk, .int mlf, .int men])), (mw, .inl (ct 0, 958, .inl f1_143))] ++ ws_142)) (va_runV (As := [.int p1]) (rest := []) ⟨hx, hb, hml, hown, hts⟩ (m_X11_clears l D ct S ws_142 m mw ma mf m0 m1 mu mv u0 u1 iz mb th mn mpt mbg mwr mwk mlf men f1_143 G cx p1 _ hT h_mu h_mv h_u0 h_u1 h_mb hR_145 hc) (cm_V 1 hts kc_X11_clears ki_RX11 kl_RX11_272 kv_X11_clears kx_X11_clears kd_X11_clears ⟨Nat.le_of_ble_eq_true rfl, Nat.le_of_ble_eq_true rfl⟩) (ty_preE (wr := []) (wc := ([(m, .inr (11, [.ref mw, .ref ma, .ref mf, .ref m0, .ref m1, .ref mu, .ref mv, .ref u0, .ref u1, .ref iz, .int th, .ref mb, .int mn, .int mpt, .int mbg, .int mwr, .int mwk, .int mlf, .int men])), (mw, .inl (ct 0, 958, .inl f1_143))] ++ ws_142)) (ci := 11) (q0 := 0) hP hK hD hS hA hX rfl rfl) rfl rfl hl.1 rfl (lv_room (Nat.le_of_ble_eq_true rfl)) dX11_ends_110 ⟨Nat.le_of_ble_eq_true rfl, Nat.le_of_ble_eq_true rfl⟩) hP hD hS hA (fun u H locs hw_148 hP hD hS => ?_)
            obtain ⟨ws_149, f1_150⟩ := u
            obtain ⟨hT, hp_151⟩ := hw_148
            have hp_151 : rf_R G cx f1_150 ∧ rf_sm f1_143 f1_150 := hp_151
            have hR_152 := hp_151.1
            have hM_153 := rf_smt hM_146 hp_151.2.1
            have hP : va_P D vwCl ([(m, .inr (11, [.ref mw, .ref ma, .ref mf, .ref m0, .ref m1, .ref mu, .ref mv, .ref u0, .ref u1, .ref iz, .int th, .ref mb, .int mn, .int mpt, .int mbg, .int mwr, .int mwk, .int mlf, .int men])), (mw, .inl (ct 0, 958, .inl f1_150))] ++ ws_149) H := hP
            have hD : va_D A ([(m, .inr (11, [.ref mw, .ref ma, .ref mf, .ref m0, .ref m1, .ref mu, .ref mv, .ref u0, .ref u1, .ref iz, .int th, .ref mb, .int mn, .int mpt, .int mbg, .int mwr, .int mwk, .int mlf, .int men])), (mw, .inl (ct 0, 958, .inl f1_150))] ++ ws_149) := hD
            exact W.vret hx hb hr (fun t ht hW => ⟨⟨(ws_149, f1_150), rfl, ⟨hT, ⟨hR_152, hM_153⟩⟩, by rw [ht]; exact hP, by rw [hAe]; exact hD⟩, hS.F ht⟩) hS.2.2 dX11_ends_113
      · exact W.vret hx hb hr (fun t ht hW => ⟨⟨(ws_80, f1_81), rfl, ⟨hT, ⟨hR_83, hM_84⟩⟩, by rw [ht]; exact hP, by rw [hAe]; exact hD⟩, hS.F ht⟩) hS.2.2 dX11_ends_43
  · refine lv_aload_n hx hb dX11_ends_12 rfl (lv_at hl 1 rfl) ?_
    refine lv_iload_n hx hb dX11_ends_13 rfl (lv_at hl 2 rfl) ?_
    refine lv_bipush (v := 21) hx hb dX11_ends_14 (by decide) ?_
    refine lv_iconst (v := 1) hx hb dX11_ends_16 (by decide) ?_
    refine ty_kv (wr := []) (wc := ([(m, .inr (11, [.ref mw, .ref ma, .ref mf, .ref m0, .ref m1, .ref mu, .ref mv, .ref u0, .ref u1, .ref iz, .int th, .ref mb, .int mn, .int mpt, .int mbg, .int mwr, .int mwk, .int mlf, .int men])), (mw, .inl (ct 0, 958, .inl f))] ++ ws_3)) (va_runV (As := [.int p1, .int 21, .int 1]) (rest := []) ⟨hx, hb, hml, hown, hts⟩ (m_put_21 l D ct S ws_3 m mw ma mf m0 m1 mu mv u0 u1 iz mb th mn mpt mbg mwr mwk mlf men f G cx p1 (1 : Int32) _ hT h_mu h_mv h_u0 h_u1 h_mb hR hc) (cm_V 3 hts kc_X11_put ki_RX11 kl_RX11_234 kv_X11_put kx_X11_put kd_X11_put ⟨Nat.le_of_ble_eq_true rfl, Nat.le_of_ble_eq_true rfl⟩) (ty_preE (wr := []) (wc := ([(m, .inr (11, [.ref mw, .ref ma, .ref mf, .ref m0, .ref m1, .ref mu, .ref mv, .ref u0, .ref u1, .ref iz, .int th, .ref mb, .int mn, .int mpt, .int mbg, .int mwr, .int mwk, .int mlf, .int men])), (mw, .inl (ct 0, 958, .inl f))] ++ ws_3)) (ci := 11) (q0 := 0) hP hK hD hS hA hX rfl rfl) rfl rfl hl.1 rfl (lv_room (Nat.le_of_ble_eq_true rfl)) dX11_ends_17 ⟨Nat.le_of_ble_eq_true rfl, Nat.le_of_ble_eq_true rfl⟩) hP hD hS hA (fun u H locs hw_155 hP hD hS => ?_)
    obtain ⟨ws_156, f1_157⟩ := u
    obtain ⟨hT, hp_158⟩ := hw_155
    have hp_158 : rf_R G cx f1_157 ∧ rf_sm f f1_157 ∧ f1_157 = upd f (244 + 54 * p1.toInt.toNat + 21) (1 : Int32) := hp_158
    have hR_159 := hp_158.1
    have hM_160 := rf_smt (rf_smr f) hp_158.2.1
    have hP : va_P D vwCl ([(m, .inr (11, [.ref mw, .ref ma, .ref mf, .ref m0, .ref m1, .ref mu, .ref mv, .ref u0, .ref u1, .ref iz, .int th, .ref mb, .int mn, .int mpt, .int mbg, .int mwr, .int mwk, .int mlf, .int men])), (mw, .inl (ct 0, 958, .inl f1_157))] ++ ws_156) H := hP
    have hD : va_D A ([(m, .inr (11, [.ref mw, .ref ma, .ref mf, .ref m0, .ref m1, .ref mu, .ref mv, .ref u0, .ref u1, .ref iz, .int th, .ref mb, .int mn, .int mpt, .int mbg, .int mwr, .int mwk, .int mlf, .int men])), (mw, .inl (ct 0, 958, .inl f1_157))] ++ ws_156) := hD
    refine lv_iload_n hx hb dX11_ends_20 rfl (lv_at hl 0 rfl) ?_
    refine lv_iconst (v := 3) hx hb dX11_ends_21 (by decide) ?_
    refine lv_icmp_ne (tgt := 38) hx hb dX11_ends_22 (by decide) (fun hc_161 => ?_) (fun hc_161 => ?_)
    · refine lv_iload_n hx hb dX11_ends_38 rfl (lv_at hl 0 rfl) ?_
      refine lv_iconst (v := 2) hx hb dX11_ends_39 (by decide) ?_
      refine lv_icmp_eq (tgt := 44) hx hb dX11_ends_40 (by decide) (fun hc_162 => ?_) (fun hc_162 => ?_)
      · refine lv_aload_n hx hb dX11_ends_44 rfl (lv_at hl 1 rfl) ?_
        refine lv_iload_n hx hb dX11_ends_45 rfl (lv_at hl 2 rfl) ?_
        refine lv_bipush (v := 21) hx hb dX11_ends_46 (by decide) ?_
        refine ty_ki (wr := []) (wc := ([(m, .inr (11, [.ref mw, .ref ma, .ref mf, .ref m0, .ref m1, .ref mu, .ref mv, .ref u0, .ref u1, .ref iz, .int th, .ref mb, .int mn, .int mpt, .int mbg, .int mwr, .int mwk, .int mlf, .int men])), (mw, .inl (ct 0, 958, .inl f1_157))] ++ ws_156)) (va_runV (As := [.int p1, .int 21]) (rest := []) ⟨hx, hb, hml, hown, hts⟩ (m_of_21 l D ct S ws_156 m mw ma mf m0 m1 mu mv u0 u1 iz mb th mn mpt mbg mwr mwk mlf men f1_157 G cx p1 _ hT h_mu h_mv h_u0 h_u1 h_mb hR_159 hc) (cm_V 2 hts kc_X11_of ki_RX11 kl_RX11_209 kv_X11_of kx_X11_of kd_X11_of ⟨Nat.le_of_ble_eq_true rfl, Nat.le_of_ble_eq_true rfl⟩) (ty_preE (wr := []) (wc := ([(m, .inr (11, [.ref mw, .ref ma, .ref mf, .ref m0, .ref m1, .ref mu, .ref mv, .ref u0, .ref u1, .ref iz, .int th, .ref mb, .int mn, .int mpt, .int mbg, .int mwr, .int mwk, .int mlf, .int men])), (mw, .inl (ct 0, 958, .inl f1_157))] ++ ws_156)) (ci := 11) (q0 := 0) hP hK hD hS hA hX rfl rfl) rfl rfl hl.1 rfl (lv_room (Nat.le_of_ble_eq_true rfl)) dX11_ends_48 ⟨Nat.le_of_ble_eq_true rfl, Nat.le_of_ble_eq_true rfl⟩) hP hD hS hA (fun r_163 u H locs hw_164 hP hD hS => ?_)
        obtain ⟨ws_165, rfl⟩ : ∃ z, z = u := ⟨_, rfl⟩
        obtain ⟨hT, rfl⟩ := hw_164
        have hP : va_P D vwCl ([(m, .inr (11, [.ref mw, .ref ma, .ref mf, .ref m0, .ref m1, .ref mu, .ref mv, .ref u0, .ref u1, .ref iz, .int th, .ref mb, .int mn, .int mpt, .int mbg, .int mwr, .int mwk, .int mlf, .int men])), (mw, .inl (ct 0, 958, .inl f1_157))] ++ ws_165) H := hP
        have hD : va_D A ([(m, .inr (11, [.ref mw, .ref ma, .ref mf, .ref m0, .ref m1, .ref mu, .ref mv, .ref u0, .ref u1, .ref iz, .int th, .ref mb, .int mn, .int mpt, .int mbg, .int mwr, .int mwk, .int mlf, .int men])), (mw, .inl (ct 0, 958, .inl f1_157))] ++ ws_165) := hD
        refine lv_iconst (v := 1) hx hb dX11_ends_51 (by decide) ?_
        refine lv_icmp_ne (tgt := 74) hx hb dX11_ends_52 (by decide) (fun hc_166 => ?_) (fun hc_166 => ?_)
        · refine lv_iconst (v := 0) hx hb dX11_ends_74 (by decide) ?_
          refine lv_istore_n (lv' := [(3, .int 0), (2, .int (rf_st3 f p1 0)), (0, .ref m), (1, .int p1)]) hx hb dX11_ends_75 rfl hl (by decide) rfl (fun ls hl => ?_)
          refine lv_aload_n hx hb dX11_ends_76 rfl (lv_at hl 2 rfl) ?_
          refine lv_iload_n hx hb dX11_ends_77 rfl (lv_at hl 3 rfl) ?_
          refine lv_iload_n hx hb dX11_ends_78 rfl (lv_at hl 0 rfl) ?_
          refine ty_kv (wr := []) (wc := ([(m, .inr (11, [.ref mw, .ref ma, .ref mf, .ref m0, .ref m1, .ref mu, .ref mv, .ref u0, .ref u1, .ref iz, .int th, .ref mb, .int mn, .int mpt, .int mbg, .int mwr, .int mwk, .int mlf, .int men])), (mw, .inl (ct 0, 958, .inl f1_157))] ++ ws_165)) (va_runV (As := [.int p1, .int 0]) (rest := []) ⟨hx, hb, hml, hown, hts⟩ (m_X11_records l D ct S ws_165 m mw ma mf m0 m1 mu mv u0 u1 iz mb th mn mpt mbg mwr mwk mlf men f1_157 G cx p1 (0 : Int32) _ hT h_mu h_mv h_u0 h_u1 h_mb hR_159 hc) (cm_V 2 hts kc_X11_records ki_RX11 kl_RX11_268 kv_X11_records kx_X11_records kd_X11_records ⟨Nat.le_of_ble_eq_true rfl, Nat.le_of_ble_eq_true rfl⟩) (ty_preE (wr := []) (wc := ([(m, .inr (11, [.ref mw, .ref ma, .ref mf, .ref m0, .ref m1, .ref mu, .ref mv, .ref u0, .ref u1, .ref iz, .int th, .ref mb, .int mn, .int mpt, .int mbg, .int mwr, .int mwk, .int mlf, .int men])), (mw, .inl (ct 0, 958, .inl f1_157))] ++ ws_165)) (ci := 11) (q0 := 0) hP hK hD hS hA hX rfl rfl) rfl rfl hl.1 rfl (lv_room (Nat.le_of_ble_eq_true rfl)) dX11_ends_79 ⟨Nat.le_of_ble_eq_true rfl, Nat.le_of_ble_eq_true rfl⟩) hP hD hS hA (fun u H locs hw_168 hP hD hS => ?_)
          obtain ⟨ws_169, f1_170⟩ := u
          obtain ⟨hT, hp_171⟩ := hw_168
          have hp_171 : rf_R G cx f1_170 ∧ rf_sm f1_157 f1_170 := hp_171
          have hR_172 := hp_171.1
          have hM_173 := rf_smt hM_160 hp_171.2.1
          have hP : va_P D vwCl ([(m, .inr (11, [.ref mw, .ref ma, .ref mf, .ref m0, .ref m1, .ref mu, .ref mv, .ref u0, .ref u1, .ref iz, .int th, .ref mb, .int mn, .int mpt, .int mbg, .int mwr, .int mwk, .int mlf, .int men])), (mw, .inl (ct 0, 958, .inl f1_170))] ++ ws_169) H := hP
          have hD : va_D A ([(m, .inr (11, [.ref mw, .ref ma, .ref mf, .ref m0, .ref m1, .ref mu, .ref mv, .ref u0, .ref u1, .ref iz, .int th, .ref mb, .int mn, .int mpt, .int mbg, .int mwr, .int mwk, .int mlf, .int men])), (mw, .inl (ct 0, 958, .inl f1_170))] ++ ws_169) := hD
          refine lv_iload_n hx hb dX11_ends_82 rfl (lv_at hl 0 rfl) ?_
          refine lv_if_eq (tgt := 108) hx hb dX11_ends_83 (by decide) (fun _ => ?_) (fun hc => absurd (by decide) hc)
          refine lv_aload_n hx hb dX11_ends_108 rfl (lv_at hl 2 rfl) ?_
          refine lv_iload_n hx hb dX11_ends_109 rfl (lv_at hl 3 rfl) ?_
          refine ty_kv (wr := []) (wc := ([(m, .inr (11, [.ref mw, .ref ma, .ref mf, .ref m0, .ref m1, .ref mu, .ref mv, .ref u0, .ref u1, .ref iz, .int th, .ref mb, .int mn, .int mpt, .int mbg, .int mwr, .int mwk, .int mlf, .int men])), (mw, .inl (ct 0, 958, .inl f1_170))] ++ ws_169)) (va_runV (As := [.int p1]) (rest := []) ⟨hx, hb, hml, hown, hts⟩ (m_X11_clears l D ct S ws_169 m mw ma mf m0 m1 mu mv u0 u1 iz mb th mn mpt mbg mwr mwk mlf men f1_170 G cx p1 _ hT h_mu h_mv h_u0 h_u1 h_mb hR_172 hc) (cm_V 1 hts kc_X11_clears ki_RX11 kl_RX11_272 kv_X11_clears kx_X11_clears kd_X11_clears ⟨Nat.le_of_ble_eq_true rfl, Nat.le_of_ble_eq_true rfl⟩) (ty_preE (wr := []) (wc := ([(m, .inr (11, [.ref mw, .ref ma, .ref mf, .ref m0, .ref m1, .ref mu, .ref mv, .ref u0, .ref u1, .ref iz, .int th, .ref mb, .int mn, .int mpt, .int mbg, .int mwr, .int mwk, .int mlf, .int men])), (mw, .inl (ct 0, 958, .inl f1_170))] ++ ws_169)) (ci := 11) (q0 := 0) hP hK hD hS hA hX rfl rfl) rfl rfl hl.1 rfl (lv_room (Nat.le_of_ble_eq_true rfl)) dX11_ends_110 ⟨Nat.le_of_ble_eq_true rfl, Nat.le_of_ble_eq_true rfl⟩) hP hD hS hA (fun u H locs hw_175 hP hD hS => ?_)
          obtain ⟨ws_176, f1_177⟩ := u
          obtain ⟨hT, hp_178⟩ := hw_175
          have hp_178 : rf_R G cx f1_177 ∧ rf_sm f1_170 f1_177 := hp_178
          have hR_179 := hp_178.1
          have hM_180 := rf_smt hM_173 hp_178.2.1
          have hP : va_P D vwCl ([(m, .inr (11, [.ref mw, .ref ma, .ref mf, .ref m0, .ref m1, .ref mu, .ref mv, .ref u0, .ref u1, .ref iz, .int th, .ref mb, .int mn, .int mpt, .int mbg, .int mwr, .int mwk, .int mlf, .int men])), (mw, .inl (ct 0, 958, .inl f1_177))] ++ ws_176) H := hP
          have hD : va_D A ([(m, .inr (11, [.ref mw, .ref ma, .ref mf, .ref m0, .ref m1, .ref mu, .ref mv, .ref u0, .ref u1, .ref iz, .int th, .ref mb, .int mn, .int mpt, .int mbg, .int mwr, .int mwk, .int mlf, .int men])), (mw, .inl (ct 0, 958, .inl f1_177))] ++ ws_176) := hD
          exact W.vret hx hb hr (fun t ht hW => ⟨⟨(ws_176, f1_177), rfl, ⟨hT, ⟨hR_179, hM_180⟩⟩, by rw [ht]; exact hP, by rw [hAe]; exact hD⟩, hS.F ht⟩) hS.2.2 dX11_ends_113
        · refine lv_aload_n hx hb dX11_ends_55 rfl (lv_at hl 1 rfl) ?_
          refine lv_iload_n hx hb dX11_ends_56 rfl (lv_at hl 2 rfl) ?_
          refine lv_iconst (v := 5) hx hb dX11_ends_57 (by decide) ?_
          refine ty_ki (wr := []) (wc := ([(m, .inr (11, [.ref mw, .ref ma, .ref mf, .ref m0, .ref m1, .ref mu, .ref mv, .ref u0, .ref u1, .ref iz, .int th, .ref mb, .int mn, .int mpt, .int mbg, .int mwr, .int mwk, .int mlf, .int men])), (mw, .inl (ct 0, 958, .inl f1_157))] ++ ws_165)) (va_runV (As := [.int p1, .int 5]) (rest := []) ⟨hx, hb, hml, hown, hts⟩ (m_of_5 l D ct S ws_165 m mw ma mf m0 m1 mu mv u0 u1 iz mb th mn mpt mbg mwr mwk mlf men f1_157 G cx p1 _ hT h_mu h_mv h_u0 h_u1 h_mb hR_159 hc) (cm_V 2 hts kc_X11_of ki_RX11 kl_RX11_209 kv_X11_of kx_X11_of kd_X11_of ⟨Nat.le_of_ble_eq_true rfl, Nat.le_of_ble_eq_true rfl⟩) (ty_preE (wr := []) (wc := ([(m, .inr (11, [.ref mw, .ref ma, .ref mf, .ref m0, .ref m1, .ref mu, .ref mv, .ref u0, .ref u1, .ref iz, .int th, .ref mb, .int mn, .int mpt, .int mbg, .int mwr, .int mwk, .int mlf, .int men])), (mw, .inl (ct 0, 958, .inl f1_157))] ++ ws_165)) (ci := 11) (q0 := 0) hP hK hD hS hA hX rfl rfl) rfl rfl hl.1 rfl (lv_room (Nat.le_of_ble_eq_true rfl)) dX11_ends_58 ⟨Nat.le_of_ble_eq_true rfl, Nat.le_of_ble_eq_true rfl⟩) hP hD hS hA (fun r_181 u H locs hw_182 hP hD hS => ?_)
          obtain ⟨ws_183, rfl⟩ : ∃ z, z = u := ⟨_, rfl⟩
          obtain ⟨hT, rfl⟩ := hw_182
          have hP : va_P D vwCl ([(m, .inr (11, [.ref mw, .ref ma, .ref mf, .ref m0, .ref m1, .ref mu, .ref mv, .ref u0, .ref u1, .ref iz, .int th, .ref mb, .int mn, .int mpt, .int mbg, .int mwr, .int mwk, .int mlf, .int men])), (mw, .inl (ct 0, 958, .inl f1_157))] ++ ws_183) H := hP
          have hD : va_D A ([(m, .inr (11, [.ref mw, .ref ma, .ref mf, .ref m0, .ref m1, .ref mu, .ref mv, .ref u0, .ref u1, .ref iz, .int th, .ref mb, .int mn, .int mpt, .int mbg, .int mwr, .int mwk, .int mlf, .int men])), (mw, .inl (ct 0, 958, .inl f1_157))] ++ ws_183) := hD
          refine lv_aload_n hx hb dX11_ends_61 rfl (lv_at hl 1 rfl) ?_
          refine lv_iload_n hx hb dX11_ends_62 rfl (lv_at hl 2 rfl) ?_
          refine lv_iconst (v := 2) hx hb dX11_ends_63 (by decide) ?_
          refine ty_ki (wr := []) (wc := ([(m, .inr (11, [.ref mw, .ref ma, .ref mf, .ref m0, .ref m1, .ref mu, .ref mv, .ref u0, .ref u1, .ref iz, .int th, .ref mb, .int mn, .int mpt, .int mbg, .int mwr, .int mwk, .int mlf, .int men])), (mw, .inl (ct 0, 958, .inl f1_157))] ++ ws_183)) (va_runV (As := [.int p1, .int 2]) (rest := [.int (rf_of f1_157 p1 5)]) ⟨hx, hb, hml, hown, hts⟩ (m_step_2 l D ct S ws_183 m mw ma mf m0 m1 mu mv u0 u1 iz mb th mn mpt mbg mwr mwk mlf men f1_157 G cx p1 _ hT h_mu h_mv h_u0 h_u1 h_mb hR_159 hc (by decide)) (cm_V 2 hts kc_X11_step ki_RX11 kl_RX11_228 kv_X11_step kx_X11_step kd_X11_step ⟨Nat.le_of_ble_eq_true rfl, Nat.le_of_ble_eq_true rfl⟩) (ty_preE (wr := []) (wc := ([(m, .inr (11, [.ref mw, .ref ma, .ref mf, .ref m0, .ref m1, .ref mu, .ref mv, .ref u0, .ref u1, .ref iz, .int th, .ref mb, .int mn, .int mpt, .int mbg, .int mwr, .int mwk, .int mlf, .int men])), (mw, .inl (ct 0, 958, .inl f1_157))] ++ ws_183)) (ci := 11) (q0 := 0) hP hK hD hS hA hX rfl rfl) rfl rfl hl.1 rfl (lv_room (Nat.le_of_ble_eq_true rfl)) dX11_ends_64 ⟨Nat.le_of_ble_eq_true rfl, Nat.le_of_ble_eq_true rfl⟩) hP hD hS hA (fun r_184 u H locs hw_185 hP hD hS => ?_)
          obtain ⟨ws_186, rfl⟩ : ∃ z, z = u := ⟨_, rfl⟩
          obtain ⟨hT, rfl⟩ := hw_185
          have hP : va_P D vwCl ([(m, .inr (11, [.ref mw, .ref ma, .ref mf, .ref m0, .ref m1, .ref mu, .ref mv, .ref u0, .ref u1, .ref iz, .int th, .ref mb, .int mn, .int mpt, .int mbg, .int mwr, .int mwk, .int mlf, .int men])), (mw, .inl (ct 0, 958, .inl f1_157))] ++ ws_186) H := hP
          have hD : va_D A ([(m, .inr (11, [.ref mw, .ref ma, .ref mf, .ref m0, .ref m1, .ref mu, .ref mv, .ref u0, .ref u1, .ref iz, .int th, .ref mb, .int mn, .int mpt, .int mbg, .int mwr, .int mwk, .int mlf, .int men])), (mw, .inl (ct 0, 958, .inl f1_157))] ++ ws_186) := hD
          refine lv_icmp_gt (tgt := 74) hx hb dX11_ends_67 (by decide) (fun hc_187 => ?_) (fun hc_187 => ?_)
          · refine lv_iconst (v := 0) hx hb dX11_ends_74 (by decide) ?_
            refine lv_istore_n (lv' := [(3, .int 0), (2, .int (rf_st3 f p1 0)), (0, .ref m), (1, .int p1)]) hx hb dX11_ends_75 rfl hl (by decide) rfl (fun ls hl => ?_)
            refine lv_aload_n hx hb dX11_ends_76 rfl (lv_at hl 2 rfl) ?_
            refine lv_iload_n hx hb dX11_ends_77 rfl (lv_at hl 3 rfl) ?_
            refine lv_iload_n hx hb dX11_ends_78 rfl (lv_at hl 0 rfl) ?_
            refine ty_kv (wr := []) (wc := ([(m, .inr (11, [.ref mw, .ref ma, .ref mf, .ref m0, .ref m1, .ref mu, .ref mv, .ref u0, .ref u1, .ref iz, .int th, .ref mb, .int mn, .int mpt, .int mbg, .int mwr, .int mwk, .int mlf, .int men])), (mw, .inl (ct 0, 958, .inl f1_157))] ++ ws_186)) (va_runV (As := [.int p1, .int 0]) (rest := []) ⟨hx, hb, hml, hown, hts⟩ (m_X11_records l D ct S ws_186 m mw ma mf m0 m1 mu mv u0 u1 iz mb th mn mpt mbg mwr mwk mlf men f1_157 G cx p1 (0 : Int32) _ hT h_mu h_mv h_u0 h_u1 h_mb hR_159 hc) (cm_V 2 hts kc_X11_records ki_RX11 kl_RX11_268 kv_X11_records kx_X11_records kd_X11_records ⟨Nat.le_of_ble_eq_true rfl, Nat.le_of_ble_eq_true rfl⟩) (ty_preE (wr := []) (wc := ([(m, .inr (11, [.ref mw, .ref ma, .ref mf, .ref m0, .ref m1, .ref mu, .ref mv, .ref u0, .ref u1, .ref iz, .int th, .ref mb, .int mn, .int mpt, .int mbg, .int mwr, .int mwk, .int mlf, .int men])), (mw, .inl (ct 0, 958, .inl f1_157))] ++ ws_186)) (ci := 11) (q0 := 0) hP hK hD hS hA hX rfl rfl) rfl rfl hl.1 rfl (lv_room (Nat.le_of_ble_eq_true rfl)) dX11_ends_79 ⟨Nat.le_of_ble_eq_true rfl, Nat.le_of_ble_eq_true rfl⟩) hP hD hS hA (fun u H locs hw_189 hP hD hS => ?_)
            obtain ⟨ws_190, f1_191⟩ := u
            obtain ⟨hT, hp_192⟩ := hw_189
            have hp_192 : rf_R G cx f1_191 ∧ rf_sm f1_157 f1_191 := hp_192
            have hR_193 := hp_192.1
            have hM_194 := rf_smt hM_160 hp_192.2.1
            have hP : va_P D vwCl ([(m, .inr (11, [.ref mw, .ref ma, .ref mf, .ref m0, .ref m1, .ref mu, .ref mv, .ref u0, .ref u1, .ref iz, .int th, .ref mb, .int mn, .int mpt, .int mbg, .int mwr, .int mwk, .int mlf, .int men])), (mw, .inl (ct 0, 958, .inl f1_191))] ++ ws_190) H := hP
            have hD : va_D A ([(m, .inr (11, [.ref mw, .ref ma, .ref mf, .ref m0, .ref m1, .ref mu, .ref mv, .ref u0, .ref u1, .ref iz, .int th, .ref mb, .int mn, .int mpt, .int mbg, .int mwr, .int mwk, .int mlf, .int men])), (mw, .inl (ct 0, 958, .inl f1_191))] ++ ws_190) := hD
            refine lv_iload_n hx hb dX11_ends_82 rfl (lv_at hl 0 rfl) ?_
            refine lv_if_eq (tgt := 108) hx hb dX11_ends_83 (by decide) (fun _ => ?_) (fun hc => absurd (by decide) hc)
            refine lv_aload_n hx hb dX11_ends_108 rfl (lv_at hl 2 rfl) ?_
            refine lv_iload_n hx hb dX11_ends_109 rfl (lv_at hl 3 rfl) ?_
            refine ty_kv (wr := []) (wc := ([(m, .inr (11, [.ref mw, .ref ma, .ref mf, .ref m0, .ref m1, .ref mu, .ref mv, .ref u0, .ref u1, .ref iz, .int th, .ref mb, .int mn, .int mpt, .int mbg, .int mwr, .int mwk, .int mlf, .int men])), (mw, .inl (ct 0, 958, .inl f1_191))] ++ ws_190)) (va_runV (As := [.int p1]) (rest := []) ⟨hx, hb, hml, hown, hts⟩ (m_X11_clears l D ct S ws_190 m mw ma mf m0 m1 mu mv u0 u1 iz mb th mn mpt mbg mwr mwk mlf men f1_191 G cx p1 _ hT h_mu h_mv h_u0 h_u1 h_mb hR_193 hc) (cm_V 1 hts kc_X11_clears ki_RX11 kl_RX11_272 kv_X11_clears kx_X11_clears kd_X11_clears ⟨Nat.le_of_ble_eq_true rfl, Nat.le_of_ble_eq_true rfl⟩) (ty_preE (wr := []) (wc := ([(m, .inr (11, [.ref mw, .ref ma, .ref mf, .ref m0, .ref m1, .ref mu, .ref mv, .ref u0, .ref u1, .ref iz, .int th, .ref mb, .int mn, .int mpt, .int mbg, .int mwr, .int mwk, .int mlf, .int men])), (mw, .inl (ct 0, 958, .inl f1_191))] ++ ws_190)) (ci := 11) (q0 := 0) hP hK hD hS hA hX rfl rfl) rfl rfl hl.1 rfl (lv_room (Nat.le_of_ble_eq_true rfl)) dX11_ends_110 ⟨Nat.le_of_ble_eq_true rfl, Nat.le_of_ble_eq_true rfl⟩) hP hD hS hA (fun u H locs hw_196 hP hD hS => ?_)
            obtain ⟨ws_197, f1_198⟩ := u
            obtain ⟨hT, hp_199⟩ := hw_196
            have hp_199 : rf_R G cx f1_198 ∧ rf_sm f1_191 f1_198 := hp_199
            have hR_200 := hp_199.1
            have hM_201 := rf_smt hM_194 hp_199.2.1
            have hP : va_P D vwCl ([(m, .inr (11, [.ref mw, .ref ma, .ref mf, .ref m0, .ref m1, .ref mu, .ref mv, .ref u0, .ref u1, .ref iz, .int th, .ref mb, .int mn, .int mpt, .int mbg, .int mwr, .int mwk, .int mlf, .int men])), (mw, .inl (ct 0, 958, .inl f1_198))] ++ ws_197) H := hP
            have hD : va_D A ([(m, .inr (11, [.ref mw, .ref ma, .ref mf, .ref m0, .ref m1, .ref mu, .ref mv, .ref u0, .ref u1, .ref iz, .int th, .ref mb, .int mn, .int mpt, .int mbg, .int mwr, .int mwk, .int mlf, .int men])), (mw, .inl (ct 0, 958, .inl f1_198))] ++ ws_197) := hD
            exact W.vret hx hb hr (fun t ht hW => ⟨⟨(ws_197, f1_198), rfl, ⟨hT, ⟨hR_200, hM_201⟩⟩, by rw [ht]; exact hP, by rw [hAe]; exact hD⟩, hS.F ht⟩) hS.2.2 dX11_ends_113
          · refine lv_iconst (v := 1) hx hb dX11_ends_70 (by decide) ?_
            refine lv_goto (tgt := 75) hx hb dX11_ends_71 (by decide) ?_
            refine lv_istore_n (lv' := [(3, .int 1), (2, .int (rf_st3 f p1 0)), (0, .ref m), (1, .int p1)]) hx hb dX11_ends_75 rfl hl (by decide) rfl (fun ls hl => ?_)
            refine lv_aload_n hx hb dX11_ends_76 rfl (lv_at hl 2 rfl) ?_
            refine lv_iload_n hx hb dX11_ends_77 rfl (lv_at hl 3 rfl) ?_
            refine lv_iload_n hx hb dX11_ends_78 rfl (lv_at hl 0 rfl) ?_
            refine ty_kv (wr := []) (wc := ([(m, .inr (11, [.ref mw, .ref ma, .ref mf, .ref m0, .ref m1, .ref mu, .ref mv, .ref u0, .ref u1, .ref iz, .int th, .ref mb, .int mn, .int mpt, .int mbg, .int mwr, .int mwk, .int mlf, .int men])), (mw, .inl (ct 0, 958, .inl f1_157))] ++ ws_186)) (va_runV (As := [.int p1, .int 1]) (rest := []) ⟨hx, hb, hml, hown, hts⟩ (m_X11_records l D ct S ws_186 m mw ma mf m0 m1 mu mv u0 u1 iz mb th mn mpt mbg mwr mwk mlf men f1_157 G cx p1 (1 : Int32) _ hT h_mu h_mv h_u0 h_u1 h_mb hR_159 hc) (cm_V 2 hts kc_X11_records ki_RX11 kl_RX11_268 kv_X11_records kx_X11_records kd_X11_records ⟨Nat.le_of_ble_eq_true rfl, Nat.le_of_ble_eq_true rfl⟩) (ty_preE (wr := []) (wc := ([(m, .inr (11, [.ref mw, .ref ma, .ref mf, .ref m0, .ref m1, .ref mu, .ref mv, .ref u0, .ref u1, .ref iz, .int th, .ref mb, .int mn, .int mpt, .int mbg, .int mwr, .int mwk, .int mlf, .int men])), (mw, .inl (ct 0, 958, .inl f1_157))] ++ ws_186)) (ci := 11) (q0 := 0) hP hK hD hS hA hX rfl rfl) rfl rfl hl.1 rfl (lv_room (Nat.le_of_ble_eq_true rfl)) dX11_ends_79 ⟨Nat.le_of_ble_eq_true rfl, Nat.le_of_ble_eq_true rfl⟩) hP hD hS hA (fun u H locs hw_203 hP hD hS => ?_)
            obtain ⟨ws_204, f1_205⟩ := u
            obtain ⟨hT, hp_206⟩ := hw_203
            have hp_206 : rf_R G cx f1_205 ∧ rf_sm f1_157 f1_205 := hp_206
            have hR_207 := hp_206.1
            have hM_208 := rf_smt hM_160 hp_206.2.1
            have hP : va_P D vwCl ([(m, .inr (11, [.ref mw, .ref ma, .ref mf, .ref m0, .ref m1, .ref mu, .ref mv, .ref u0, .ref u1, .ref iz, .int th, .ref mb, .int mn, .int mpt, .int mbg, .int mwr, .int mwk, .int mlf, .int men])), (mw, .inl (ct 0, 958, .inl f1_205))] ++ ws_204) H := hP
            have hD : va_D A ([(m, .inr (11, [.ref mw, .ref ma, .ref mf, .ref m0, .ref m1, .ref mu, .ref mv, .ref u0, .ref u1, .ref iz, .int th, .ref mb, .int mn, .int mpt, .int mbg, .int mwr, .int mwk, .int mlf, .int men])), (mw, .inl (ct 0, 958, .inl f1_205))] ++ ws_204) := hD
            refine lv_iload_n hx hb dX11_ends_82 rfl (lv_at hl 0 rfl) ?_
            refine lv_if_eq (tgt := 108) hx hb dX11_ends_83 (by decide) (fun hc => absurd hc (by decide)) (fun _ => ?_)
            refine lv_aload_n hx hb dX11_ends_86 rfl (lv_at hl 2 rfl) ?_
            refine lv_iload_n hx hb dX11_ends_87 rfl (lv_at hl 3 rfl) ?_
            refine lv_bipush (v := 20) hx hb dX11_ends_88 (by decide) ?_
            refine lv_aload_n hx hb dX11_ends_90 rfl (lv_at hl 2 rfl) ?_
            refine lv_iload_n hx hb dX11_ends_91 rfl (lv_at hl 3 rfl) ?_
            refine lv_iconst (v := 1) hx hb dX11_ends_92 (by decide) ?_
            have hP : va_P D vwCl ([(mw, .inl (ct 0, 958, .inl f1_205)), (m, .inr (11, [.ref mw, .ref ma, .ref mf, .ref m0, .ref m1, .ref mu, .ref mv, .ref u0, .ref u1, .ref iz, .int th, .ref mb, .int mn, .int mpt, .int mbg, .int mwr, .int mwk, .int mlf, .int men]))] ++ ws_204) H := ty_permP hP (ty_ordp (E := [(m, .inr (11, [.ref mw, .ref ma, .ref mf, .ref m0, .ref m1, .ref mu, .ref mv, .ref u0, .ref u1, .ref iz, .int th, .ref mb, .int mn, .int mpt, .int mbg, .int mwr, .int mwk, .int mlf, .int men])), (mw, .inl (ct 0, 958, .inl f1_205))]) (E2 := [(mw, .inl (ct 0, 958, .inl f1_205)), (m, .inr (11, [.ref mw, .ref ma, .ref mf, .ref m0, .ref m1, .ref mu, .ref mv, .ref u0, .ref u1, .ref iz, .int th, .ref mb, .int mn, .int mpt, .int mbg, .int mwr, .int mwk, .int mlf, .int men]))]) [1, 0] rfl rfl (by decide))
            have hD : va_D A ([(mw, .inl (ct 0, 958, .inl f1_205)), (m, .inr (11, [.ref mw, .ref ma, .ref mf, .ref m0, .ref m1, .ref mu, .ref mv, .ref u0, .ref u1, .ref iz, .int th, .ref mb, .int mn, .int mpt, .int mbg, .int mwr, .int mwk, .int mlf, .int men]))] ++ ws_204) := ty_permD hD (ty_ordp (E := [(m, .inr (11, [.ref mw, .ref ma, .ref mf, .ref m0, .ref m1, .ref mu, .ref mv, .ref u0, .ref u1, .ref iz, .int th, .ref mb, .int mn, .int mpt, .int mbg, .int mwr, .int mwk, .int mlf, .int men])), (mw, .inl (ct 0, 958, .inl f1_205))]) (E2 := [(mw, .inl (ct 0, 958, .inl f1_205)), (m, .inr (11, [.ref mw, .ref ma, .ref mf, .ref m0, .ref m1, .ref mu, .ref mv, .ref u0, .ref u1, .ref iz, .int th, .ref mb, .int mn, .int mpt, .int mbg, .int mwr, .int mwk, .int mlf, .int men]))]) [1, 0] rfl rfl (by decide))
            refine ty_kl (wr := [(mw, .inl (ct 0, 958, .inl f1_205))]) (wc := ([(m, .inr (11, [.ref mw, .ref ma, .ref mf, .ref m0, .ref m1, .ref mu, .ref mv, .ref u0, .ref u1, .ref iz, .int th, .ref mb, .int mn, .int mpt, .int mbg, .int mwr, .int mwk, .int mlf, .int men]))] ++ ws_204)) (va_runV (As := [.int p1, .int 1]) (rest := [.int 20, .int p1, .ref m]) ⟨hx, hb, hml, hown, hts⟩ (m_X11_sum l D ct S ws_204 m mw ma mf m0 m1 mu mv u0 u1 iz mb th mn mpt mbg mwr mwk mlf men p1 (1 : Int32) _ hT h_mu h_mv h_u0 h_u1 h_mb (rf_c6 hR_207 hc) (by decide)) (cm_V 2 hts kc_X11_sum ki_RX11 kl_RX11_261 kv_X11_sum kx_X11_sum kd_X11_sum ⟨Nat.le_of_ble_eq_true rfl, Nat.le_of_ble_eq_true rfl⟩) (ty_preE (wr := [(mw, .inl (ct 0, 958, .inl f1_205))]) (wc := ([(m, .inr (11, [.ref mw, .ref ma, .ref mf, .ref m0, .ref m1, .ref mu, .ref mv, .ref u0, .ref u1, .ref iz, .int th, .ref mb, .int mn, .int mpt, .int mbg, .int mwr, .int mwk, .int mlf, .int men]))] ++ ws_204)) (ci := 11) (q0 := 1) hP hK hD hS hA hX rfl rfl) rfl rfl hl.1 rfl (lv_room (Nat.le_of_ble_eq_true rfl)) dX11_ends_93 ⟨Nat.le_of_ble_eq_true rfl, Nat.le_of_ble_eq_true rfl⟩) hP hD hS hA (fun r_209 u H locs hw_210 hP hD hS => ?_)
            obtain ⟨ws_211, rfl⟩ : ∃ z, z = u := ⟨_, rfl⟩
            have hT := hw_210
            have hP : va_P D vwCl ([(mw, .inl (ct 0, 958, .inl f1_205)), (m, .inr (11, [.ref mw, .ref ma, .ref mf, .ref m0, .ref m1, .ref mu, .ref mv, .ref u0, .ref u1, .ref iz, .int th, .ref mb, .int mn, .int mpt, .int mbg, .int mwr, .int mwk, .int mlf, .int men]))] ++ ws_211) H := hP
            have hD : va_D A ([(mw, .inl (ct 0, 958, .inl f1_205)), (m, .inr (11, [.ref mw, .ref ma, .ref mf, .ref m0, .ref m1, .ref mu, .ref mv, .ref u0, .ref u1, .ref iz, .int th, .ref mb, .int mn, .int mpt, .int mbg, .int mwr, .int mwk, .int mlf, .int men]))] ++ ws_211) := hD
            refine lv_aload_n hx hb dX11_ends_96 rfl (lv_at hl 2 rfl) ?_
            refine lv_iload_n hx hb dX11_ends_97 rfl (lv_at hl 3 rfl) ?_
            refine lv_bipush (v := 6) hx hb dX11_ends_98 (by decide) ?_
            refine ty_kl (wr := [(mw, .inl (ct 0, 958, .inl f1_205))]) (wc := ([(m, .inr (11, [.ref mw, .ref ma, .ref mf, .ref m0, .ref m1, .ref mu, .ref mv, .ref u0, .ref u1, .ref iz, .int th, .ref mb, .int mn, .int mpt, .int mbg, .int mwr, .int mwk, .int mlf, .int men]))] ++ ws_211)) (va_runV (As := [.int p1, .int 6]) (rest := [.long r_209, .int 20, .int p1, .ref m]) ⟨hx, hb, hml, hown, hts⟩ (m_X11_sum l D ct S ws_211 m mw ma mf m0 m1 mu mv u0 u1 iz mb th mn mpt mbg mwr mwk mlf men p1 (6 : Int32) _ hT h_mu h_mv h_u0 h_u1 h_mb (rf_c6 hR_207 hc) (by decide)) (cm_V 2 hts kc_X11_sum ki_RX11 kl_RX11_261 kv_X11_sum kx_X11_sum kd_X11_sum ⟨Nat.le_of_ble_eq_true rfl, Nat.le_of_ble_eq_true rfl⟩) (ty_preE (wr := [(mw, .inl (ct 0, 958, .inl f1_205))]) (wc := ([(m, .inr (11, [.ref mw, .ref ma, .ref mf, .ref m0, .ref m1, .ref mu, .ref mv, .ref u0, .ref u1, .ref iz, .int th, .ref mb, .int mn, .int mpt, .int mbg, .int mwr, .int mwk, .int mlf, .int men]))] ++ ws_211)) (ci := 11) (q0 := 1) hP hK hD hS hA hX rfl rfl) rfl rfl hl.1 rfl (lv_room (Nat.le_of_ble_eq_true rfl)) dX11_ends_100 ⟨Nat.le_of_ble_eq_true rfl, Nat.le_of_ble_eq_true rfl⟩) hP hD hS hA (fun r_212 u H locs hw_213 hP hD hS => ?_)
            obtain ⟨ws_214, rfl⟩ : ∃ z, z = u := ⟨_, rfl⟩
            have hT := hw_213
            have hP : va_P D vwCl ([(mw, .inl (ct 0, 958, .inl f1_205)), (m, .inr (11, [.ref mw, .ref ma, .ref mf, .ref m0, .ref m1, .ref mu, .ref mv, .ref u0, .ref u1, .ref iz, .int th, .ref mb, .int mn, .int mpt, .int mbg, .int mwr, .int mwk, .int mlf, .int men]))] ++ ws_214) H := hP
            have hD : va_D A ([(mw, .inl (ct 0, 958, .inl f1_205)), (m, .inr (11, [.ref mw, .ref ma, .ref mf, .ref m0, .ref m1, .ref mu, .ref mv, .ref u0, .ref u1, .ref iz, .int th, .ref mb, .int mn, .int mpt, .int mbg, .int mwr, .int mwk, .int mlf, .int men]))] ++ ws_214) := hD
            refine lv_lsub hx hb dX11_ends_103 ?_
            refine lv_topl (fun x_215 _ => ?_)
            refine lv_l2i hx hb dX11_ends_104 rfl ?_
            refine lv_topi (fun x_216 _ => ?_)
            have hP : va_P D vwCl ([(m, .inr (11, [.ref mw, .ref ma, .ref mf, .ref m0, .ref m1, .ref mu, .ref mv, .ref u0, .ref u1, .ref iz, .int th, .ref mb, .int mn, .int mpt, .int mbg, .int mwr, .int mwk, .int mlf, .int men])), (mw, .inl (ct 0, 958, .inl f1_205))] ++ ws_214) H := ty_permP hP (ty_ordp (E := [(mw, .inl (ct 0, 958, .inl f1_205)), (m, .inr (11, [.ref mw, .ref ma, .ref mf, .ref m0, .ref m1, .ref mu, .ref mv, .ref u0, .ref u1, .ref iz, .int th, .ref mb, .int mn, .int mpt, .int mbg, .int mwr, .int mwk, .int mlf, .int men]))]) (E2 := [(m, .inr (11, [.ref mw, .ref ma, .ref mf, .ref m0, .ref m1, .ref mu, .ref mv, .ref u0, .ref u1, .ref iz, .int th, .ref mb, .int mn, .int mpt, .int mbg, .int mwr, .int mwk, .int mlf, .int men])), (mw, .inl (ct 0, 958, .inl f1_205))]) [1, 0] rfl rfl (by decide))
            have hD : va_D A ([(m, .inr (11, [.ref mw, .ref ma, .ref mf, .ref m0, .ref m1, .ref mu, .ref mv, .ref u0, .ref u1, .ref iz, .int th, .ref mb, .int mn, .int mpt, .int mbg, .int mwr, .int mwk, .int mlf, .int men])), (mw, .inl (ct 0, 958, .inl f1_205))] ++ ws_214) := ty_permD hD (ty_ordp (E := [(mw, .inl (ct 0, 958, .inl f1_205)), (m, .inr (11, [.ref mw, .ref ma, .ref mf, .ref m0, .ref m1, .ref mu, .ref mv, .ref u0, .ref u1, .ref iz, .int th, .ref mb, .int mn, .int mpt, .int mbg, .int mwr, .int mwk, .int mlf, .int men]))]) (E2 := [(m, .inr (11, [.ref mw, .ref ma, .ref mf, .ref m0, .ref m1, .ref mu, .ref mv, .ref u0, .ref u1, .ref iz, .int th, .ref mb, .int mn, .int mpt, .int mbg, .int mwr, .int mwk, .int mlf, .int men])), (mw, .inl (ct 0, 958, .inl f1_205))]) [1, 0] rfl rfl (by decide))
            refine ty_kv (wr := []) (wc := ([(m, .inr (11, [.ref mw, .ref ma, .ref mf, .ref m0, .ref m1, .ref mu, .ref mv, .ref u0, .ref u1, .ref iz, .int th, .ref mb, .int mn, .int mpt, .int mbg, .int mwr, .int mwk, .int mlf, .int men])), (mw, .inl (ct 0, 958, .inl f1_205))] ++ ws_214)) (va_runV (As := [.int p1, .int 20, .int x_216]) (rest := []) ⟨hx, hb, hml, hown, hts⟩ (m_put_20 l D ct S ws_214 m mw ma mf m0 m1 mu mv u0 u1 iz mb th mn mpt mbg mwr mwk mlf men f1_205 G cx p1 x_216 _ hT h_mu h_mv h_u0 h_u1 h_mb hR_207 hc) (cm_V 3 hts kc_X11_put ki_RX11 kl_RX11_234 kv_X11_put kx_X11_put kd_X11_put ⟨Nat.le_of_ble_eq_true rfl, Nat.le_of_ble_eq_true rfl⟩) (ty_preE (wr := []) (wc := ([(m, .inr (11, [.ref mw, .ref ma, .ref mf, .ref m0, .ref m1, .ref mu, .ref mv, .ref u0, .ref u1, .ref iz, .int th, .ref mb, .int mn, .int mpt, .int mbg, .int mwr, .int mwk, .int mlf, .int men])), (mw, .inl (ct 0, 958, .inl f1_205))] ++ ws_214)) (ci := 11) (q0 := 0) hP hK hD hS hA hX rfl rfl) rfl rfl hl.1 rfl (lv_room (Nat.le_of_ble_eq_true rfl)) dX11_ends_105 ⟨Nat.le_of_ble_eq_true rfl, Nat.le_of_ble_eq_true rfl⟩) hP hD hS hA (fun u H locs hw_218 hP hD hS => ?_)
            obtain ⟨ws_219, f1_220⟩ := u
            obtain ⟨hT, hp_221⟩ := hw_218
            have hp_221 : rf_R G cx f1_220 ∧ rf_sm f1_205 f1_220 ∧ f1_220 = upd f1_205 (244 + 54 * p1.toInt.toNat + 20) x_216 := hp_221
            have hR_222 := hp_221.1
            have hM_223 := rf_smt hM_208 hp_221.2.1
            have hP : va_P D vwCl ([(m, .inr (11, [.ref mw, .ref ma, .ref mf, .ref m0, .ref m1, .ref mu, .ref mv, .ref u0, .ref u1, .ref iz, .int th, .ref mb, .int mn, .int mpt, .int mbg, .int mwr, .int mwk, .int mlf, .int men])), (mw, .inl (ct 0, 958, .inl f1_220))] ++ ws_219) H := hP
            have hD : va_D A ([(m, .inr (11, [.ref mw, .ref ma, .ref mf, .ref m0, .ref m1, .ref mu, .ref mv, .ref u0, .ref u1, .ref iz, .int th, .ref mb, .int mn, .int mpt, .int mbg, .int mwr, .int mwk, .int mlf, .int men])), (mw, .inl (ct 0, 958, .inl f1_220))] ++ ws_219) := hD
            refine lv_aload_n hx hb dX11_ends_108 rfl (lv_at hl 2 rfl) ?_
            refine lv_iload_n hx hb dX11_ends_109 rfl (lv_at hl 3 rfl) ?_
            refine ty_kv (wr := []) (wc := ([(m, .inr (11, [.ref mw, .ref ma, .ref mf, .ref m0, .ref m1, .ref mu, .ref mv, .ref u0, .ref u1, .ref iz, .int th, .ref mb, .int mn, .int mpt, .int mbg, .int mwr, .int mwk, .int mlf, .int men])), (mw, .inl (ct 0, 958, .inl f1_220))] ++ ws_219)) (va_runV (As := [.int p1]) (rest := []) ⟨hx, hb, hml, hown, hts⟩ (m_X11_clears l D ct S ws_219 m mw ma mf m0 m1 mu mv u0 u1 iz mb th mn mpt mbg mwr mwk mlf men f1_220 G cx p1 _ hT h_mu h_mv h_u0 h_u1 h_mb hR_222 hc) (cm_V 1 hts kc_X11_clears ki_RX11 kl_RX11_272 kv_X11_clears kx_X11_clears kd_X11_clears ⟨Nat.le_of_ble_eq_true rfl, Nat.le_of_ble_eq_true rfl⟩) (ty_preE (wr := []) (wc := ([(m, .inr (11, [.ref mw, .ref ma, .ref mf, .ref m0, .ref m1, .ref mu, .ref mv, .ref u0, .ref u1, .ref iz, .int th, .ref mb, .int mn, .int mpt, .int mbg, .int mwr, .int mwk, .int mlf, .int men])), (mw, .inl (ct 0, 958, .inl f1_220))] ++ ws_219)) (ci := 11) (q0 := 0) hP hK hD hS hA hX rfl rfl) rfl rfl hl.1 rfl (lv_room (Nat.le_of_ble_eq_true rfl)) dX11_ends_110 ⟨Nat.le_of_ble_eq_true rfl, Nat.le_of_ble_eq_true rfl⟩) hP hD hS hA (fun u H locs hw_225 hP hD hS => ?_)
            obtain ⟨ws_226, f1_227⟩ := u
            obtain ⟨hT, hp_228⟩ := hw_225
            have hp_228 : rf_R G cx f1_227 ∧ rf_sm f1_220 f1_227 := hp_228
            have hR_229 := hp_228.1
            have hM_230 := rf_smt hM_223 hp_228.2.1
            have hP : va_P D vwCl ([(m, .inr (11, [.ref mw, .ref ma, .ref mf, .ref m0, .ref m1, .ref mu, .ref mv, .ref u0, .ref u1, .ref iz, .int th, .ref mb, .int mn, .int mpt, .int mbg, .int mwr, .int mwk, .int mlf, .int men])), (mw, .inl (ct 0, 958, .inl f1_227))] ++ ws_226) H := hP
            have hD : va_D A ([(m, .inr (11, [.ref mw, .ref ma, .ref mf, .ref m0, .ref m1, .ref mu, .ref mv, .ref u0, .ref u1, .ref iz, .int th, .ref mb, .int mn, .int mpt, .int mbg, .int mwr, .int mwk, .int mlf, .int men])), (mw, .inl (ct 0, 958, .inl f1_227))] ++ ws_226) := hD
            exact W.vret hx hb hr (fun t ht hW => ⟨⟨(ws_226, f1_227), rfl, ⟨hT, ⟨hR_229, hM_230⟩⟩, by rw [ht]; exact hP, by rw [hAe]; exact hD⟩, hS.F ht⟩) hS.2.2 dX11_ends_113
      · exact W.vret hx hb hr (fun t ht hW => ⟨⟨(ws_156, f1_157), rfl, ⟨hT, ⟨hR_159, hM_160⟩⟩, by rw [ht]; exact hP, by rw [hAe]; exact hD⟩, hS.F ht⟩) hS.2.2 dX11_ends_43
    · refine lv_aload_n hx hb dX11_ends_25 rfl (lv_at hl 1 rfl) ?_
      refine lv_iload_n hx hb dX11_ends_26 rfl (lv_at hl 2 rfl) ?_
      refine lv_bipush (v := 19) hx hb dX11_ends_27 (by decide) ?_
      refine lv_aload_n hx hb dX11_ends_29 rfl (lv_at hl 1 rfl) ?_
      refine lv_iload_n hx hb dX11_ends_30 rfl (lv_at hl 2 rfl) ?_
      refine lv_iconst (v := 5) hx hb dX11_ends_31 (by decide) ?_
      refine ty_ki (wr := []) (wc := ([(m, .inr (11, [.ref mw, .ref ma, .ref mf, .ref m0, .ref m1, .ref mu, .ref mv, .ref u0, .ref u1, .ref iz, .int th, .ref mb, .int mn, .int mpt, .int mbg, .int mwr, .int mwk, .int mlf, .int men])), (mw, .inl (ct 0, 958, .inl f1_157))] ++ ws_156)) (va_runV (As := [.int p1, .int 5]) (rest := [.int 19, .int p1, .ref m]) ⟨hx, hb, hml, hown, hts⟩ (m_of_5 l D ct S ws_156 m mw ma mf m0 m1 mu mv u0 u1 iz mb th mn mpt mbg mwr mwk mlf men f1_157 G cx p1 _ hT h_mu h_mv h_u0 h_u1 h_mb hR_159 hc) (cm_V 2 hts kc_X11_of ki_RX11 kl_RX11_209 kv_X11_of kx_X11_of kd_X11_of ⟨Nat.le_of_ble_eq_true rfl, Nat.le_of_ble_eq_true rfl⟩) (ty_preE (wr := []) (wc := ([(m, .inr (11, [.ref mw, .ref ma, .ref mf, .ref m0, .ref m1, .ref mu, .ref mv, .ref u0, .ref u1, .ref iz, .int th, .ref mb, .int mn, .int mpt, .int mbg, .int mwr, .int mwk, .int mlf, .int men])), (mw, .inl (ct 0, 958, .inl f1_157))] ++ ws_156)) (ci := 11) (q0 := 0) hP hK hD hS hA hX rfl rfl) rfl rfl hl.1 rfl (lv_room (Nat.le_of_ble_eq_true rfl)) dX11_ends_32 ⟨Nat.le_of_ble_eq_true rfl, Nat.le_of_ble_eq_true rfl⟩) hP hD hS hA (fun r_231 u H locs hw_232 hP hD hS => ?_)
      obtain ⟨ws_233, rfl⟩ : ∃ z, z = u := ⟨_, rfl⟩
      obtain ⟨hT, rfl⟩ := hw_232
      have hP : va_P D vwCl ([(m, .inr (11, [.ref mw, .ref ma, .ref mf, .ref m0, .ref m1, .ref mu, .ref mv, .ref u0, .ref u1, .ref iz, .int th, .ref mb, .int mn, .int mpt, .int mbg, .int mwr, .int mwk, .int mlf, .int men])), (mw, .inl (ct 0, 958, .inl f1_157))] ++ ws_233) H := hP
      have hD : va_D A ([(m, .inr (11, [.ref mw, .ref ma, .ref mf, .ref m0, .ref m1, .ref mu, .ref mv, .ref u0, .ref u1, .ref iz, .int th, .ref mb, .int mn, .int mpt, .int mbg, .int mwr, .int mwk, .int mlf, .int men])), (mw, .inl (ct 0, 958, .inl f1_157))] ++ ws_233) := hD
      refine ty_kv (wr := []) (wc := ([(m, .inr (11, [.ref mw, .ref ma, .ref mf, .ref m0, .ref m1, .ref mu, .ref mv, .ref u0, .ref u1, .ref iz, .int th, .ref mb, .int mn, .int mpt, .int mbg, .int mwr, .int mwk, .int mlf, .int men])), (mw, .inl (ct 0, 958, .inl f1_157))] ++ ws_233)) (va_runV (As := [.int p1, .int 19, .int (rf_of f1_157 p1 5)]) (rest := []) ⟨hx, hb, hml, hown, hts⟩ (m_put_19 l D ct S ws_233 m mw ma mf m0 m1 mu mv u0 u1 iz mb th mn mpt mbg mwr mwk mlf men f1_157 G cx p1 (rf_of f1_157 p1 5) _ hT h_mu h_mv h_u0 h_u1 h_mb hR_159 hc) (cm_V 3 hts kc_X11_put ki_RX11 kl_RX11_234 kv_X11_put kx_X11_put kd_X11_put ⟨Nat.le_of_ble_eq_true rfl, Nat.le_of_ble_eq_true rfl⟩) (ty_preE (wr := []) (wc := ([(m, .inr (11, [.ref mw, .ref ma, .ref mf, .ref m0, .ref m1, .ref mu, .ref mv, .ref u0, .ref u1, .ref iz, .int th, .ref mb, .int mn, .int mpt, .int mbg, .int mwr, .int mwk, .int mlf, .int men])), (mw, .inl (ct 0, 958, .inl f1_157))] ++ ws_233)) (ci := 11) (q0 := 0) hP hK hD hS hA hX rfl rfl) rfl rfl hl.1 rfl (lv_room (Nat.le_of_ble_eq_true rfl)) dX11_ends_35 ⟨Nat.le_of_ble_eq_true rfl, Nat.le_of_ble_eq_true rfl⟩) hP hD hS hA (fun u H locs hw_235 hP hD hS => ?_)
      obtain ⟨ws_236, f1_237⟩ := u
      obtain ⟨hT, hp_238⟩ := hw_235
      have hp_238 : rf_R G cx f1_237 ∧ rf_sm f1_157 f1_237 ∧ f1_237 = upd f1_157 (244 + 54 * p1.toInt.toNat + 19) (rf_of f1_157 p1 5) := hp_238
      have hR_239 := hp_238.1
      have hM_240 := rf_smt hM_160 hp_238.2.1
      have hP : va_P D vwCl ([(m, .inr (11, [.ref mw, .ref ma, .ref mf, .ref m0, .ref m1, .ref mu, .ref mv, .ref u0, .ref u1, .ref iz, .int th, .ref mb, .int mn, .int mpt, .int mbg, .int mwr, .int mwk, .int mlf, .int men])), (mw, .inl (ct 0, 958, .inl f1_237))] ++ ws_236) H := hP
      have hD : va_D A ([(m, .inr (11, [.ref mw, .ref ma, .ref mf, .ref m0, .ref m1, .ref mu, .ref mv, .ref u0, .ref u1, .ref iz, .int th, .ref mb, .int mn, .int mpt, .int mbg, .int mwr, .int mwk, .int mlf, .int men])), (mw, .inl (ct 0, 958, .inl f1_237))] ++ ws_236) := hD
      refine lv_iload_n hx hb dX11_ends_38 rfl (lv_at hl 0 rfl) ?_
      refine lv_iconst (v := 2) hx hb dX11_ends_39 (by decide) ?_
      refine lv_icmp_eq (tgt := 44) hx hb dX11_ends_40 (by decide) (fun hc_241 => ?_) (fun hc_241 => ?_)
      · refine lv_aload_n hx hb dX11_ends_44 rfl (lv_at hl 1 rfl) ?_
        refine lv_iload_n hx hb dX11_ends_45 rfl (lv_at hl 2 rfl) ?_
        refine lv_bipush (v := 21) hx hb dX11_ends_46 (by decide) ?_
        refine ty_ki (wr := []) (wc := ([(m, .inr (11, [.ref mw, .ref ma, .ref mf, .ref m0, .ref m1, .ref mu, .ref mv, .ref u0, .ref u1, .ref iz, .int th, .ref mb, .int mn, .int mpt, .int mbg, .int mwr, .int mwk, .int mlf, .int men])), (mw, .inl (ct 0, 958, .inl f1_237))] ++ ws_236)) (va_runV (As := [.int p1, .int 21]) (rest := []) ⟨hx, hb, hml, hown, hts⟩ (m_of_21 l D ct S ws_236 m mw ma mf m0 m1 mu mv u0 u1 iz mb th mn mpt mbg mwr mwk mlf men f1_237 G cx p1 _ hT h_mu h_mv h_u0 h_u1 h_mb hR_239 hc) (cm_V 2 hts kc_X11_of ki_RX11 kl_RX11_209 kv_X11_of kx_X11_of kd_X11_of ⟨Nat.le_of_ble_eq_true rfl, Nat.le_of_ble_eq_true rfl⟩) (ty_preE (wr := []) (wc := ([(m, .inr (11, [.ref mw, .ref ma, .ref mf, .ref m0, .ref m1, .ref mu, .ref mv, .ref u0, .ref u1, .ref iz, .int th, .ref mb, .int mn, .int mpt, .int mbg, .int mwr, .int mwk, .int mlf, .int men])), (mw, .inl (ct 0, 958, .inl f1_237))] ++ ws_236)) (ci := 11) (q0 := 0) hP hK hD hS hA hX rfl rfl) rfl rfl hl.1 rfl (lv_room (Nat.le_of_ble_eq_true rfl)) dX11_ends_48 ⟨Nat.le_of_ble_eq_true rfl, Nat.le_of_ble_eq_true rfl⟩) hP hD hS hA (fun r_242 u H locs hw_243 hP hD hS => ?_)
        obtain ⟨ws_244, rfl⟩ : ∃ z, z = u := ⟨_, rfl⟩
        obtain ⟨hT, rfl⟩ := hw_243
        have hP : va_P D vwCl ([(m, .inr (11, [.ref mw, .ref ma, .ref mf, .ref m0, .ref m1, .ref mu, .ref mv, .ref u0, .ref u1, .ref iz, .int th, .ref mb, .int mn, .int mpt, .int mbg, .int mwr, .int mwk, .int mlf, .int men])), (mw, .inl (ct 0, 958, .inl f1_237))] ++ ws_244) H := hP
        have hD : va_D A ([(m, .inr (11, [.ref mw, .ref ma, .ref mf, .ref m0, .ref m1, .ref mu, .ref mv, .ref u0, .ref u1, .ref iz, .int th, .ref mb, .int mn, .int mpt, .int mbg, .int mwr, .int mwk, .int mlf, .int men])), (mw, .inl (ct 0, 958, .inl f1_237))] ++ ws_244) := hD
        refine lv_iconst (v := 1) hx hb dX11_ends_51 (by decide) ?_
        refine lv_icmp_ne (tgt := 74) hx hb dX11_ends_52 (by decide) (fun hc_245 => ?_) (fun hc_245 => ?_)
        · refine lv_iconst (v := 0) hx hb dX11_ends_74 (by decide) ?_
          refine lv_istore_n (lv' := [(3, .int 0), (2, .int (rf_st3 f p1 0)), (0, .ref m), (1, .int p1)]) hx hb dX11_ends_75 rfl hl (by decide) rfl (fun ls hl => ?_)
          refine lv_aload_n hx hb dX11_ends_76 rfl (lv_at hl 2 rfl) ?_
          refine lv_iload_n hx hb dX11_ends_77 rfl (lv_at hl 3 rfl) ?_
          refine lv_iload_n hx hb dX11_ends_78 rfl (lv_at hl 0 rfl) ?_
          refine ty_kv (wr := []) (wc := ([(m, .inr (11, [.ref mw, .ref ma, .ref mf, .ref m0, .ref m1, .ref mu, .ref mv, .ref u0, .ref u1, .ref iz, .int th, .ref mb, .int mn, .int mpt, .int mbg, .int mwr, .int mwk, .int mlf, .int men])), (mw, .inl (ct 0, 958, .inl f1_237))] ++ ws_244)) (va_runV (As := [.int p1, .int 0]) (rest := []) ⟨hx, hb, hml, hown, hts⟩ (m_X11_records l D ct S ws_244 m mw ma mf m0 m1 mu mv u0 u1 iz mb th mn mpt mbg mwr mwk mlf men f1_237 G cx p1 (0 : Int32) _ hT h_mu h_mv h_u0 h_u1 h_mb hR_239 hc) (cm_V 2 hts kc_X11_records ki_RX11 kl_RX11_268 kv_X11_records kx_X11_records kd_X11_records ⟨Nat.le_of_ble_eq_true rfl, Nat.le_of_ble_eq_true rfl⟩) (ty_preE (wr := []) (wc := ([(m, .inr (11, [.ref mw, .ref ma, .ref mf, .ref m0, .ref m1, .ref mu, .ref mv, .ref u0, .ref u1, .ref iz, .int th, .ref mb, .int mn, .int mpt, .int mbg, .int mwr, .int mwk, .int mlf, .int men])), (mw, .inl (ct 0, 958, .inl f1_237))] ++ ws_244)) (ci := 11) (q0 := 0) hP hK hD hS hA hX rfl rfl) rfl rfl hl.1 rfl (lv_room (Nat.le_of_ble_eq_true rfl)) dX11_ends_79 ⟨Nat.le_of_ble_eq_true rfl, Nat.le_of_ble_eq_true rfl⟩) hP hD hS hA (fun u H locs hw_247 hP hD hS => ?_)
          obtain ⟨ws_248, f1_249⟩ := u
          obtain ⟨hT, hp_250⟩ := hw_247
          have hp_250 : rf_R G cx f1_249 ∧ rf_sm f1_237 f1_249 := hp_250
          have hR_251 := hp_250.1
          have hM_252 := rf_smt hM_240 hp_250.2.1
          have hP : va_P D vwCl ([(m, .inr (11, [.ref mw, .ref ma, .ref mf, .ref m0, .ref m1, .ref mu, .ref mv, .ref u0, .ref u1, .ref iz, .int th, .ref mb, .int mn, .int mpt, .int mbg, .int mwr, .int mwk, .int mlf, .int men])), (mw, .inl (ct 0, 958, .inl f1_249))] ++ ws_248) H := hP
          have hD : va_D A ([(m, .inr (11, [.ref mw, .ref ma, .ref mf, .ref m0, .ref m1, .ref mu, .ref mv, .ref u0, .ref u1, .ref iz, .int th, .ref mb, .int mn, .int mpt, .int mbg, .int mwr, .int mwk, .int mlf, .int men])), (mw, .inl (ct 0, 958, .inl f1_249))] ++ ws_248) := hD
          refine lv_iload_n hx hb dX11_ends_82 rfl (lv_at hl 0 rfl) ?_
          refine lv_if_eq (tgt := 108) hx hb dX11_ends_83 (by decide) (fun _ => ?_) (fun hc => absurd (by decide) hc)
          refine lv_aload_n hx hb dX11_ends_108 rfl (lv_at hl 2 rfl) ?_
          refine lv_iload_n hx hb dX11_ends_109 rfl (lv_at hl 3 rfl) ?_
          refine ty_kv (wr := []) (wc := ([(m, .inr (11, [.ref mw, .ref ma, .ref mf, .ref m0, .ref m1, .ref mu, .ref mv, .ref u0, .ref u1, .ref iz, .int th, .ref mb, .int mn, .int mpt, .int mbg, .int mwr, .int mwk, .int mlf, .int men])), (mw, .inl (ct 0, 958, .inl f1_249))] ++ ws_248)) (va_runV (As := [.int p1]) (rest := []) ⟨hx, hb, hml, hown, hts⟩ (m_X11_clears l D ct S ws_248 m mw ma mf m0 m1 mu mv u0 u1 iz mb th mn mpt mbg mwr mwk mlf men f1_249 G cx p1 _ hT h_mu h_mv h_u0 h_u1 h_mb hR_251 hc) (cm_V 1 hts kc_X11_clears ki_RX11 kl_RX11_272 kv_X11_clears kx_X11_clears kd_X11_clears ⟨Nat.le_of_ble_eq_true rfl, Nat.le_of_ble_eq_true rfl⟩) (ty_preE (wr := []) (wc := ([(m, .inr (11, [.ref mw, .ref ma, .ref mf, .ref m0, .ref m1, .ref mu, .ref mv, .ref u0, .ref u1, .ref iz, .int th, .ref mb, .int mn, .int mpt, .int mbg, .int mwr, .int mwk, .int mlf, .int men])), (mw, .inl (ct 0, 958, .inl f1_249))] ++ ws_248)) (ci := 11) (q0 := 0) hP hK hD hS hA hX rfl rfl) rfl rfl hl.1 rfl (lv_room (Nat.le_of_ble_eq_true rfl)) dX11_ends_110 ⟨Nat.le_of_ble_eq_true rfl, Nat.le_of_ble_eq_true rfl⟩) hP hD hS hA (fun u H locs hw_254 hP hD hS => ?_)
          obtain ⟨ws_255, f1_256⟩ := u
          obtain ⟨hT, hp_257⟩ := hw_254
          have hp_257 : rf_R G cx f1_256 ∧ rf_sm f1_249 f1_256 := hp_257
          have hR_258 := hp_257.1
          have hM_259 := rf_smt hM_252 hp_257.2.1
          have hP : va_P D vwCl ([(m, .inr (11, [.ref mw, .ref ma, .ref mf, .ref m0, .ref m1, .ref mu, .ref mv, .ref u0, .ref u1, .ref iz, .int th, .ref mb, .int mn, .int mpt, .int mbg, .int mwr, .int mwk, .int mlf, .int men])), (mw, .inl (ct 0, 958, .inl f1_256))] ++ ws_255) H := hP
          have hD : va_D A ([(m, .inr (11, [.ref mw, .ref ma, .ref mf, .ref m0, .ref m1, .ref mu, .ref mv, .ref u0, .ref u1, .ref iz, .int th, .ref mb, .int mn, .int mpt, .int mbg, .int mwr, .int mwk, .int mlf, .int men])), (mw, .inl (ct 0, 958, .inl f1_256))] ++ ws_255) := hD
          exact W.vret hx hb hr (fun t ht hW => ⟨⟨(ws_255, f1_256), rfl, ⟨hT, ⟨hR_258, hM_259⟩⟩, by rw [ht]; exact hP, by rw [hAe]; exact hD⟩, hS.F ht⟩) hS.2.2 dX11_ends_113
        · refine lv_aload_n hx hb dX11_ends_55 rfl (lv_at hl 1 rfl) ?_
          refine lv_iload_n hx hb dX11_ends_56 rfl (lv_at hl 2 rfl) ?_
          refine lv_iconst (v := 5) hx hb dX11_ends_57 (by decide) ?_
          refine ty_ki (wr := []) (wc := ([(m, .inr (11, [.ref mw, .ref ma, .ref mf, .ref m0, .ref m1, .ref mu, .ref mv, .ref u0, .ref u1, .ref iz, .int th, .ref mb, .int mn, .int mpt, .int mbg, .int mwr, .int mwk, .int mlf, .int men])), (mw, .inl (ct 0, 958, .inl f1_237))] ++ ws_244)) (va_runV (As := [.int p1, .int 5]) (rest := []) ⟨hx, hb, hml, hown, hts⟩ (m_of_5 l D ct S ws_244 m mw ma mf m0 m1 mu mv u0 u1 iz mb th mn mpt mbg mwr mwk mlf men f1_237 G cx p1 _ hT h_mu h_mv h_u0 h_u1 h_mb hR_239 hc) (cm_V 2 hts kc_X11_of ki_RX11 kl_RX11_209 kv_X11_of kx_X11_of kd_X11_of ⟨Nat.le_of_ble_eq_true rfl, Nat.le_of_ble_eq_true rfl⟩) (ty_preE (wr := []) (wc := ([(m, .inr (11, [.ref mw, .ref ma, .ref mf, .ref m0, .ref m1, .ref mu, .ref mv, .ref u0, .ref u1, .ref iz, .int th, .ref mb, .int mn, .int mpt, .int mbg, .int mwr, .int mwk, .int mlf, .int men])), (mw, .inl (ct 0, 958, .inl f1_237))] ++ ws_244)) (ci := 11) (q0 := 0) hP hK hD hS hA hX rfl rfl) rfl rfl hl.1 rfl (lv_room (Nat.le_of_ble_eq_true rfl)) dX11_ends_58 ⟨Nat.le_of_ble_eq_true rfl, Nat.le_of_ble_eq_true rfl⟩) hP hD hS hA (fun r_260 u H locs hw_261 hP hD hS => ?_)
          obtain ⟨ws_262, rfl⟩ : ∃ z, z = u := ⟨_, rfl⟩
          obtain ⟨hT, rfl⟩ := hw_261
          have hP : va_P D vwCl ([(m, .inr (11, [.ref mw, .ref ma, .ref mf, .ref m0, .ref m1, .ref mu, .ref mv, .ref u0, .ref u1, .ref iz, .int th, .ref mb, .int mn, .int mpt, .int mbg, .int mwr, .int mwk, .int mlf, .int men])), (mw, .inl (ct 0, 958, .inl f1_237))] ++ ws_262) H := hP
          have hD : va_D A ([(m, .inr (11, [.ref mw, .ref ma, .ref mf, .ref m0, .ref m1, .ref mu, .ref mv, .ref u0, .ref u1, .ref iz, .int th, .ref mb, .int mn, .int mpt, .int mbg, .int mwr, .int mwk, .int mlf, .int men])), (mw, .inl (ct 0, 958, .inl f1_237))] ++ ws_262) := hD
          refine lv_aload_n hx hb dX11_ends_61 rfl (lv_at hl 1 rfl) ?_
          refine lv_iload_n hx hb dX11_ends_62 rfl (lv_at hl 2 rfl) ?_
          refine lv_iconst (v := 2) hx hb dX11_ends_63 (by decide) ?_
          refine ty_ki (wr := []) (wc := ([(m, .inr (11, [.ref mw, .ref ma, .ref mf, .ref m0, .ref m1, .ref mu, .ref mv, .ref u0, .ref u1, .ref iz, .int th, .ref mb, .int mn, .int mpt, .int mbg, .int mwr, .int mwk, .int mlf, .int men])), (mw, .inl (ct 0, 958, .inl f1_237))] ++ ws_262)) (va_runV (As := [.int p1, .int 2]) (rest := [.int (rf_of f1_237 p1 5)]) ⟨hx, hb, hml, hown, hts⟩ (m_step_2 l D ct S ws_262 m mw ma mf m0 m1 mu mv u0 u1 iz mb th mn mpt mbg mwr mwk mlf men f1_237 G cx p1 _ hT h_mu h_mv h_u0 h_u1 h_mb hR_239 hc (by decide)) (cm_V 2 hts kc_X11_step ki_RX11 kl_RX11_228 kv_X11_step kx_X11_step kd_X11_step ⟨Nat.le_of_ble_eq_true rfl, Nat.le_of_ble_eq_true rfl⟩) (ty_preE (wr := []) (wc := ([(m, .inr (11, [.ref mw, .ref ma, .ref mf, .ref m0, .ref m1, .ref mu, .ref mv, .ref u0, .ref u1, .ref iz, .int th, .ref mb, .int mn, .int mpt, .int mbg, .int mwr, .int mwk, .int mlf, .int men])), (mw, .inl (ct 0, 958, .inl f1_237))] ++ ws_262)) (ci := 11) (q0 := 0) hP hK hD hS hA hX rfl rfl) rfl rfl hl.1 rfl (lv_room (Nat.le_of_ble_eq_true rfl)) dX11_ends_64 ⟨Nat.le_of_ble_eq_true rfl, Nat.le_of_ble_eq_true rfl⟩) hP hD hS hA (fun r_263 u H locs hw_264 hP hD hS => ?_)
          obtain ⟨ws_265, rfl⟩ : ∃ z, z = u := ⟨_, rfl⟩
          obtain ⟨hT, rfl⟩ := hw_264
          have hP : va_P D vwCl ([(m, .inr (11, [.ref mw, .ref ma, .ref mf, .ref m0, .ref m1, .ref mu, .ref mv, .ref u0, .ref u1, .ref iz, .int th, .ref mb, .int mn, .int mpt, .int mbg, .int mwr, .int mwk, .int mlf, .int men])), (mw, .inl (ct 0, 958, .inl f1_237))] ++ ws_265) H := hP
          have hD : va_D A ([(m, .inr (11, [.ref mw, .ref ma, .ref mf, .ref m0, .ref m1, .ref mu, .ref mv, .ref u0, .ref u1, .ref iz, .int th, .ref mb, .int mn, .int mpt, .int mbg, .int mwr, .int mwk, .int mlf, .int men])), (mw, .inl (ct 0, 958, .inl f1_237))] ++ ws_265) := hD
          refine lv_icmp_gt (tgt := 74) hx hb dX11_ends_67 (by decide) (fun hc_266 => ?_) (fun hc_266 => ?_)
          · refine lv_iconst (v := 0) hx hb dX11_ends_74 (by decide) ?_
            refine lv_istore_n (lv' := [(3, .int 0), (2, .int (rf_st3 f p1 0)), (0, .ref m), (1, .int p1)]) hx hb dX11_ends_75 rfl hl (by decide) rfl (fun ls hl => ?_)
            refine lv_aload_n hx hb dX11_ends_76 rfl (lv_at hl 2 rfl) ?_
            refine lv_iload_n hx hb dX11_ends_77 rfl (lv_at hl 3 rfl) ?_
            refine lv_iload_n hx hb dX11_ends_78 rfl (lv_at hl 0 rfl) ?_
            refine ty_kv (wr := []) (wc := ([(m, .inr (11, [.ref mw, .ref ma, .ref mf, .ref m0, .ref m1, .ref mu, .ref mv, .ref u0, .ref u1, .ref iz, .int th, .ref mb, .int mn, .int mpt, .int mbg, .int mwr, .int mwk, .int mlf, .int men])), (mw, .inl (ct 0, 958, .inl f1_237))] ++ ws_265)) (va_runV (As := [.int p1, .int 0]) (rest := []) ⟨hx, hb, hml, hown, hts⟩ (m_X11_records l D ct S ws_265 m mw ma mf m0 m1 mu mv u0 u1 iz mb th mn mpt mbg mwr mwk mlf men f1_237 G cx p1 (0 : Int32) _ hT h_mu h_mv h_u0 h_u1 h_mb hR_239 hc) (cm_V 2 hts kc_X11_records ki_RX11 kl_RX11_268 kv_X11_records kx_X11_records kd_X11_records ⟨Nat.le_of_ble_eq_true rfl, Nat.le_of_ble_eq_true rfl⟩) (ty_preE (wr := []) (wc := ([(m, .inr (11, [.ref mw, .ref ma, .ref mf, .ref m0, .ref m1, .ref mu, .ref mv, .ref u0, .ref u1, .ref iz, .int th, .ref mb, .int mn, .int mpt, .int mbg, .int mwr, .int mwk, .int mlf, .int men])), (mw, .inl (ct 0, 958, .inl f1_237))] ++ ws_265)) (ci := 11) (q0 := 0) hP hK hD hS hA hX rfl rfl) rfl rfl hl.1 rfl (lv_room (Nat.le_of_ble_eq_true rfl)) dX11_ends_79 ⟨Nat.le_of_ble_eq_true rfl, Nat.le_of_ble_eq_true rfl⟩) hP hD hS hA (fun u H locs hw_268 hP hD hS => ?_)
            obtain ⟨ws_269, f1_270⟩ := u
            obtain ⟨hT, hp_271⟩ := hw_268
            have hp_271 : rf_R G cx f1_270 ∧ rf_sm f1_237 f1_270 := hp_271
            have hR_272 := hp_271.1
            have hM_273 := rf_smt hM_240 hp_271.2.1
            have hP : va_P D vwCl ([(m, .inr (11, [.ref mw, .ref ma, .ref mf, .ref m0, .ref m1, .ref mu, .ref mv, .ref u0, .ref u1, .ref iz, .int th, .ref mb, .int mn, .int mpt, .int mbg, .int mwr, .int mwk, .int mlf, .int men])), (mw, .inl (ct 0, 958, .inl f1_270))] ++ ws_269) H := hP
            have hD : va_D A ([(m, .inr (11, [.ref mw, .ref ma, .ref mf, .ref m0, .ref m1, .ref mu, .ref mv, .ref u0, .ref u1, .ref iz, .int th, .ref mb, .int mn, .int mpt, .int mbg, .int mwr, .int mwk, .int mlf, .int men])), (mw, .inl (ct 0, 958, .inl f1_270))] ++ ws_269) := hD
            refine lv_iload_n hx hb dX11_ends_82 rfl (lv_at hl 0 rfl) ?_
            refine lv_if_eq (tgt := 108) hx hb dX11_ends_83 (by decide) (fun _ => ?_) (fun hc => absurd (by decide) hc)
            refine lv_aload_n hx hb dX11_ends_108 rfl (lv_at hl 2 rfl) ?_
            refine lv_iload_n hx hb dX11_ends_109 rfl (lv_at hl 3 rfl) ?_
            refine ty_kv (wr := []) (wc := ([(m, .inr (11, [.ref mw, .ref ma, .ref mf, .ref m0, .ref m1, .ref mu, .ref mv, .ref u0, .ref u1, .ref iz, .int th, .ref mb, .int mn, .int mpt, .int mbg, .int mwr, .int mwk, .int mlf, .int men])), (mw, .inl (ct 0, 958, .inl f1_270))] ++ ws_269)) (va_runV (As := [.int p1]) (rest := []) ⟨hx, hb, hml, hown, hts⟩ (m_X11_clears l D ct S ws_269 m mw ma mf m0 m1 mu mv u0 u1 iz mb th mn mpt mbg mwr mwk mlf men f1_270 G cx p1 _ hT h_mu h_mv h_u0 h_u1 h_mb hR_272 hc) (cm_V 1 hts kc_X11_clears ki_RX11 kl_RX11_272 kv_X11_clears kx_X11_clears kd_X11_clears ⟨Nat.le_of_ble_eq_true rfl, Nat.le_of_ble_eq_true rfl⟩) (ty_preE (wr := []) (wc := ([(m, .inr (11, [.ref mw, .ref ma, .ref mf, .ref m0, .ref m1, .ref mu, .ref mv, .ref u0, .ref u1, .ref iz, .int th, .ref mb, .int mn, .int mpt, .int mbg, .int mwr, .int mwk, .int mlf, .int men])), (mw, .inl (ct 0, 958, .inl f1_270))] ++ ws_269)) (ci := 11) (q0 := 0) hP hK hD hS hA hX rfl rfl) rfl rfl hl.1 rfl (lv_room (Nat.le_of_ble_eq_true rfl)) dX11_ends_110 ⟨Nat.le_of_ble_eq_true rfl, Nat.le_of_ble_eq_true rfl⟩) hP hD hS hA (fun u H locs hw_275 hP hD hS => ?_)
            obtain ⟨ws_276, f1_277⟩ := u
            obtain ⟨hT, hp_278⟩ := hw_275
            have hp_278 : rf_R G cx f1_277 ∧ rf_sm f1_270 f1_277 := hp_278
            have hR_279 := hp_278.1
            have hM_280 := rf_smt hM_273 hp_278.2.1
            have hP : va_P D vwCl ([(m, .inr (11, [.ref mw, .ref ma, .ref mf, .ref m0, .ref m1, .ref mu, .ref mv, .ref u0, .ref u1, .ref iz, .int th, .ref mb, .int mn, .int mpt, .int mbg, .int mwr, .int mwk, .int mlf, .int men])), (mw, .inl (ct 0, 958, .inl f1_277))] ++ ws_276) H := hP
            have hD : va_D A ([(m, .inr (11, [.ref mw, .ref ma, .ref mf, .ref m0, .ref m1, .ref mu, .ref mv, .ref u0, .ref u1, .ref iz, .int th, .ref mb, .int mn, .int mpt, .int mbg, .int mwr, .int mwk, .int mlf, .int men])), (mw, .inl (ct 0, 958, .inl f1_277))] ++ ws_276) := hD
            exact W.vret hx hb hr (fun t ht hW => ⟨⟨(ws_276, f1_277), rfl, ⟨hT, ⟨hR_279, hM_280⟩⟩, by rw [ht]; exact hP, by rw [hAe]; exact hD⟩, hS.F ht⟩) hS.2.2 dX11_ends_113
          · refine lv_iconst (v := 1) hx hb dX11_ends_70 (by decide) ?_
            refine lv_goto (tgt := 75) hx hb dX11_ends_71 (by decide) ?_
            refine lv_istore_n (lv' := [(3, .int 1), (2, .int (rf_st3 f p1 0)), (0, .ref m), (1, .int p1)]) hx hb dX11_ends_75 rfl hl (by decide) rfl (fun ls hl => ?_)
            refine lv_aload_n hx hb dX11_ends_76 rfl (lv_at hl 2 rfl) ?_
            refine lv_iload_n hx hb dX11_ends_77 rfl (lv_at hl 3 rfl) ?_
            refine lv_iload_n hx hb dX11_ends_78 rfl (lv_at hl 0 rfl) ?_
            refine ty_kv (wr := []) (wc := ([(m, .inr (11, [.ref mw, .ref ma, .ref mf, .ref m0, .ref m1, .ref mu, .ref mv, .ref u0, .ref u1, .ref iz, .int th, .ref mb, .int mn, .int mpt, .int mbg, .int mwr, .int mwk, .int mlf, .int men])), (mw, .inl (ct 0, 958, .inl f1_237))] ++ ws_265)) (va_runV (As := [.int p1, .int 1]) (rest := []) ⟨hx, hb, hml, hown, hts⟩ (m_X11_records l D ct S ws_265 m mw ma mf m0 m1 mu mv u0 u1 iz mb th mn mpt mbg mwr mwk mlf men f1_237 G cx p1 (1 : Int32) _ hT h_mu h_mv h_u0 h_u1 h_mb hR_239 hc) (cm_V 2 hts kc_X11_records ki_RX11 kl_RX11_268 kv_X11_records kx_X11_records kd_X11_records ⟨Nat.le_of_ble_eq_true rfl, Nat.le_of_ble_eq_true rfl⟩) (ty_preE (wr := []) (wc := ([(m, .inr (11, [.ref mw, .ref ma, .ref mf, .ref m0, .ref m1, .ref mu, .ref mv, .ref u0, .ref u1, .ref iz, .int th, .ref mb, .int mn, .int mpt, .int mbg, .int mwr, .int mwk, .int mlf, .int men])), (mw, .inl (ct 0, 958, .inl f1_237))] ++ ws_265)) (ci := 11) (q0 := 0) hP hK hD hS hA hX rfl rfl) rfl rfl hl.1 rfl (lv_room (Nat.le_of_ble_eq_true rfl)) dX11_ends_79 ⟨Nat.le_of_ble_eq_true rfl, Nat.le_of_ble_eq_true rfl⟩) hP hD hS hA (fun u H locs hw_282 hP hD hS => ?_)
            obtain ⟨ws_283, f1_284⟩ := u
            obtain ⟨hT, hp_285⟩ := hw_282
            have hp_285 : rf_R G cx f1_284 ∧ rf_sm f1_237 f1_284 := hp_285
            have hR_286 := hp_285.1
            have hM_287 := rf_smt hM_240 hp_285.2.1
            have hP : va_P D vwCl ([(m, .inr (11, [.ref mw, .ref ma, .ref mf, .ref m0, .ref m1, .ref mu, .ref mv, .ref u0, .ref u1, .ref iz, .int th, .ref mb, .int mn, .int mpt, .int mbg, .int mwr, .int mwk, .int mlf, .int men])), (mw, .inl (ct 0, 958, .inl f1_284))] ++ ws_283) H := hP
            have hD : va_D A ([(m, .inr (11, [.ref mw, .ref ma, .ref mf, .ref m0, .ref m1, .ref mu, .ref mv, .ref u0, .ref u1, .ref iz, .int th, .ref mb, .int mn, .int mpt, .int mbg, .int mwr, .int mwk, .int mlf, .int men])), (mw, .inl (ct 0, 958, .inl f1_284))] ++ ws_283) := hD
            refine lv_iload_n hx hb dX11_ends_82 rfl (lv_at hl 0 rfl) ?_
            refine lv_if_eq (tgt := 108) hx hb dX11_ends_83 (by decide) (fun hc => absurd hc (by decide)) (fun _ => ?_)
            refine lv_aload_n hx hb dX11_ends_86 rfl (lv_at hl 2 rfl) ?_
            refine lv_iload_n hx hb dX11_ends_87 rfl (lv_at hl 3 rfl) ?_
            refine lv_bipush (v := 20) hx hb dX11_ends_88 (by decide) ?_
            refine lv_aload_n hx hb dX11_ends_90 rfl (lv_at hl 2 rfl) ?_
            refine lv_iload_n hx hb dX11_ends_91 rfl (lv_at hl 3 rfl) ?_
            refine lv_iconst (v := 1) hx hb dX11_ends_92 (by decide) ?_
            have hP : va_P D vwCl ([(mw, .inl (ct 0, 958, .inl f1_284)), (m, .inr (11, [.ref mw, .ref ma, .ref mf, .ref m0, .ref m1, .ref mu, .ref mv, .ref u0, .ref u1, .ref iz, .int th, .ref mb, .int mn, .int mpt, .int mbg, .int mwr, .int mwk, .int mlf, .int men]))] ++ ws_283) H := ty_permP hP (ty_ordp (E := [(m, .inr (11, [.ref mw, .ref ma, .ref mf, .ref m0, .ref m1, .ref mu, .ref mv, .ref u0, .ref u1, .ref iz, .int th, .ref mb, .int mn, .int mpt, .int mbg, .int mwr, .int mwk, .int mlf, .int men])), (mw, .inl (ct 0, 958, .inl f1_284))]) (E2 := [(mw, .inl (ct 0, 958, .inl f1_284)), (m, .inr (11, [.ref mw, .ref ma, .ref mf, .ref m0, .ref m1, .ref mu, .ref mv, .ref u0, .ref u1, .ref iz, .int th, .ref mb, .int mn, .int mpt, .int mbg, .int mwr, .int mwk, .int mlf, .int men]))]) [1, 0] rfl rfl (by decide))
            have hD : va_D A ([(mw, .inl (ct 0, 958, .inl f1_284)), (m, .inr (11, [.ref mw, .ref ma, .ref mf, .ref m0, .ref m1, .ref mu, .ref mv, .ref u0, .ref u1, .ref iz, .int th, .ref mb, .int mn, .int mpt, .int mbg, .int mwr, .int mwk, .int mlf, .int men]))] ++ ws_283) := ty_permD hD (ty_ordp (E := [(m, .inr (11, [.ref mw, .ref ma, .ref mf, .ref m0, .ref m1, .ref mu, .ref mv, .ref u0, .ref u1, .ref iz, .int th, .ref mb, .int mn, .int mpt, .int mbg, .int mwr, .int mwk, .int mlf, .int men])), (mw, .inl (ct 0, 958, .inl f1_284))]) (E2 := [(mw, .inl (ct 0, 958, .inl f1_284)), (m, .inr (11, [.ref mw, .ref ma, .ref mf, .ref m0, .ref m1, .ref mu, .ref mv, .ref u0, .ref u1, .ref iz, .int th, .ref mb, .int mn, .int mpt, .int mbg, .int mwr, .int mwk, .int mlf, .int men]))]) [1, 0] rfl rfl (by decide))
            refine ty_kl (wr := [(mw, .inl (ct 0, 958, .inl f1_284))]) (wc := ([(m, .inr (11, [.ref mw, .ref ma, .ref mf, .ref m0, .ref m1, .ref mu, .ref mv, .ref u0, .ref u1, .ref iz, .int th, .ref mb, .int mn, .int mpt, .int mbg, .int mwr, .int mwk, .int mlf, .int men]))] ++ ws_283)) (va_runV (As := [.int p1, .int 1]) (rest := [.int 20, .int p1, .ref m]) ⟨hx, hb, hml, hown, hts⟩ (m_X11_sum l D ct S ws_283 m mw ma mf m0 m1 mu mv u0 u1 iz mb th mn mpt mbg mwr mwk mlf men p1 (1 : Int32) _ hT h_mu h_mv h_u0 h_u1 h_mb (rf_c6 hR_286 hc) (by decide)) (cm_V 2 hts kc_X11_sum ki_RX11 kl_RX11_261 kv_X11_sum kx_X11_sum kd_X11_sum ⟨Nat.le_of_ble_eq_true rfl, Nat.le_of_ble_eq_true rfl⟩) (ty_preE (wr := [(mw, .inl (ct 0, 958, .inl f1_284))]) (wc := ([(m, .inr (11, [.ref mw, .ref ma, .ref mf, .ref m0, .ref m1, .ref mu, .ref mv, .ref u0, .ref u1, .ref iz, .int th, .ref mb, .int mn, .int mpt, .int mbg, .int mwr, .int mwk, .int mlf, .int men]))] ++ ws_283)) (ci := 11) (q0 := 1) hP hK hD hS hA hX rfl rfl) rfl rfl hl.1 rfl (lv_room (Nat.le_of_ble_eq_true rfl)) dX11_ends_93 ⟨Nat.le_of_ble_eq_true rfl, Nat.le_of_ble_eq_true rfl⟩) hP hD hS hA (fun r_288 u H locs hw_289 hP hD hS => ?_)
            obtain ⟨ws_290, rfl⟩ : ∃ z, z = u := ⟨_, rfl⟩
            have hT := hw_289
            have hP : va_P D vwCl ([(mw, .inl (ct 0, 958, .inl f1_284)), (m, .inr (11, [.ref mw, .ref ma, .ref mf, .ref m0, .ref m1, .ref mu, .ref mv, .ref u0, .ref u1, .ref iz, .int th, .ref mb, .int mn, .int mpt, .int mbg, .int mwr, .int mwk, .int mlf, .int men]))] ++ ws_290) H := hP
            have hD : va_D A ([(mw, .inl (ct 0, 958, .inl f1_284)), (m, .inr (11, [.ref mw, .ref ma, .ref mf, .ref m0, .ref m1, .ref mu, .ref mv, .ref u0, .ref u1, .ref iz, .int th, .ref mb, .int mn, .int mpt, .int mbg, .int mwr, .int mwk, .int mlf, .int men]))] ++ ws_290) := hD
            refine lv_aload_n hx hb dX11_ends_96 rfl (lv_at hl 2 rfl) ?_
            refine lv_iload_n hx hb dX11_ends_97 rfl (lv_at hl 3 rfl) ?_
            refine lv_bipush (v := 6) hx hb dX11_ends_98 (by decide) ?_
            refine ty_kl (wr := [(mw, .inl (ct 0, 958, .inl f1_284))]) (wc := ([(m, .inr (11, [.ref mw, .ref ma, .ref mf, .ref m0, .ref m1, .ref mu, .ref mv, .ref u0, .ref u1, .ref iz, .int th, .ref mb, .int mn, .int mpt, .int mbg, .int mwr, .int mwk, .int mlf, .int men]))] ++ ws_290)) (va_runV (As := [.int p1, .int 6]) (rest := [.long r_288, .int 20, .int p1, .ref m]) ⟨hx, hb, hml, hown, hts⟩ (m_X11_sum l D ct S ws_290 m mw ma mf m0 m1 mu mv u0 u1 iz mb th mn mpt mbg mwr mwk mlf men p1 (6 : Int32) _ hT h_mu h_mv h_u0 h_u1 h_mb (rf_c6 hR_286 hc) (by decide)) (cm_V 2 hts kc_X11_sum ki_RX11 kl_RX11_261 kv_X11_sum kx_X11_sum kd_X11_sum ⟨Nat.le_of_ble_eq_true rfl, Nat.le_of_ble_eq_true rfl⟩) (ty_preE (wr := [(mw, .inl (ct 0, 958, .inl f1_284))]) (wc := ([(m, .inr (11, [.ref mw, .ref ma, .ref mf, .ref m0, .ref m1, .ref mu, .ref mv, .ref u0, .ref u1, .ref iz, .int th, .ref mb, .int mn, .int mpt, .int mbg, .int mwr, .int mwk, .int mlf, .int men]))] ++ ws_290)) (ci := 11) (q0 := 1) hP hK hD hS hA hX rfl rfl) rfl rfl hl.1 rfl (lv_room (Nat.le_of_ble_eq_true rfl)) dX11_ends_100 ⟨Nat.le_of_ble_eq_true rfl, Nat.le_of_ble_eq_true rfl⟩) hP hD hS hA (fun r_291 u H locs hw_292 hP hD hS => ?_)
            obtain ⟨ws_293, rfl⟩ : ∃ z, z = u := ⟨_, rfl⟩
            have hT := hw_292
            have hP : va_P D vwCl ([(mw, .inl (ct 0, 958, .inl f1_284)), (m, .inr (11, [.ref mw, .ref ma, .ref mf, .ref m0, .ref m1, .ref mu, .ref mv, .ref u0, .ref u1, .ref iz, .int th, .ref mb, .int mn, .int mpt, .int mbg, .int mwr, .int mwk, .int mlf, .int men]))] ++ ws_293) H := hP
            have hD : va_D A ([(mw, .inl (ct 0, 958, .inl f1_284)), (m, .inr (11, [.ref mw, .ref ma, .ref mf, .ref m0, .ref m1, .ref mu, .ref mv, .ref u0, .ref u1, .ref iz, .int th, .ref mb, .int mn, .int mpt, .int mbg, .int mwr, .int mwk, .int mlf, .int men]))] ++ ws_293) := hD
            refine lv_lsub hx hb dX11_ends_103 ?_
            refine lv_topl (fun x_294 _ => ?_)
            refine lv_l2i hx hb dX11_ends_104 rfl ?_
            refine lv_topi (fun x_295 _ => ?_)
            have hP : va_P D vwCl ([(m, .inr (11, [.ref mw, .ref ma, .ref mf, .ref m0, .ref m1, .ref mu, .ref mv, .ref u0, .ref u1, .ref iz, .int th, .ref mb, .int mn, .int mpt, .int mbg, .int mwr, .int mwk, .int mlf, .int men])), (mw, .inl (ct 0, 958, .inl f1_284))] ++ ws_293) H := ty_permP hP (ty_ordp (E := [(mw, .inl (ct 0, 958, .inl f1_284)), (m, .inr (11, [.ref mw, .ref ma, .ref mf, .ref m0, .ref m1, .ref mu, .ref mv, .ref u0, .ref u1, .ref iz, .int th, .ref mb, .int mn, .int mpt, .int mbg, .int mwr, .int mwk, .int mlf, .int men]))]) (E2 := [(m, .inr (11, [.ref mw, .ref ma, .ref mf, .ref m0, .ref m1, .ref mu, .ref mv, .ref u0, .ref u1, .ref iz, .int th, .ref mb, .int mn, .int mpt, .int mbg, .int mwr, .int mwk, .int mlf, .int men])), (mw, .inl (ct 0, 958, .inl f1_284))]) [1, 0] rfl rfl (by decide))
            have hD : va_D A ([(m, .inr (11, [.ref mw, .ref ma, .ref mf, .ref m0, .ref m1, .ref mu, .ref mv, .ref u0, .ref u1, .ref iz, .int th, .ref mb, .int mn, .int mpt, .int mbg, .int mwr, .int mwk, .int mlf, .int men])), (mw, .inl (ct 0, 958, .inl f1_284))] ++ ws_293) := ty_permD hD (ty_ordp (E := [(mw, .inl (ct 0, 958, .inl f1_284)), (m, .inr (11, [.ref mw, .ref ma, .ref mf, .ref m0, .ref m1, .ref mu, .ref mv, .ref u0, .ref u1, .ref iz, .int th, .ref mb, .int mn, .int mpt, .int mbg, .int mwr, .int mwk, .int mlf, .int men]))]) (E2 := [(m, .inr (11, [.ref mw, .ref ma, .ref mf, .ref m0, .ref m1, .ref mu, .ref mv, .ref u0, .ref u1, .ref iz, .int th, .ref mb, .int mn, .int mpt, .int mbg, .int mwr, .int mwk, .int mlf, .int men])), (mw, .inl (ct 0, 958, .inl f1_284))]) [1, 0] rfl rfl (by decide))
            refine ty_kv (wr := []) (wc := ([(m, .inr (11, [.ref mw, .ref ma, .ref mf, .ref m0, .ref m1, .ref mu, .ref mv, .ref u0, .ref u1, .ref iz, .int th, .ref mb, .int mn, .int mpt, .int mbg, .int mwr, .int mwk, .int mlf, .int men])), (mw, .inl (ct 0, 958, .inl f1_284))] ++ ws_293)) (va_runV (As := [.int p1, .int 20, .int x_295]) (rest := []) ⟨hx, hb, hml, hown, hts⟩ (m_put_20 l D ct S ws_293 m mw ma mf m0 m1 mu mv u0 u1 iz mb th mn mpt mbg mwr mwk mlf men f1_284 G cx p1 x_295 _ hT h_mu h_mv h_u0 h_u1 h_mb hR_286 hc) (cm_V 3 hts kc_X11_put ki_RX11 kl_RX11_234 kv_X11_put kx_X11_put kd_X11_put ⟨Nat.le_of_ble_eq_true rfl, Nat.le_of_ble_eq_true rfl⟩) (ty_preE (wr := []) (wc := ([(m, .inr (11, [.ref mw, .ref ma, .ref mf, .ref m0, .ref m1, .ref mu, .ref mv, .ref u0, .ref u1, .ref iz, .int th, .ref mb, .int mn, .int mpt, .int mbg, .int mwr, .int mwk, .int mlf, .int men])), (mw, .inl (ct 0, 958, .inl f1_284))] ++ ws_293)) (ci := 11) (q0 := 0) hP hK hD hS hA hX rfl rfl) rfl rfl hl.1 rfl (lv_room (Nat.le_of_ble_eq_true rfl)) dX11_ends_105 ⟨Nat.le_of_ble_eq_true rfl, Nat.le_of_ble_eq_true rfl⟩) hP hD hS hA (fun u H locs hw_297 hP hD hS => ?_)
            obtain ⟨ws_298, f1_299⟩ := u
            obtain ⟨hT, hp_300⟩ := hw_297
            have hp_300 : rf_R G cx f1_299 ∧ rf_sm f1_284 f1_299 ∧ f1_299 = upd f1_284 (244 + 54 * p1.toInt.toNat + 20) x_295 := hp_300
            have hR_301 := hp_300.1
            have hM_302 := rf_smt hM_287 hp_300.2.1
            have hP : va_P D vwCl ([(m, .inr (11, [.ref mw, .ref ma, .ref mf, .ref m0, .ref m1, .ref mu, .ref mv, .ref u0, .ref u1, .ref iz, .int th, .ref mb, .int mn, .int mpt, .int mbg, .int mwr, .int mwk, .int mlf, .int men])), (mw, .inl (ct 0, 958, .inl f1_299))] ++ ws_298) H := hP
            have hD : va_D A ([(m, .inr (11, [.ref mw, .ref ma, .ref mf, .ref m0, .ref m1, .ref mu, .ref mv, .ref u0, .ref u1, .ref iz, .int th, .ref mb, .int mn, .int mpt, .int mbg, .int mwr, .int mwk, .int mlf, .int men])), (mw, .inl (ct 0, 958, .inl f1_299))] ++ ws_298) := hD
            refine lv_aload_n hx hb dX11_ends_108 rfl (lv_at hl 2 rfl) ?_
            refine lv_iload_n hx hb dX11_ends_109 rfl (lv_at hl 3 rfl) ?_
            refine ty_kv (wr := []) (wc := ([(m, .inr (11, [.ref mw, .ref ma, .ref mf, .ref m0, .ref m1, .ref mu, .ref mv, .ref u0, .ref u1, .ref iz, .int th, .ref mb, .int mn, .int mpt, .int mbg, .int mwr, .int mwk, .int mlf, .int men])), (mw, .inl (ct 0, 958, .inl f1_299))] ++ ws_298)) (va_runV (As := [.int p1]) (rest := []) ⟨hx, hb, hml, hown, hts⟩ (m_X11_clears l D ct S ws_298 m mw ma mf m0 m1 mu mv u0 u1 iz mb th mn mpt mbg mwr mwk mlf men f1_299 G cx p1 _ hT h_mu h_mv h_u0 h_u1 h_mb hR_301 hc) (cm_V 1 hts kc_X11_clears ki_RX11 kl_RX11_272 kv_X11_clears kx_X11_clears kd_X11_clears ⟨Nat.le_of_ble_eq_true rfl, Nat.le_of_ble_eq_true rfl⟩) (ty_preE (wr := []) (wc := ([(m, .inr (11, [.ref mw, .ref ma, .ref mf, .ref m0, .ref m1, .ref mu, .ref mv, .ref u0, .ref u1, .ref iz, .int th, .ref mb, .int mn, .int mpt, .int mbg, .int mwr, .int mwk, .int mlf, .int men])), (mw, .inl (ct 0, 958, .inl f1_299))] ++ ws_298)) (ci := 11) (q0 := 0) hP hK hD hS hA hX rfl rfl) rfl rfl hl.1 rfl (lv_room (Nat.le_of_ble_eq_true rfl)) dX11_ends_110 ⟨Nat.le_of_ble_eq_true rfl, Nat.le_of_ble_eq_true rfl⟩) hP hD hS hA (fun u H locs hw_304 hP hD hS => ?_)
            obtain ⟨ws_305, f1_306⟩ := u
            obtain ⟨hT, hp_307⟩ := hw_304
            have hp_307 : rf_R G cx f1_306 ∧ rf_sm f1_299 f1_306 := hp_307
            have hR_308 := hp_307.1
            have hM_309 := rf_smt hM_302 hp_307.2.1
            have hP : va_P D vwCl ([(m, .inr (11, [.ref mw, .ref ma, .ref mf, .ref m0, .ref m1, .ref mu, .ref mv, .ref u0, .ref u1, .ref iz, .int th, .ref mb, .int mn, .int mpt, .int mbg, .int mwr, .int mwk, .int mlf, .int men])), (mw, .inl (ct 0, 958, .inl f1_306))] ++ ws_305) H := hP
            have hD : va_D A ([(m, .inr (11, [.ref mw, .ref ma, .ref mf, .ref m0, .ref m1, .ref mu, .ref mv, .ref u0, .ref u1, .ref iz, .int th, .ref mb, .int mn, .int mpt, .int mbg, .int mwr, .int mwk, .int mlf, .int men])), (mw, .inl (ct 0, 958, .inl f1_306))] ++ ws_305) := hD
            exact W.vret hx hb hr (fun t ht hW => ⟨⟨(ws_305, f1_306), rfl, ⟨hT, ⟨hR_308, hM_309⟩⟩, by rw [ht]; exact hP, by rw [hAe]; exact hD⟩, hS.F ht⟩) hS.2.2 dX11_ends_113
      · exact W.vret hx hb hr (fun t ht hW => ⟨⟨(ws_236, f1_237), rfl, ⟨hT, ⟨hR_239, hM_240⟩⟩, by rw [ht]; exact hP, by rw [hAe]; exact hD⟩, hS.F ht⟩) hS.2.2 dX11_ends_43
theorem dX11_warns_0 : decode cX11_warns 0 = .ok (.aload_n 0, 1) := by decide +kernel
theorem dX11_warns_1 : decode cX11_warns 1 = .ok (.iload_n 1, 1) := by decide +kernel
theorem dX11_warns_2 : decode cX11_warns 2 = .ok (.invokevirtual 305, 3) := by decide +kernel
theorem dX11_warns_5 : decode cX11_warns 5 = .ok (.istore_n 2, 1) := by decide +kernel
theorem dX11_warns_6 : decode cX11_warns 6 = .ok (.iload_n 2, 1) := by decide +kernel
theorem dX11_warns_7 : decode cX11_warns 7 = .ok (.ifCond .eq 37, 3) := by decide +kernel
theorem dX11_warns_10 : decode cX11_warns 10 = .ok (.iload_n 2, 1) := by decide +kernel
theorem dX11_warns_11 : decode cX11_warns 11 = .ok (.aload_n 0, 1) := by decide +kernel
theorem dX11_warns_12 : decode cX11_warns 12 = .ok (.iload_n 1, 1) := by decide +kernel
theorem dX11_warns_13 : decode cX11_warns 13 = .ok (.bipush 37, 2) := by decide +kernel
theorem dX11_warns_15 : decode cX11_warns 15 = .ok (.invokevirtual 209, 3) := by decide +kernel
theorem dX11_warns_18 : decode cX11_warns 18 = .ok (.if_icmp .eq 26, 3) := by decide +kernel
theorem dX11_warns_21 : decode cX11_warns 21 = .ok (.aload_n 0, 1) := by decide +kernel
theorem dX11_warns_22 : decode cX11_warns 22 = .ok (.iload_n 1, 1) := by decide +kernel
theorem dX11_warns_23 : decode cX11_warns 23 = .ok (.bipush 36, 2) := by decide +kernel
theorem dX11_warns_25 : decode cX11_warns 25 = .ok (.aload_n 0, 1) := by decide +kernel
theorem dX11_warns_26 : decode cX11_warns 26 = .ok (.iload_n 1, 1) := by decide +kernel
theorem dX11_warns_27 : decode cX11_warns 27 = .ok (.bipush 36, 2) := by decide +kernel
theorem dX11_warns_29 : decode cX11_warns 29 = .ok (.invokevirtual 209, 3) := by decide +kernel
theorem dX11_warns_32 : decode cX11_warns 32 = .ok (.iconst 1, 1) := by decide +kernel
theorem dX11_warns_33 : decode cX11_warns 33 = .ok (.iadd, 1) := by decide +kernel
theorem dX11_warns_34 : decode cX11_warns 34 = .ok (.invokevirtual 234, 3) := by decide +kernel
theorem dX11_warns_37 : decode cX11_warns 37 = .ok (.aload_n 0, 1) := by decide +kernel
theorem dX11_warns_38 : decode cX11_warns 38 = .ok (.iload_n 1, 1) := by decide +kernel
theorem dX11_warns_39 : decode cX11_warns 39 = .ok (.iconst 4, 1) := by decide +kernel
theorem dX11_warns_40 : decode cX11_warns 40 = .ok (.iload_n 2, 1) := by decide +kernel
theorem dX11_warns_41 : decode cX11_warns 41 = .ok (.invokevirtual 282, 3) := by decide +kernel
theorem dX11_warns_44 : decode cX11_warns 44 = .ok (.aload_n 0, 1) := by decide +kernel
theorem dX11_warns_45 : decode cX11_warns 45 = .ok (.iload_n 1, 1) := by decide +kernel
theorem dX11_warns_46 : decode cX11_warns 46 = .ok (.bipush 37, 2) := by decide +kernel
theorem dX11_warns_48 : decode cX11_warns 48 = .ok (.iload_n 2, 1) := by decide +kernel
theorem dX11_warns_49 : decode cX11_warns 49 = .ok (.invokevirtual 234, 3) := by decide +kernel
theorem dX11_warns_52 : decode cX11_warns 52 = .ok (.return_, 1) := by decide +kernel
set_option maxRecDepth 100000 in
set_option maxHeartbeats 4000000 in
theorem m_X11_warns (l : Launch) (D : va_G) (ct : Nat → ClassId) (S : ty_S) (ws : va_W) (m : Nat) (mw : Nat) (ma : Nat) (mf : Nat) (m0 : Nat) (m1 : Nat) (mu : Nat) (mv : Nat) (u0 : Nat) (u1 : Nat) (iz : Nat) (mb : Nat) (th : Int32) (mn : Int32) (mpt : Int32) (mbg : Int32) (mwr : Int32) (mwk : Int32) (mlf : Int32) (men : Int32) (f : Nat → Int32) (G : Nat → Int32) (cx : Int) (p1 : Int32) (sz : Nat) (hT : ty_W ct S ws) (h_mu : S mu = some (.inr (1, 42))) (h_mv : S mv = some (.inr (1, 42))) (h_u0 : S u0 = some (.inr (1, 42))) (h_u1 : S u1 = some (.inr (1, 42))) (h_mb : S mb = some (.inr (0, 800))) (hR : rf_R G cx f) (hc : 0 ≤ p1.toInt ∧ p1.toInt < (G 9).toInt) : Met l yX11_warns (ws_ yX11_warns cX11_warns 3 none) ({ frames := 2, cells := 0, slots := 0, locals := 43 } : Room) (va_Pc [.ref m, .int p1] (cmP D ct sz ([(m, .inr (11, [.ref mw, .ref ma, .ref mf, .ref m0, .ref m1, .ref mu, .ref mv, .ref u0, .ref u1, .ref iz, .int th, .ref mb, .int mn, .int mpt, .int mbg, .int mwr, .int mwk, .int mlf, .int men])), (mw, .inl (ct 0, 958, .inl f))] ++ ws))) (va_Qv (fun (u : va_W × (Nat → Int32)) => match u with | (u9, f1) => ty_W ct S u9 ∧ rf_R G cx f1 ∧ rf_sm f f1) (cmB D ([(m, .inr (11, [.ref mw, .ref ma, .ref mf, .ref m0, .ref m1, .ref mu, .ref mv, .ref u0, .ref u1, .ref iz, .int th, .ref mb, .int mn, .int mpt, .int mbg, .int mwr, .int mwk, .int mlf, .int men])), (mw, .inl (ct 0, 958, .inl f))] ++ ws) sz (fun (u : va_W × (Nat → Int32)) => match u with | (u9, f1) => ([(m, .inr (11, [.ref mw, .ref ma, .ref mf, .ref m0, .ref m1, .ref mu, .ref mv, .ref u0, .ref u1, .ref iz, .int th, .ref mb, .int mn, .int mpt, .int mbg, .int mwr, .int mwk, .int mlf, .int men])), (mw, .inl (ct 0, 958, .inl f1))] ++ u9))) (va_A ([(m, .inr (11, [.ref mw, .ref ma, .ref mf, .ref m0, .ref m1, .ref mu, .ref mv, .ref u0, .ref u1, .ref iz, .int th, .ref mb, .int mn, .int mpt, .int mbg, .int mwr, .int mwk, .int mlf, .int men])), (mw, .inl (ct 0, 958, .inl f))] ++ ws) sz)) 0 0 (va_A ([(m, .inr (11, [.ref mw, .ref ma, .ref mf, .ref m0, .ref m1, .ref mu, .ref mv, .ref u0, .ref u1, .ref iz, .int th, .ref mb, .int mn, .int mpt, .int mbg, .int mwr, .int mwk, .int mlf, .int men])), (mw, .inl (ct 0, 958, .inl f))] ++ ws) sz) := by
  refine Met.ofW (cc := cX11_warns) (maxL := 3) (ret := none) (by decide) rfl ?_
  intro p e s m args below meth c s₁ B hml hv
  obtain ⟨rfl, hsz, hP, hK, hD0, hX⟩ := hv
  have hx := B.exec
  have hb := B.bytes
  have hr := B.returns
  have hts := ws_all (atoms_spec (ws := ws_ yX11_warns cX11_warns 3 none) B.pre)
  have hown : s.vm.findClass RX11 = some m.cls := findClass_of_methodNamed B.named
  have hlocks := B.notSynchronized
  subst hsz
  have hD := hD0.self (sz := s.heap.size)
  generalize hAe : va_A ([(m, .inr (11, [.ref mw, .ref ma, .ref mf, .ref m0, .ref m1, .ref mu, .ref mv, .ref u0, .ref u1, .ref iz, .int th, .ref mb, .int mn, .int mpt, .int mbg, .int mwr, .int mwk, .int mlf, .int men])), (mw, .inl (ct 0, 958, .inl f))] ++ ws) s.heap.size = A at hD hX ⊢
  have hA : ∀ q : Nat, s.heap.size ≤ q → A q := fun q h => by rw [← hAe]; exact Or.inr h
  have hS : va_S A s.heap s.heap [] := va_S.rf
  have hl := lv_entry ([.ref m, .int p1]) (n := 3) (Nat.le_of_ble_eq_true rfl)
  rw [lg_entry_eq]
  generalize (lg_sl ([.ref m, .int p1]) ++ List.replicate (3 - (lg_sl ([.ref m, .int p1])).length) Slot.unset).toArray = ls at hl ⊢
  have hl : lv_has ls 3 [(0, .ref m), (1, .int p1)] := hl
  refine lv_aload_n hx hb dX11_warns_0 rfl (lv_at hl 0 rfl) ?_
  refine lv_iload_n hx hb dX11_warns_1 rfl (lv_at hl 1 rfl) ?_
  refine ty_ki (wr := []) (wc := ([(m, .inr (11, [.ref mw, .ref ma, .ref mf, .ref m0, .ref m1, .ref mu, .ref mv, .ref u0, .ref u1, .ref iz, .int th, .ref mb, .int mn, .int mpt, .int mbg, .int mwr, .int mwk, .int mlf, .int men])), (mw, .inl (ct 0, 958, .inl f))] ++ ws)) (va_runV (As := [.int p1]) (rest := []) ⟨hx, hb, hml, hown, hts⟩ (m_X11_warningNow l D ct S ws m mw ma mf m0 m1 mu mv u0 u1 iz mb th mn mpt mbg mwr mwk mlf men f G cx p1 _ hT h_mu h_mv h_u0 h_u1 h_mb hR hc) (cm_V 1 hts kc_X11_warningNow ki_RX11 kl_RX11_305 kv_X11_warningNow kx_X11_warningNow kd_X11_warningNow ⟨Nat.le_of_ble_eq_true rfl, Nat.le_of_ble_eq_true rfl⟩) (ty_preE (wr := []) (wc := ([(m, .inr (11, [.ref mw, .ref ma, .ref mf, .ref m0, .ref m1, .ref mu, .ref mv, .ref u0, .ref u1, .ref iz, .int th, .ref mb, .int mn, .int mpt, .int mbg, .int mwr, .int mwk, .int mlf, .int men])), (mw, .inl (ct 0, 958, .inl f))] ++ ws)) (ci := 11) (q0 := 0) hP hK hD hS hA hX rfl rfl) rfl rfl hl.1 rfl (lv_room (Nat.le_of_ble_eq_true rfl)) dX11_warns_2 ⟨Nat.le_of_ble_eq_true rfl, Nat.le_of_ble_eq_true rfl⟩) hP hD hS hA (fun r_1 u H locs hw_2 hP hD hS => ?_)
  obtain ⟨ws_3, rfl⟩ : ∃ z, z = u := ⟨_, rfl⟩
  have hT := hw_2
  have hP : va_P D vwCl ([(m, .inr (11, [.ref mw, .ref ma, .ref mf, .ref m0, .ref m1, .ref mu, .ref mv, .ref u0, .ref u1, .ref iz, .int th, .ref mb, .int mn, .int mpt, .int mbg, .int mwr, .int mwk, .int mlf, .int men])), (mw, .inl (ct 0, 958, .inl f))] ++ ws_3) H := hP
  have hD : va_D A ([(m, .inr (11, [.ref mw, .ref ma, .ref mf, .ref m0, .ref m1, .ref mu, .ref mv, .ref u0, .ref u1, .ref iz, .int th, .ref mb, .int mn, .int mpt, .int mbg, .int mwr, .int mwk, .int mlf, .int men])), (mw, .inl (ct 0, 958, .inl f))] ++ ws_3) := hD
  refine lv_istore_n (lv' := [(2, .int r_1), (0, .ref m), (1, .int p1)]) hx hb dX11_warns_5 rfl hl (by decide) rfl (fun ls hl => ?_)
  refine lv_iload_n hx hb dX11_warns_6 rfl (lv_at hl 0 rfl) ?_
  refine lv_if_eq (tgt := 44) hx hb dX11_warns_7 (by decide) (fun hc_4 => ?_) (fun hc_4 => ?_)
  · refine lv_aload_n hx hb dX11_warns_44 rfl (lv_at hl 1 rfl) ?_
    refine lv_iload_n hx hb dX11_warns_45 rfl (lv_at hl 2 rfl) ?_
    refine lv_bipush (v := 37) hx hb dX11_warns_46 (by decide) ?_
    refine lv_iload_n hx hb dX11_warns_48 rfl (lv_at hl 0 rfl) ?_
    refine ty_kv (wr := []) (wc := ([(m, .inr (11, [.ref mw, .ref ma, .ref mf, .ref m0, .ref m1, .ref mu, .ref mv, .ref u0, .ref u1, .ref iz, .int th, .ref mb, .int mn, .int mpt, .int mbg, .int mwr, .int mwk, .int mlf, .int men])), (mw, .inl (ct 0, 958, .inl f))] ++ ws_3)) (va_runV (As := [.int p1, .int 37, .int r_1]) (rest := []) ⟨hx, hb, hml, hown, hts⟩ (m_put_37 l D ct S ws_3 m mw ma mf m0 m1 mu mv u0 u1 iz mb th mn mpt mbg mwr mwk mlf men f G cx p1 r_1 _ hT h_mu h_mv h_u0 h_u1 h_mb hR hc) (cm_V 3 hts kc_X11_put ki_RX11 kl_RX11_234 kv_X11_put kx_X11_put kd_X11_put ⟨Nat.le_of_ble_eq_true rfl, Nat.le_of_ble_eq_true rfl⟩) (ty_preE (wr := []) (wc := ([(m, .inr (11, [.ref mw, .ref ma, .ref mf, .ref m0, .ref m1, .ref mu, .ref mv, .ref u0, .ref u1, .ref iz, .int th, .ref mb, .int mn, .int mpt, .int mbg, .int mwr, .int mwk, .int mlf, .int men])), (mw, .inl (ct 0, 958, .inl f))] ++ ws_3)) (ci := 11) (q0 := 0) hP hK hD hS hA hX rfl rfl) rfl rfl hl.1 rfl (lv_room (Nat.le_of_ble_eq_true rfl)) dX11_warns_49 ⟨Nat.le_of_ble_eq_true rfl, Nat.le_of_ble_eq_true rfl⟩) hP hD hS hA (fun u H locs hw_6 hP hD hS => ?_)
    obtain ⟨ws_7, f1_8⟩ := u
    obtain ⟨hT, hp_9⟩ := hw_6
    have hp_9 : rf_R G cx f1_8 ∧ rf_sm f f1_8 ∧ f1_8 = upd f (244 + 54 * p1.toInt.toNat + 37) r_1 := hp_9
    have hR_10 := hp_9.1
    have hM_11 := rf_smt (rf_smr f) hp_9.2.1
    have hP : va_P D vwCl ([(m, .inr (11, [.ref mw, .ref ma, .ref mf, .ref m0, .ref m1, .ref mu, .ref mv, .ref u0, .ref u1, .ref iz, .int th, .ref mb, .int mn, .int mpt, .int mbg, .int mwr, .int mwk, .int mlf, .int men])), (mw, .inl (ct 0, 958, .inl f1_8))] ++ ws_7) H := hP
    have hD : va_D A ([(m, .inr (11, [.ref mw, .ref ma, .ref mf, .ref m0, .ref m1, .ref mu, .ref mv, .ref u0, .ref u1, .ref iz, .int th, .ref mb, .int mn, .int mpt, .int mbg, .int mwr, .int mwk, .int mlf, .int men])), (mw, .inl (ct 0, 958, .inl f1_8))] ++ ws_7) := hD
    exact W.vret hx hb hr (fun t ht hW => ⟨⟨(ws_7, f1_8), rfl, ⟨hT, ⟨hR_10, hM_11⟩⟩, by rw [ht]; exact hP, by rw [hAe]; exact hD⟩, hS.F ht⟩) hS.2.2 dX11_warns_52
  · refine lv_iload_n hx hb dX11_warns_10 rfl (lv_at hl 0 rfl) ?_
    refine lv_aload_n hx hb dX11_warns_11 rfl (lv_at hl 1 rfl) ?_
    refine lv_iload_n hx hb dX11_warns_12 rfl (lv_at hl 2 rfl) ?_
    refine lv_bipush (v := 37) hx hb dX11_warns_13 (by decide) ?_
    refine ty_ki (wr := []) (wc := ([(m, .inr (11, [.ref mw, .ref ma, .ref mf, .ref m0, .ref m1, .ref mu, .ref mv, .ref u0, .ref u1, .ref iz, .int th, .ref mb, .int mn, .int mpt, .int mbg, .int mwr, .int mwk, .int mlf, .int men])), (mw, .inl (ct 0, 958, .inl f))] ++ ws_3)) (va_runV (As := [.int p1, .int 37]) (rest := [.int r_1]) ⟨hx, hb, hml, hown, hts⟩ (m_of_37 l D ct S ws_3 m mw ma mf m0 m1 mu mv u0 u1 iz mb th mn mpt mbg mwr mwk mlf men f G cx p1 _ hT h_mu h_mv h_u0 h_u1 h_mb hR hc) (cm_V 2 hts kc_X11_of ki_RX11 kl_RX11_209 kv_X11_of kx_X11_of kd_X11_of ⟨Nat.le_of_ble_eq_true rfl, Nat.le_of_ble_eq_true rfl⟩) (ty_preE (wr := []) (wc := ([(m, .inr (11, [.ref mw, .ref ma, .ref mf, .ref m0, .ref m1, .ref mu, .ref mv, .ref u0, .ref u1, .ref iz, .int th, .ref mb, .int mn, .int mpt, .int mbg, .int mwr, .int mwk, .int mlf, .int men])), (mw, .inl (ct 0, 958, .inl f))] ++ ws_3)) (ci := 11) (q0 := 0) hP hK hD hS hA hX rfl rfl) rfl rfl hl.1 rfl (lv_room (Nat.le_of_ble_eq_true rfl)) dX11_warns_15 ⟨Nat.le_of_ble_eq_true rfl, Nat.le_of_ble_eq_true rfl⟩) hP hD hS hA (fun r_12 u H locs hw_13 hP hD hS => ?_)
    obtain ⟨ws_14, rfl⟩ : ∃ z, z = u := ⟨_, rfl⟩
    obtain ⟨hT, rfl⟩ := hw_13
    have hP : va_P D vwCl ([(m, .inr (11, [.ref mw, .ref ma, .ref mf, .ref m0, .ref m1, .ref mu, .ref mv, .ref u0, .ref u1, .ref iz, .int th, .ref mb, .int mn, .int mpt, .int mbg, .int mwr, .int mwk, .int mlf, .int men])), (mw, .inl (ct 0, 958, .inl f))] ++ ws_14) H := hP
    have hD : va_D A ([(m, .inr (11, [.ref mw, .ref ma, .ref mf, .ref m0, .ref m1, .ref mu, .ref mv, .ref u0, .ref u1, .ref iz, .int th, .ref mb, .int mn, .int mpt, .int mbg, .int mwr, .int mwk, .int mlf, .int men])), (mw, .inl (ct 0, 958, .inl f))] ++ ws_14) := hD
    refine lv_icmp_eq (tgt := 44) hx hb dX11_warns_18 (by decide) (fun hc_15 => ?_) (fun hc_15 => ?_)
    · refine lv_aload_n hx hb dX11_warns_44 rfl (lv_at hl 1 rfl) ?_
      refine lv_iload_n hx hb dX11_warns_45 rfl (lv_at hl 2 rfl) ?_
      refine lv_bipush (v := 37) hx hb dX11_warns_46 (by decide) ?_
      refine lv_iload_n hx hb dX11_warns_48 rfl (lv_at hl 0 rfl) ?_
      refine ty_kv (wr := []) (wc := ([(m, .inr (11, [.ref mw, .ref ma, .ref mf, .ref m0, .ref m1, .ref mu, .ref mv, .ref u0, .ref u1, .ref iz, .int th, .ref mb, .int mn, .int mpt, .int mbg, .int mwr, .int mwk, .int mlf, .int men])), (mw, .inl (ct 0, 958, .inl f))] ++ ws_14)) (va_runV (As := [.int p1, .int 37, .int r_1]) (rest := []) ⟨hx, hb, hml, hown, hts⟩ (m_put_37 l D ct S ws_14 m mw ma mf m0 m1 mu mv u0 u1 iz mb th mn mpt mbg mwr mwk mlf men f G cx p1 r_1 _ hT h_mu h_mv h_u0 h_u1 h_mb hR hc) (cm_V 3 hts kc_X11_put ki_RX11 kl_RX11_234 kv_X11_put kx_X11_put kd_X11_put ⟨Nat.le_of_ble_eq_true rfl, Nat.le_of_ble_eq_true rfl⟩) (ty_preE (wr := []) (wc := ([(m, .inr (11, [.ref mw, .ref ma, .ref mf, .ref m0, .ref m1, .ref mu, .ref mv, .ref u0, .ref u1, .ref iz, .int th, .ref mb, .int mn, .int mpt, .int mbg, .int mwr, .int mwk, .int mlf, .int men])), (mw, .inl (ct 0, 958, .inl f))] ++ ws_14)) (ci := 11) (q0 := 0) hP hK hD hS hA hX rfl rfl) rfl rfl hl.1 rfl (lv_room (Nat.le_of_ble_eq_true rfl)) dX11_warns_49 ⟨Nat.le_of_ble_eq_true rfl, Nat.le_of_ble_eq_true rfl⟩) hP hD hS hA (fun u H locs hw_17 hP hD hS => ?_)
      obtain ⟨ws_18, f1_19⟩ := u
      obtain ⟨hT, hp_20⟩ := hw_17
      have hp_20 : rf_R G cx f1_19 ∧ rf_sm f f1_19 ∧ f1_19 = upd f (244 + 54 * p1.toInt.toNat + 37) r_1 := hp_20
      have hR_21 := hp_20.1
      have hM_22 := rf_smt (rf_smr f) hp_20.2.1
      have hP : va_P D vwCl ([(m, .inr (11, [.ref mw, .ref ma, .ref mf, .ref m0, .ref m1, .ref mu, .ref mv, .ref u0, .ref u1, .ref iz, .int th, .ref mb, .int mn, .int mpt, .int mbg, .int mwr, .int mwk, .int mlf, .int men])), (mw, .inl (ct 0, 958, .inl f1_19))] ++ ws_18) H := hP
      have hD : va_D A ([(m, .inr (11, [.ref mw, .ref ma, .ref mf, .ref m0, .ref m1, .ref mu, .ref mv, .ref u0, .ref u1, .ref iz, .int th, .ref mb, .int mn, .int mpt, .int mbg, .int mwr, .int mwk, .int mlf, .int men])), (mw, .inl (ct 0, 958, .inl f1_19))] ++ ws_18) := hD
      exact W.vret hx hb hr (fun t ht hW => ⟨⟨(ws_18, f1_19), rfl, ⟨hT, ⟨hR_21, hM_22⟩⟩, by rw [ht]; exact hP, by rw [hAe]; exact hD⟩, hS.F ht⟩) hS.2.2 dX11_warns_52
    · refine lv_aload_n hx hb dX11_warns_21 rfl (lv_at hl 1 rfl) ?_
      refine lv_iload_n hx hb dX11_warns_22 rfl (lv_at hl 2 rfl) ?_
      refine lv_bipush (v := 36) hx hb dX11_warns_23 (by decide) ?_
      refine lv_aload_n hx hb dX11_warns_25 rfl (lv_at hl 1 rfl) ?_
      refine lv_iload_n hx hb dX11_warns_26 rfl (lv_at hl 2 rfl) ?_
      refine lv_bipush (v := 36) hx hb dX11_warns_27 (by decide) ?_
      refine ty_ki (wr := []) (wc := ([(m, .inr (11, [.ref mw, .ref ma, .ref mf, .ref m0, .ref m1, .ref mu, .ref mv, .ref u0, .ref u1, .ref iz, .int th, .ref mb, .int mn, .int mpt, .int mbg, .int mwr, .int mwk, .int mlf, .int men])), (mw, .inl (ct 0, 958, .inl f))] ++ ws_14)) (va_runV (As := [.int p1, .int 36]) (rest := [.int 36, .int p1, .ref m]) ⟨hx, hb, hml, hown, hts⟩ (m_of_36 l D ct S ws_14 m mw ma mf m0 m1 mu mv u0 u1 iz mb th mn mpt mbg mwr mwk mlf men f G cx p1 _ hT h_mu h_mv h_u0 h_u1 h_mb hR hc) (cm_V 2 hts kc_X11_of ki_RX11 kl_RX11_209 kv_X11_of kx_X11_of kd_X11_of ⟨Nat.le_of_ble_eq_true rfl, Nat.le_of_ble_eq_true rfl⟩) (ty_preE (wr := []) (wc := ([(m, .inr (11, [.ref mw, .ref ma, .ref mf, .ref m0, .ref m1, .ref mu, .ref mv, .ref u0, .ref u1, .ref iz, .int th, .ref mb, .int mn, .int mpt, .int mbg, .int mwr, .int mwk, .int mlf, .int men])), (mw, .inl (ct 0, 958, .inl f))] ++ ws_14)) (ci := 11) (q0 := 0) hP hK hD hS hA hX rfl rfl) rfl rfl hl.1 rfl (lv_room (Nat.le_of_ble_eq_true rfl)) dX11_warns_29 ⟨Nat.le_of_ble_eq_true rfl, Nat.le_of_ble_eq_true rfl⟩) hP hD hS hA (fun r_23 u H locs hw_24 hP hD hS => ?_)
      obtain ⟨ws_25, rfl⟩ : ∃ z, z = u := ⟨_, rfl⟩
      obtain ⟨hT, rfl⟩ := hw_24
      have hP : va_P D vwCl ([(m, .inr (11, [.ref mw, .ref ma, .ref mf, .ref m0, .ref m1, .ref mu, .ref mv, .ref u0, .ref u1, .ref iz, .int th, .ref mb, .int mn, .int mpt, .int mbg, .int mwr, .int mwk, .int mlf, .int men])), (mw, .inl (ct 0, 958, .inl f))] ++ ws_25) H := hP
      have hD : va_D A ([(m, .inr (11, [.ref mw, .ref ma, .ref mf, .ref m0, .ref m1, .ref mu, .ref mv, .ref u0, .ref u1, .ref iz, .int th, .ref mb, .int mn, .int mpt, .int mbg, .int mwr, .int mwk, .int mlf, .int men])), (mw, .inl (ct 0, 958, .inl f))] ++ ws_25) := hD
      refine lv_iconst (v := 1) hx hb dX11_warns_32 (by decide) ?_
      refine lv_iadd hx hb dX11_warns_33 ?_
      refine lv_topi (fun x_26 _ => ?_)
      refine ty_kv (wr := []) (wc := ([(m, .inr (11, [.ref mw, .ref ma, .ref mf, .ref m0, .ref m1, .ref mu, .ref mv, .ref u0, .ref u1, .ref iz, .int th, .ref mb, .int mn, .int mpt, .int mbg, .int mwr, .int mwk, .int mlf, .int men])), (mw, .inl (ct 0, 958, .inl f))] ++ ws_25)) (va_runV (As := [.int p1, .int 36, .int x_26]) (rest := []) ⟨hx, hb, hml, hown, hts⟩ (m_put_36 l D ct S ws_25 m mw ma mf m0 m1 mu mv u0 u1 iz mb th mn mpt mbg mwr mwk mlf men f G cx p1 x_26 _ hT h_mu h_mv h_u0 h_u1 h_mb hR hc) (cm_V 3 hts kc_X11_put ki_RX11 kl_RX11_234 kv_X11_put kx_X11_put kd_X11_put ⟨Nat.le_of_ble_eq_true rfl, Nat.le_of_ble_eq_true rfl⟩) (ty_preE (wr := []) (wc := ([(m, .inr (11, [.ref mw, .ref ma, .ref mf, .ref m0, .ref m1, .ref mu, .ref mv, .ref u0, .ref u1, .ref iz, .int th, .ref mb, .int mn, .int mpt, .int mbg, .int mwr, .int mwk, .int mlf, .int men])), (mw, .inl (ct 0, 958, .inl f))] ++ ws_25)) (ci := 11) (q0 := 0) hP hK hD hS hA hX rfl rfl) rfl rfl hl.1 rfl (lv_room (Nat.le_of_ble_eq_true rfl)) dX11_warns_34 ⟨Nat.le_of_ble_eq_true rfl, Nat.le_of_ble_eq_true rfl⟩) hP hD hS hA (fun u H locs hw_28 hP hD hS => ?_)
      obtain ⟨ws_29, f1_30⟩ := u
      obtain ⟨hT, hp_31⟩ := hw_28
      have hp_31 : rf_R G cx f1_30 ∧ rf_sm f f1_30 ∧ f1_30 = upd f (244 + 54 * p1.toInt.toNat + 36) x_26 := hp_31
      have hR_32 := hp_31.1
      have hM_33 := rf_smt (rf_smr f) hp_31.2.1
      have hP : va_P D vwCl ([(m, .inr (11, [.ref mw, .ref ma, .ref mf, .ref m0, .ref m1, .ref mu, .ref mv, .ref u0, .ref u1, .ref iz, .int th, .ref mb, .int mn, .int mpt, .int mbg, .int mwr, .int mwk, .int mlf, .int men])), (mw, .inl (ct 0, 958, .inl f1_30))] ++ ws_29) H := hP
      have hD : va_D A ([(m, .inr (11, [.ref mw, .ref ma, .ref mf, .ref m0, .ref m1, .ref mu, .ref mv, .ref u0, .ref u1, .ref iz, .int th, .ref mb, .int mn, .int mpt, .int mbg, .int mwr, .int mwk, .int mlf, .int men])), (mw, .inl (ct 0, 958, .inl f1_30))] ++ ws_29) := hD
      refine lv_aload_n hx hb dX11_warns_37 rfl (lv_at hl 1 rfl) ?_
      refine lv_iload_n hx hb dX11_warns_38 rfl (lv_at hl 2 rfl) ?_
      refine lv_iconst (v := 4) hx hb dX11_warns_39 (by decide) ?_
      refine lv_iload_n hx hb dX11_warns_40 rfl (lv_at hl 0 rfl) ?_
      refine ty_kv (wr := []) (wc := ([(m, .inr (11, [.ref mw, .ref ma, .ref mf, .ref m0, .ref m1, .ref mu, .ref mv, .ref u0, .ref u1, .ref iz, .int th, .ref mb, .int mn, .int mpt, .int mbg, .int mwr, .int mwk, .int mlf, .int men])), (mw, .inl (ct 0, 958, .inl f1_30))] ++ ws_29)) (va_runV (As := [.int p1, .int 4, .int r_1]) (rest := []) ⟨hx, hb, hml, hown, hts⟩ (m_X11_notes l D ct S ws_29 m mw ma mf m0 m1 mu mv u0 u1 iz mb th mn mpt mbg mwr mwk mlf men f1_30 G cx p1 (4 : Int32) r_1 _ hT h_mu h_mv h_u0 h_u1 h_mb hR_32) (cm_V 3 hts kc_X11_notes ki_RX11 kl_RX11_282 kv_X11_notes kx_X11_notes kd_X11_notes ⟨Nat.le_of_ble_eq_true rfl, Nat.le_of_ble_eq_true rfl⟩) (ty_preE (wr := []) (wc := ([(m, .inr (11, [.ref mw, .ref ma, .ref mf, .ref m0, .ref m1, .ref mu, .ref mv, .ref u0, .ref u1, .ref iz, .int th, .ref mb, .int mn, .int mpt, .int mbg, .int mwr, .int mwk, .int mlf, .int men])), (mw, .inl (ct 0, 958, .inl f1_30))] ++ ws_29)) (ci := 11) (q0 := 0) hP hK hD hS hA hX rfl rfl) rfl rfl hl.1 rfl (lv_room (Nat.le_of_ble_eq_true rfl)) dX11_warns_41 ⟨Nat.le_of_ble_eq_true rfl, Nat.le_of_ble_eq_true rfl⟩) hP hD hS hA (fun u H locs hw_35 hP hD hS => ?_)
      obtain ⟨ws_36, f1_37⟩ := u
      obtain ⟨hT, hp_38⟩ := hw_35
      have hp_38 : rf_R G cx f1_37 ∧ rf_sm f1_30 f1_37 := hp_38
      have hR_39 := hp_38.1
      have hM_40 := rf_smt hM_33 hp_38.2.1
      have hP : va_P D vwCl ([(m, .inr (11, [.ref mw, .ref ma, .ref mf, .ref m0, .ref m1, .ref mu, .ref mv, .ref u0, .ref u1, .ref iz, .int th, .ref mb, .int mn, .int mpt, .int mbg, .int mwr, .int mwk, .int mlf, .int men])), (mw, .inl (ct 0, 958, .inl f1_37))] ++ ws_36) H := hP
      have hD : va_D A ([(m, .inr (11, [.ref mw, .ref ma, .ref mf, .ref m0, .ref m1, .ref mu, .ref mv, .ref u0, .ref u1, .ref iz, .int th, .ref mb, .int mn, .int mpt, .int mbg, .int mwr, .int mwk, .int mlf, .int men])), (mw, .inl (ct 0, 958, .inl f1_37))] ++ ws_36) := hD
      refine lv_aload_n hx hb dX11_warns_44 rfl (lv_at hl 1 rfl) ?_
      refine lv_iload_n hx hb dX11_warns_45 rfl (lv_at hl 2 rfl) ?_
      refine lv_bipush (v := 37) hx hb dX11_warns_46 (by decide) ?_
      refine lv_iload_n hx hb dX11_warns_48 rfl (lv_at hl 0 rfl) ?_
      refine ty_kv (wr := []) (wc := ([(m, .inr (11, [.ref mw, .ref ma, .ref mf, .ref m0, .ref m1, .ref mu, .ref mv, .ref u0, .ref u1, .ref iz, .int th, .ref mb, .int mn, .int mpt, .int mbg, .int mwr, .int mwk, .int mlf, .int men])), (mw, .inl (ct 0, 958, .inl f1_37))] ++ ws_36)) (va_runV (As := [.int p1, .int 37, .int r_1]) (rest := []) ⟨hx, hb, hml, hown, hts⟩ (m_put_37 l D ct S ws_36 m mw ma mf m0 m1 mu mv u0 u1 iz mb th mn mpt mbg mwr mwk mlf men f1_37 G cx p1 r_1 _ hT h_mu h_mv h_u0 h_u1 h_mb hR_39 hc) (cm_V 3 hts kc_X11_put ki_RX11 kl_RX11_234 kv_X11_put kx_X11_put kd_X11_put ⟨Nat.le_of_ble_eq_true rfl, Nat.le_of_ble_eq_true rfl⟩) (ty_preE (wr := []) (wc := ([(m, .inr (11, [.ref mw, .ref ma, .ref mf, .ref m0, .ref m1, .ref mu, .ref mv, .ref u0, .ref u1, .ref iz, .int th, .ref mb, .int mn, .int mpt, .int mbg, .int mwr, .int mwk, .int mlf, .int men])), (mw, .inl (ct 0, 958, .inl f1_37))] ++ ws_36)) (ci := 11) (q0 := 0) hP hK hD hS hA hX rfl rfl) rfl rfl hl.1 rfl (lv_room (Nat.le_of_ble_eq_true rfl)) dX11_warns_49 ⟨Nat.le_of_ble_eq_true rfl, Nat.le_of_ble_eq_true rfl⟩) hP hD hS hA (fun u H locs hw_42 hP hD hS => ?_)
      obtain ⟨ws_43, f1_44⟩ := u
      obtain ⟨hT, hp_45⟩ := hw_42
      have hp_45 : rf_R G cx f1_44 ∧ rf_sm f1_37 f1_44 ∧ f1_44 = upd f1_37 (244 + 54 * p1.toInt.toNat + 37) r_1 := hp_45
      have hR_46 := hp_45.1
      have hM_47 := rf_smt hM_40 hp_45.2.1
      have hP : va_P D vwCl ([(m, .inr (11, [.ref mw, .ref ma, .ref mf, .ref m0, .ref m1, .ref mu, .ref mv, .ref u0, .ref u1, .ref iz, .int th, .ref mb, .int mn, .int mpt, .int mbg, .int mwr, .int mwk, .int mlf, .int men])), (mw, .inl (ct 0, 958, .inl f1_44))] ++ ws_43) H := hP
      have hD : va_D A ([(m, .inr (11, [.ref mw, .ref ma, .ref mf, .ref m0, .ref m1, .ref mu, .ref mv, .ref u0, .ref u1, .ref iz, .int th, .ref mb, .int mn, .int mpt, .int mbg, .int mwr, .int mwk, .int mlf, .int men])), (mw, .inl (ct 0, 958, .inl f1_44))] ++ ws_43) := hD
      exact W.vret hx hb hr (fun t ht hW => ⟨⟨(ws_43, f1_44), rfl, ⟨hT, ⟨hR_46, hM_47⟩⟩, by rw [ht]; exact hP, by rw [hAe]; exact hD⟩, hS.F ht⟩) hS.2.2 dX11_warns_52
