theorem dX6_readStep_96 : decode cX6_readStep 96 = .ok (.invokevirtual 74, 3) := by decide +kernel
theorem dX6_readStep_99 : decode cX6_readStep 99 = .ok (.invokevirtual 211, 3) := by decide +kernel
theorem dX6_readStep_102 : decode cX6_readStep 102 = .ok (.goto 72, 3) := by decide +kernel
theorem dX6_readStep_105 : decode cX6_readStep 105 = .ok (.aload_n 0, 1) := by decide +kernel
theorem dX6_readStep_106 : decode cX6_readStep 106 = .ok (.ldc 219, 2) := by decide +kernel
theorem dX6_readStep_108 : decode cX6_readStep 108 = .ok (.invokevirtual 28, 3) := by decide +kernel
theorem dX6_readStep_111 : decode cX6_readStep 111 = .ok (.ifCond .eq 20, 3) := by decide +kernel
theorem dX6_readStep_114 : decode cX6_readStep 114 = .ok (.aload_n 1, 1) := by decide +kernel
theorem dX6_readStep_115 : decode cX6_readStep 115 = .ok (.iconst 3, 1) := by decide +kernel
theorem dX6_readStep_116 : decode cX6_readStep 116 = .ok (.aload_n 0, 1) := by decide +kernel
theorem dX6_readStep_117 : decode cX6_readStep 117 = .ok (.iconst 1, 1) := by decide +kernel
theorem dX6_readStep_118 : decode cX6_readStep 118 = .ok (.sipush 5000, 3) := by decide +kernel
theorem dX6_readStep_121 : decode cX6_readStep 121 = .ok (.invokevirtual 74, 3) := by decide +kernel
theorem dX6_readStep_124 : decode cX6_readStep 124 = .ok (.iconst 0, 1) := by decide +kernel
theorem dX6_readStep_125 : decode cX6_readStep 125 = .ok (.invokevirtual 211, 3) := by decide +kernel
theorem dX6_readStep_128 : decode cX6_readStep 128 = .ok (.goto 46, 3) := by decide +kernel
theorem dX6_readStep_131 : decode cX6_readStep 131 = .ok (.aload_n 0, 1) := by decide +kernel
theorem dX6_readStep_132 : decode cX6_readStep 132 = .ok (.ldc 221, 2) := by decide +kernel
theorem dX6_readStep_134 : decode cX6_readStep 134 = .ok (.invokevirtual 28, 3) := by decide +kernel
theorem dX6_readStep_137 : decode cX6_readStep 137 = .ok (.ifCond .eq 28, 3) := by decide +kernel
theorem dX6_readStep_140 : decode cX6_readStep 140 = .ok (.aload_n 0, 1) := by decide +kernel
theorem dX6_readStep_141 : decode cX6_readStep 141 = .ok (.iconst 0, 1) := by decide +kernel
theorem dX6_readStep_142 : decode cX6_readStep 142 = .ok (.iload_n 2, 1) := by decide +kernel
theorem dX6_readStep_143 : decode cX6_readStep 143 = .ok (.iconst 1, 1) := by decide +kernel
theorem dX6_readStep_144 : decode cX6_readStep 144 = .ok (.isub, 1) := by decide +kernel
theorem dX6_readStep_145 : decode cX6_readStep 145 = .ok (.invokevirtual 74, 3) := by decide +kernel
theorem dX6_readStep_148 : decode cX6_readStep 148 = .ok (.istore_n 3, 1) := by decide +kernel
theorem dX6_readStep_149 : decode cX6_readStep 149 = .ok (.aload_n 1, 1) := by decide +kernel
theorem dX6_readStep_150 : decode cX6_readStep 150 = .ok (.iconst 4, 1) := by decide +kernel
theorem dX6_readStep_151 : decode cX6_readStep 151 = .ok (.iload_n 3, 1) := by decide +kernel
theorem dX6_readStep_152 : decode cX6_readStep 152 = .ok (.aload_n 0, 1) := by decide +kernel
theorem dX6_readStep_153 : decode cX6_readStep 153 = .ok (.iconst 1, 1) := by decide +kernel
theorem dX6_readStep_154 : decode cX6_readStep 154 = .ok (.bipush 50, 2) := by decide +kernel
theorem dX6_readStep_156 : decode cX6_readStep 156 = .ok (.invokevirtual 74, 3) := by decide +kernel
theorem dX6_readStep_159 : decode cX6_readStep 159 = .ok (.invokevirtual 211, 3) := by decide +kernel
theorem dX6_readStep_162 : decode cX6_readStep 162 = .ok (.goto 12, 3) := by decide +kernel
theorem dX6_readStep_165 : decode cX6_readStep 165 = .ok (.aload_n 0, 1) := by decide +kernel
theorem dX6_readStep_166 : decode cX6_readStep 166 = .ok (.iconst 1, 1) := by decide +kernel
theorem dX6_readStep_167 : decode cX6_readStep 167 = .ok (.aload_n 0, 1) := by decide +kernel
theorem dX6_readStep_168 : decode cX6_readStep 168 = .ok (.getfield 130, 3) := by decide +kernel
theorem dX6_readStep_171 : decode cX6_readStep 171 = .ok (.invokevirtual 68, 3) := by decide +kernel
theorem dX6_readStep_174 : decode cX6_readStep 174 = .ok (.return_, 1) := by decide +kernel
set_option maxRecDepth 100000 in
set_option maxHeartbeats 4000000 in
theorem t_X6_readStep (l : Launch) (D : va_G) (ct : Nat → ClassId) (S : ty_S) (ws : va_W) (rd : Nat) (bt : Nat) (tg : Nat) (nb : Nat) (ln : Int32) (pl : Int32) (wst : Int32) (er : Int32) (ep : Int32) (p1 : Nat) (p2 : Int32) (sz : Nat) (hT : ty_W ct S ws) (h_bt : S bt = some (.inr (0, nb))) (h_tg : S tg = some (.inl 9)) (h_p1 : S p1 = some (.inl 5)) : Met l yX6_readStep (ws_ yX6_readStep cX6_readStep 4 none) ({ frames := 5, cells := 0, slots := 0, locals := 107 } : Room) (va_Pc [.ref rd, .ref p1, .int p2] (cmP D ct sz ([(rd, .inr (6, [.ref bt, .int ln, .ref tg, .int pl, .int wst, .int er, .int ep]))] ++ ws))) (va_Qv (fun (u : va_W × Int32 × Int32 × Int32 × Int32) => match u with | (u9, pl1, ws1, er1, ep1) => ty_W ct S u9) (cmB D ([(rd, .inr (6, [.ref bt, .int ln, .ref tg, .int pl, .int wst, .int er, .int ep]))] ++ ws) sz (fun (u : va_W × Int32 × Int32 × Int32 × Int32) => match u with | (u9, pl1, ws1, er1, ep1) => ([(rd, .inr (6, [.ref bt, .int ln, .ref tg, .int pl1, .int ws1, .int er1, .int ep1]))] ++ u9))) (va_A ([(rd, .inr (6, [.ref bt, .int ln, .ref tg, .int pl, .int wst, .int er, .int ep]))] ++ ws) sz)) 0 0 (va_A ([(rd, .inr (6, [.ref bt, .int ln, .ref tg, .int pl, .int wst, .int er, .int ep]))] ++ ws) sz) := by
  refine Met.ofW (cc := cX6_readStep) (maxL := 4) (ret := none) (by decide) rfl ?_
  intro p e s m args below meth c s₁ B hml hv
  obtain ⟨rfl, hsz, hP, hK, hD0, hX⟩ := hv
  have hx := B.exec
  have hb := B.bytes
  have hr := B.returns
  have hts := ws_all (atoms_spec (ws := ws_ yX6_readStep cX6_readStep 4 none) B.pre)
  have hown : s.vm.findClass RX6 = some m.cls := findClass_of_methodNamed B.named
  have hlocks := B.notSynchronized
  subst hsz
  have hD := hD0.self (sz := s.heap.size)
  generalize hAe : va_A ([(rd, .inr (6, [.ref bt, .int ln, .ref tg, .int pl, .int wst, .int er, .int ep]))] ++ ws) s.heap.size = A at hD hX ⊢
  have hA : ∀ q : Nat, s.heap.size ≤ q → A q := fun q h => by rw [← hAe]; exact Or.inr h
  have hS : va_S A s.heap s.heap [] := va_S.rf
  have hl := lv_entry ([.ref rd, .ref p1, .int p2]) (n := 4) (Nat.le_of_ble_eq_true rfl)
  rw [lg_entry_eq]
  generalize (lg_sl ([.ref rd, .ref p1, .int p2]) ++ List.replicate (4 - (lg_sl ([.ref rd, .ref p1, .int p2])).length) Slot.unset).toArray = ls at hl ⊢
  have hl : lv_has ls 4 [(0, .ref rd), (1, .ref p1), (2, .int p2)] := hl
  refine lv_aload_n hx hb dX6_readStep_0 rfl (lv_at hl 0 rfl) ?_
  obtain ⟨sa_1, sv_2, hsr_3, hss_4⟩ := hX.2.2.2.1 ("CellCycler$Reader", 209, "charge", [99, 104, 97, 114, 103, 101]) (by decide +kernel)
  refine va_ldcS hx hb hown hsr_3 dX6_readStep_1 ?_
  refine ty_ki (wr := []) (wc := ([(rd, .inr (6, [.ref bt, .int ln, .ref tg, .int pl, .int wst, .int er, .int ep]))] ++ ws)) (va_runV (As := [.ref sa_1]) (rest := []) ⟨hx, hb, hml, hown, hts⟩ (t_X6_wordIs l D ct S ws rd bt tg nb ln pl wst er ep sa_1 ("CellCycler$Reader", 209, "charge", [99, 104, 97, 114, 103, 101]) _ hT h_bt h_tg (by decide +kernel)) (cm_V 1 hts kc_X6_wordIs ki_RX6 kl_RX6_28 kv_X6_wordIs kx_X6_wordIs kd_X6_wordIs ⟨Nat.le_of_ble_eq_true rfl, Nat.le_of_ble_eq_true rfl⟩) (cm_preVs (ty_preE (wr := []) (wc := ([(rd, .inr (6, [.ref bt, .int ln, .ref tg, .int pl, .int wst, .int er, .int ep]))] ++ ws)) (ci := 6) (q0 := 0) hP hK hD hS hA hX rfl rfl) hsr_3) rfl rfl hl.1 rfl (lv_room (Nat.le_of_ble_eq_true rfl)) dX6_readStep_3 ⟨Nat.le_of_ble_eq_true rfl, Nat.le_of_ble_eq_true rfl⟩) hP hD hS hA (fun r_5 u H locs hw_6 hP hD hS => ?_)
  obtain ⟨ws_7, rfl⟩ : ∃ z, z = u := ⟨_, rfl⟩
  have hT := hw_6
  have hP : va_P D vwCl ([(rd, .inr (6, [.ref bt, .int ln, .ref tg, .int pl, .int wst, .int er, .int ep]))] ++ ws_7) H := hP
  have hD : va_D A ([(rd, .inr (6, [.ref bt, .int ln, .ref tg, .int pl, .int wst, .int er, .int ep]))] ++ ws_7) := hD
  refine lv_if_eq (tgt := 35) hx hb dX6_readStep_6 (by decide) (fun hc_8 => ?_) (fun hc_8 => ?_)
  · refine lv_aload_n hx hb dX6_readStep_35 rfl (lv_at hl 0 rfl) ?_
    obtain ⟨sa_9, sv_10, hsr_11, hss_12⟩ := hX.2.2.2.1 ("CellCycler$Reader", 215, "hold", [104, 111, 108, 100]) (by decide +kernel)
    refine va_ldcS hx hb hown hsr_11 dX6_readStep_36 ?_
    refine ty_ki (wr := []) (wc := ([(rd, .inr (6, [.ref bt, .int ln, .ref tg, .int pl, .int wst, .int er, .int ep]))] ++ ws_7)) (va_runV (As := [.ref sa_9]) (rest := []) ⟨hx, hb, hml, hown, hts⟩ (t_X6_wordIs l D ct S ws_7 rd bt tg nb ln pl wst er ep sa_9 ("CellCycler$Reader", 215, "hold", [104, 111, 108, 100]) _ hT h_bt h_tg (by decide +kernel)) (cm_V 1 hts kc_X6_wordIs ki_RX6 kl_RX6_28 kv_X6_wordIs kx_X6_wordIs kd_X6_wordIs ⟨Nat.le_of_ble_eq_true rfl, Nat.le_of_ble_eq_true rfl⟩) (cm_preVs (ty_preE (wr := []) (wc := ([(rd, .inr (6, [.ref bt, .int ln, .ref tg, .int pl, .int wst, .int er, .int ep]))] ++ ws_7)) (ci := 6) (q0 := 0) hP hK hD hS hA hX rfl rfl) hsr_11) rfl rfl hl.1 rfl (lv_room (Nat.le_of_ble_eq_true rfl)) dX6_readStep_38 ⟨Nat.le_of_ble_eq_true rfl, Nat.le_of_ble_eq_true rfl⟩) hP hD hS hA (fun r_13 u H locs hw_14 hP hD hS => ?_)
    obtain ⟨ws_15, rfl⟩ : ∃ z, z = u := ⟨_, rfl⟩
    have hT := hw_14
    have hP : va_P D vwCl ([(rd, .inr (6, [.ref bt, .int ln, .ref tg, .int pl, .int wst, .int er, .int ep]))] ++ ws_15) H := hP
    have hD : va_D A ([(rd, .inr (6, [.ref bt, .int ln, .ref tg, .int pl, .int wst, .int er, .int ep]))] ++ ws_15) := hD
    refine lv_if_eq (tgt := 70) hx hb dX6_readStep_41 (by decide) (fun hc_16 => ?_) (fun hc_16 => ?_)
    · refine lv_aload_n hx hb dX6_readStep_70 rfl (lv_at hl 0 rfl) ?_
      obtain ⟨sa_17, sv_18, hsr_19, hss_20⟩ := hX.2.2.2.1 ("CellCycler$Reader", 217, "discharge", [100, 105, 115, 99, 104, 97, 114, 103, 101]) (by decide +kernel)
      refine va_ldcS hx hb hown hsr_19 dX6_readStep_71 ?_
      refine ty_ki (wr := []) (wc := ([(rd, .inr (6, [.ref bt, .int ln, .ref tg, .int pl, .int wst, .int er, .int ep]))] ++ ws_15)) (va_runV (As := [.ref sa_17]) (rest := []) ⟨hx, hb, hml, hown, hts⟩ (t_X6_wordIs l D ct S ws_15 rd bt tg nb ln pl wst er ep sa_17 ("CellCycler$Reader", 217, "discharge", [100, 105, 115, 99, 104, 97, 114, 103, 101]) _ hT h_bt h_tg (by decide +kernel)) (cm_V 1 hts kc_X6_wordIs ki_RX6 kl_RX6_28 kv_X6_wordIs kx_X6_wordIs kd_X6_wordIs ⟨Nat.le_of_ble_eq_true rfl, Nat.le_of_ble_eq_true rfl⟩) (cm_preVs (ty_preE (wr := []) (wc := ([(rd, .inr (6, [.ref bt, .int ln, .ref tg, .int pl, .int wst, .int er, .int ep]))] ++ ws_15)) (ci := 6) (q0 := 0) hP hK hD hS hA hX rfl rfl) hsr_19) rfl rfl hl.1 rfl (lv_room (Nat.le_of_ble_eq_true rfl)) dX6_readStep_73 ⟨Nat.le_of_ble_eq_true rfl, Nat.le_of_ble_eq_true rfl⟩) hP hD hS hA (fun r_21 u H locs hw_22 hP hD hS => ?_)
      obtain ⟨ws_23, rfl⟩ : ∃ z, z = u := ⟨_, rfl⟩
      have hT := hw_22
      have hP : va_P D vwCl ([(rd, .inr (6, [.ref bt, .int ln, .ref tg, .int pl, .int wst, .int er, .int ep]))] ++ ws_23) H := hP
      have hD : va_D A ([(rd, .inr (6, [.ref bt, .int ln, .ref tg, .int pl, .int wst, .int er, .int ep]))] ++ ws_23) := hD
      refine lv_if_eq (tgt := 105) hx hb dX6_readStep_76 (by decide) (fun hc_24 => ?_) (fun hc_24 => ?_)
      · refine lv_aload_n hx hb dX6_readStep_105 rfl (lv_at hl 0 rfl) ?_
        obtain ⟨sa_25, sv_26, hsr_27, hss_28⟩ := hX.2.2.2.1 ("CellCycler$Reader", 219, "rest", [114, 101, 115, 116]) (by decide +kernel)
        refine va_ldcS hx hb hown hsr_27 dX6_readStep_106 ?_
        refine ty_ki (wr := []) (wc := ([(rd, .inr (6, [.ref bt, .int ln, .ref tg, .int pl, .int wst, .int er, .int ep]))] ++ ws_23)) (va_runV (As := [.ref sa_25]) (rest := []) ⟨hx, hb, hml, hown, hts⟩ (t_X6_wordIs l D ct S ws_23 rd bt tg nb ln pl wst er ep sa_25 ("CellCycler$Reader", 219, "rest", [114, 101, 115, 116]) _ hT h_bt h_tg (by decide +kernel)) (cm_V 1 hts kc_X6_wordIs ki_RX6 kl_RX6_28 kv_X6_wordIs kx_X6_wordIs kd_X6_wordIs ⟨Nat.le_of_ble_eq_true rfl, Nat.le_of_ble_eq_true rfl⟩) (cm_preVs (ty_preE (wr := []) (wc := ([(rd, .inr (6, [.ref bt, .int ln, .ref tg, .int pl, .int wst, .int er, .int ep]))] ++ ws_23)) (ci := 6) (q0 := 0) hP hK hD hS hA hX rfl rfl) hsr_27) rfl rfl hl.1 rfl (lv_room (Nat.le_of_ble_eq_true rfl)) dX6_readStep_108 ⟨Nat.le_of_ble_eq_true rfl, Nat.le_of_ble_eq_true rfl⟩) hP hD hS hA (fun r_29 u H locs hw_30 hP hD hS => ?_)
        obtain ⟨ws_31, rfl⟩ : ∃ z, z = u := ⟨_, rfl⟩
        have hT := hw_30
        have hP : va_P D vwCl ([(rd, .inr (6, [.ref bt, .int ln, .ref tg, .int pl, .int wst, .int er, .int ep]))] ++ ws_31) H := hP
        have hD : va_D A ([(rd, .inr (6, [.ref bt, .int ln, .ref tg, .int pl, .int wst, .int er, .int ep]))] ++ ws_31) := hD
        refine lv_if_eq (tgt := 131) hx hb dX6_readStep_111 (by decide) (fun hc_32 => ?_) (fun hc_32 => ?_)
        · refine lv_aload_n hx hb dX6_readStep_131 rfl (lv_at hl 0 rfl) ?_
          obtain ⟨sa_33, sv_34, hsr_35, hss_36⟩ := hX.2.2.2.1 ("CellCycler$Reader", 221, "repeat", [114, 101, 112, 101, 97, 116]) (by decide +kernel)
          refine va_ldcS hx hb hown hsr_35 dX6_readStep_132 ?_
          refine ty_ki (wr := []) (wc := ([(rd, .inr (6, [.ref bt, .int ln, .ref tg, .int pl, .int wst, .int er, .int ep]))] ++ ws_31)) (va_runV (As := [.ref sa_33]) (rest := []) ⟨hx, hb, hml, hown, hts⟩ (t_X6_wordIs l D ct S ws_31 rd bt tg nb ln pl wst er ep sa_33 ("CellCycler$Reader", 221, "repeat", [114, 101, 112, 101, 97, 116]) _ hT h_bt h_tg (by decide +kernel)) (cm_V 1 hts kc_X6_wordIs ki_RX6 kl_RX6_28 kv_X6_wordIs kx_X6_wordIs kd_X6_wordIs ⟨Nat.le_of_ble_eq_true rfl, Nat.le_of_ble_eq_true rfl⟩) (cm_preVs (ty_preE (wr := []) (wc := ([(rd, .inr (6, [.ref bt, .int ln, .ref tg, .int pl, .int wst, .int er, .int ep]))] ++ ws_31)) (ci := 6) (q0 := 0) hP hK hD hS hA hX rfl rfl) hsr_35) rfl rfl hl.1 rfl (lv_room (Nat.le_of_ble_eq_true rfl)) dX6_readStep_134 ⟨Nat.le_of_ble_eq_true rfl, Nat.le_of_ble_eq_true rfl⟩) hP hD hS hA (fun r_37 u H locs hw_38 hP hD hS => ?_)
          obtain ⟨ws_39, rfl⟩ : ∃ z, z = u := ⟨_, rfl⟩
          have hT := hw_38
          have hP : va_P D vwCl ([(rd, .inr (6, [.ref bt, .int ln, .ref tg, .int pl, .int wst, .int er, .int ep]))] ++ ws_39) H := hP
          have hD : va_D A ([(rd, .inr (6, [.ref bt, .int ln, .ref tg, .int pl, .int wst, .int er, .int ep]))] ++ ws_39) := hD
          refine lv_if_eq (tgt := 165) hx hb dX6_readStep_137 (by decide) (fun hc_40 => ?_) (fun hc_40 => ?_)
          · refine lv_aload_n hx hb dX6_readStep_165 rfl (lv_at hl 0 rfl) ?_
            refine lv_iconst (v := 1) hx hb dX6_readStep_166 (by decide) ?_
            refine lv_aload_n hx hb dX6_readStep_167 rfl (lv_at hl 0 rfl) ?_
            refine va_get (v := .int wst) (D := D) (ci := 6) (C := RX6) (T := TX6) (N := 7) hx hb hts in_X6 hown hK hP 0 rfl rfl 4 (by decide) (hts _ kl_RX6_130) (fun _ h9 => h9) rfl dX6_readStep_168 ?_
            refine ty_kv (wr := []) (wc := ([(rd, .inr (6, [.ref bt, .int ln, .ref tg, .int pl, .int wst, .int er, .int ep]))] ++ ws_39)) (va_runV (As := [.int 1, .int wst]) (rest := []) ⟨hx, hb, hml, hown, hts⟩ (t_X6_fail l D ct S ws_39 rd bt tg nb ln pl wst er ep (1 : Int32) wst _ hT h_bt h_tg) (cm_V 2 hts kc_X6_fail ki_RX6 kl_RX6_68 kv_X6_fail kx_X6_fail kd_X6_fail ⟨Nat.le_of_ble_eq_true rfl, Nat.le_of_ble_eq_true rfl⟩) (ty_preE (wr := []) (wc := ([(rd, .inr (6, [.ref bt, .int ln, .ref tg, .int pl, .int wst, .int er, .int ep]))] ++ ws_39)) (ci := 6) (q0 := 0) hP hK hD hS hA hX rfl rfl) rfl rfl hl.1 rfl (lv_room (Nat.le_of_ble_eq_true rfl)) dX6_readStep_171 ⟨Nat.le_of_ble_eq_true rfl, Nat.le_of_ble_eq_true rfl⟩) hP hD hS hA (fun u H locs hw_42 hP hD hS => ?_)
            obtain ⟨ws_43, er1_44, ep1_45⟩ := u
            have hT := hw_42
            have hP : va_P D vwCl ([(rd, .inr (6, [.ref bt, .int ln, .ref tg, .int pl, .int wst, .int er1_44, .int ep1_45]))] ++ ws_43) H := hP
            have hD : va_D A ([(rd, .inr (6, [.ref bt, .int ln, .ref tg, .int pl, .int wst, .int er1_44, .int ep1_45]))] ++ ws_43) := hD
            exact W.vret hx hb hr (fun t ht hW => ⟨⟨(ws_43, pl, wst, er1_44, ep1_45), rfl, hT, by rw [ht]; exact hP, by rw [hAe]; exact hD⟩, hS.F ht⟩) hS.2.2 dX6_readStep_174
          · refine lv_aload_n hx hb dX6_readStep_140 rfl (lv_at hl 0 rfl) ?_
            refine lv_iconst (v := 0) hx hb dX6_readStep_141 (by decide) ?_
            refine lv_iload_n hx hb dX6_readStep_142 rfl (lv_at hl 2 rfl) ?_
            refine lv_iconst (v := 1) hx hb dX6_readStep_143 (by decide) ?_
            refine lv_isub hx hb dX6_readStep_144 ?_
            refine lv_topi (fun x_46 _ => ?_)
            refine ty_ki (wr := []) (wc := ([(rd, .inr (6, [.ref bt, .int ln, .ref tg, .int pl, .int wst, .int er, .int ep]))] ++ ws_39)) (va_runV (As := [.int 0, .int x_46]) (rest := []) ⟨hx, hb, hml, hown, hts⟩ (t_X6_readNumber l D ct S ws_39 rd bt tg nb ln pl wst er ep (0 : Int32) x_46 _ hT h_bt h_tg) (cm_V 2 hts kc_X6_readNumber ki_RX6 kl_RX6_74 kv_X6_readNumber kx_X6_readNumber kd_X6_readNumber ⟨Nat.le_of_ble_eq_true rfl, Nat.le_of_ble_eq_true rfl⟩) (ty_preE (wr := []) (wc := ([(rd, .inr (6, [.ref bt, .int ln, .ref tg, .int pl, .int wst, .int er, .int ep]))] ++ ws_39)) (ci := 6) (q0 := 0) hP hK hD hS hA hX rfl rfl) rfl rfl hl.1 rfl (lv_room (Nat.le_of_ble_eq_true rfl)) dX6_readStep_145 ⟨Nat.le_of_ble_eq_true rfl, Nat.le_of_ble_eq_true rfl⟩) hP hD hS hA (fun r_47 u H locs hw_48 hP hD hS => ?_)
            obtain ⟨ws_49, pl1_50, ws1_51, er1_52, ep1_53⟩ := u
            have hT := hw_48
            have hP : va_P D vwCl ([(rd, .inr (6, [.ref bt, .int ln, .ref tg, .int pl1_50, .int ws1_51, .int er1_52, .int ep1_53]))] ++ ws_49) H := hP
            have hD : va_D A ([(rd, .inr (6, [.ref bt, .int ln, .ref tg, .int pl1_50, .int ws1_51, .int er1_52, .int ep1_53]))] ++ ws_49) := hD
            refine lv_istore_n (lv' := [(3, .int r_47), (0, .ref rd), (1, .ref p1), (2, .int p2)]) hx hb dX6_readStep_148 rfl hl (by decide) rfl (fun ls hl => ?_)
            refine lv_aload_n hx hb dX6_readStep_149 rfl (lv_at hl 2 rfl) ?_
            refine lv_iconst (v := 4) hx hb dX6_readStep_150 (by decide) ?_
            refine lv_iload_n hx hb dX6_readStep_151 rfl (lv_at hl 0 rfl) ?_
            refine lv_aload_n hx hb dX6_readStep_152 rfl (lv_at hl 1 rfl) ?_
            refine lv_iconst (v := 1) hx hb dX6_readStep_153 (by decide) ?_
            refine lv_bipush (v := 50) hx hb dX6_readStep_154 (by decide) ?_
            refine ty_ki (wr := []) (wc := ([(rd, .inr (6, [.ref bt, .int ln, .ref tg, .int pl1_50, .int ws1_51, .int er1_52, .int ep1_53]))] ++ ws_49)) (va_runV (As := [.int 1, .int 50]) (rest := [.int r_47, .int 4, .ref p1]) ⟨hx, hb, hml, hown, hts⟩ (t_X6_readNumber l D ct S ws_49 rd bt tg nb ln pl1_50 ws1_51 er1_52 ep1_53 (1 : Int32) (50 : Int32) _ hT h_bt h_tg) (cm_V 2 hts kc_X6_readNumber ki_RX6 kl_RX6_74 kv_X6_readNumber kx_X6_readNumber kd_X6_readNumber ⟨Nat.le_of_ble_eq_true rfl, Nat.le_of_ble_eq_true rfl⟩) (ty_preE (wr := []) (wc := ([(rd, .inr (6, [.ref bt, .int ln, .ref tg, .int pl1_50, .int ws1_51, .int er1_52, .int ep1_53]))] ++ ws_49)) (ci := 6) (q0 := 0) hP hK hD hS hA hX rfl rfl) rfl rfl hl.1 rfl (lv_room (Nat.le_of_ble_eq_true rfl)) dX6_readStep_156 ⟨Nat.le_of_ble_eq_true rfl, Nat.le_of_ble_eq_true rfl⟩) hP hD hS hA (fun r_54 u H locs hw_55 hP hD hS => ?_)
            obtain ⟨ws_56, pl1_57, ws1_58, er1_59, ep1_60⟩ := u
            have hT := hw_55
            have hP : va_P D vwCl ([(rd, .inr (6, [.ref bt, .int ln, .ref tg, .int pl1_57, .int ws1_58, .int er1_59, .int ep1_60]))] ++ ws_56) H := hP
            have hD : va_D A ([(rd, .inr (6, [.ref bt, .int ln, .ref tg, .int pl1_57, .int ws1_58, .int er1_59, .int ep1_60]))] ++ ws_56) := hD
            refine ty_kv (wr := [(rd, .inr (6, [.ref bt, .int ln, .ref tg, .int pl1_57, .int ws1_58, .int er1_59, .int ep1_60]))]) (wc := ([] ++ ws_56)) (va_runVN (As := [.int 4, .int r_47, .int r_54]) (rest := []) ⟨hx, hb, hml, hown, hts⟩ (t_X5_addStepToLast l D ct S ws_56 p1 (4 : Int32) r_47 r_54 _ hT h_p1) (cm_VN 3 hts kc_X5_addStepToLast ki_RX5 kl_RX6_211 kv_X5_addStepToLast kx_X5_addStepToLast kd_X5_addStepToLast ⟨Nat.le_of_ble_eq_true rfl, Nat.le_of_ble_eq_true rfl⟩) (ty_preV (wr := [(rd, .inr (6, [.ref bt, .int ln, .ref tg, .int pl1_57, .int ws1_58, .int er1_59, .int ep1_60]))]) (E := []) (ws := ws_56) (ci := 5) hP hK hD hS hA hX hT rfl h_p1) rfl rfl hl.1 rfl (lv_room (Nat.le_of_ble_eq_true rfl)) dX6_readStep_159 ⟨Nat.le_of_ble_eq_true rfl, Nat.le_of_ble_eq_true rfl⟩) hP hD hS hA (fun u H locs hw_62 hP hD hS => ?_)
            obtain ⟨ws_63, rfl⟩ : ∃ z, z = u := ⟨_, rfl⟩
            have hT := hw_62
            have hP : va_P D vwCl ([(rd, .inr (6, [.ref bt, .int ln, .ref tg, .int pl1_57, .int ws1_58, .int er1_59, .int ep1_60]))] ++ ws_63) H := hP
            have hD : va_D A ([(rd, .inr (6, [.ref bt, .int ln, .ref tg, .int pl1_57, .int ws1_58, .int er1_59, .int ep1_60]))] ++ ws_63) := hD
            refine lv_goto (tgt := 174) hx hb dX6_readStep_162 (by decide) ?_
            exact W.vret hx hb hr (fun t ht hW => ⟨⟨(ws_63, pl1_57, ws1_58, er1_59, ep1_60), rfl, hT, by rw [ht]; exact hP, by rw [hAe]; exact hD⟩, hS.F ht⟩) hS.2.2 dX6_readStep_174
        · refine lv_aload_n hx hb dX6_readStep_114 rfl (lv_at hl 1 rfl) ?_
          refine lv_iconst (v := 3) hx hb dX6_readStep_115 (by decide) ?_
          refine lv_aload_n hx hb dX6_readStep_116 rfl (lv_at hl 0 rfl) ?_
          refine lv_iconst (v := 1) hx hb dX6_readStep_117 (by decide) ?_
          refine lv_sipush (v := 5000) hx hb dX6_readStep_118 (by decide) ?_
          refine ty_ki (wr := []) (wc := ([(rd, .inr (6, [.ref bt, .int ln, .ref tg, .int pl, .int wst, .int er, .int ep]))] ++ ws_31)) (va_runV (As := [.int 1, .int 5000]) (rest := [.int 3, .ref p1]) ⟨hx, hb, hml, hown, hts⟩ (t_X6_readNumber l D ct S ws_31 rd bt tg nb ln pl wst er ep (1 : Int32) (5000 : Int32) _ hT h_bt h_tg) (cm_V 2 hts kc_X6_readNumber ki_RX6 kl_RX6_74 kv_X6_readNumber kx_X6_readNumber kd_X6_readNumber ⟨Nat.le_of_ble_eq_true rfl, Nat.le_of_ble_eq_true rfl⟩) (ty_preE (wr := []) (wc := ([(rd, .inr (6, [.ref bt, .int ln, .ref tg, .int pl, .int wst, .int er, .int ep]))] ++ ws_31)) (ci := 6) (q0 := 0) hP hK hD hS hA hX rfl rfl) rfl rfl hl.1 rfl (lv_room (Nat.le_of_ble_eq_true rfl)) dX6_readStep_121 ⟨Nat.le_of_ble_eq_true rfl, Nat.le_of_ble_eq_true rfl⟩) hP hD hS hA (fun r_64 u H locs hw_65 hP hD hS => ?_)
          obtain ⟨ws_66, pl1_67, ws1_68, er1_69, ep1_70⟩ := u
          have hT := hw_65
          have hP : va_P D vwCl ([(rd, .inr (6, [.ref bt, .int ln, .ref tg, .int pl1_67, .int ws1_68, .int er1_69, .int ep1_70]))] ++ ws_66) H := hP
          have hD : va_D A ([(rd, .inr (6, [.ref bt, .int ln, .ref tg, .int pl1_67, .int ws1_68, .int er1_69, .int ep1_70]))] ++ ws_66) := hD
          refine lv_iconst (v := 0) hx hb dX6_readStep_124 (by decide) ?_
          refine ty_kv (wr := [(rd, .inr (6, [.ref bt, .int ln, .ref tg, .int pl1_67, .int ws1_68, .int er1_69, .int ep1_70]))]) (wc := ([] ++ ws_66)) (va_runVN (As := [.int 3, .int r_64, .int 0]) (rest := []) ⟨hx, hb, hml, hown, hts⟩ (t_X5_addStepToLast l D ct S ws_66 p1 (3 : Int32) r_64 (0 : Int32) _ hT h_p1) (cm_VN 3 hts kc_X5_addStepToLast ki_RX5 kl_RX6_211 kv_X5_addStepToLast kx_X5_addStepToLast kd_X5_addStepToLast ⟨Nat.le_of_ble_eq_true rfl, Nat.le_of_ble_eq_true rfl⟩) (ty_preV (wr := [(rd, .inr (6, [.ref bt, .int ln, .ref tg, .int pl1_67, .int ws1_68, .int er1_69, .int ep1_70]))]) (E := []) (ws := ws_66) (ci := 5) hP hK hD hS hA hX hT rfl h_p1) rfl rfl hl.1 rfl (lv_room (Nat.le_of_ble_eq_true rfl)) dX6_readStep_125 ⟨Nat.le_of_ble_eq_true rfl, Nat.le_of_ble_eq_true rfl⟩) hP hD hS hA (fun u H locs hw_72 hP hD hS => ?_)
          obtain ⟨ws_73, rfl⟩ : ∃ z, z = u := ⟨_, rfl⟩
          have hT := hw_72
          have hP : va_P D vwCl ([(rd, .inr (6, [.ref bt, .int ln, .ref tg, .int pl1_67, .int ws1_68, .int er1_69, .int ep1_70]))] ++ ws_73) H := hP
          have hD : va_D A ([(rd, .inr (6, [.ref bt, .int ln, .ref tg, .int pl1_67, .int ws1_68, .int er1_69, .int ep1_70]))] ++ ws_73) := hD
          refine lv_goto (tgt := 174) hx hb dX6_readStep_128 (by decide) ?_
          exact W.vret hx hb hr (fun t ht hW => ⟨⟨(ws_73, pl1_67, ws1_68, er1_69, ep1_70), rfl, hT, by rw [ht]; exact hP, by rw [hAe]; exact hD⟩, hS.F ht⟩) hS.2.2 dX6_readStep_174
      · refine lv_aload_n hx hb dX6_readStep_79 rfl (lv_at hl 0 rfl) ?_
        refine lv_iconst (v := 1) hx hb dX6_readStep_80 (by decide) ?_
        refine lv_sipush (v := 5000) hx hb dX6_readStep_81 (by decide) ?_
        refine ty_ki (wr := []) (wc := ([(rd, .inr (6, [.ref bt, .int ln, .ref tg, .int pl, .int wst, .int er, .int ep]))] ++ ws_23)) (va_runV (As := [.int 1, .int 5000]) (rest := []) ⟨hx, hb, hml, hown, hts⟩ (t_X6_readNumber l D ct S ws_23 rd bt tg nb ln pl wst er ep (1 : Int32) (5000 : Int32) _ hT h_bt h_tg) (cm_V 2 hts kc_X6_readNumber ki_RX6 kl_RX6_74 kv_X6_readNumber kx_X6_readNumber kd_X6_readNumber ⟨Nat.le_of_ble_eq_true rfl, Nat.le_of_ble_eq_true rfl⟩) (ty_preE (wr := []) (wc := ([(rd, .inr (6, [.ref bt, .int ln, .ref tg, .int pl, .int wst, .int er, .int ep]))] ++ ws_23)) (ci := 6) (q0 := 0) hP hK hD hS hA hX rfl rfl) rfl rfl hl.1 rfl (lv_room (Nat.le_of_ble_eq_true rfl)) dX6_readStep_84 ⟨Nat.le_of_ble_eq_true rfl, Nat.le_of_ble_eq_true rfl⟩) hP hD hS hA (fun r_74 u H locs hw_75 hP hD hS => ?_)
        obtain ⟨ws_76, pl1_77, ws1_78, er1_79, ep1_80⟩ := u
        have hT := hw_75
        have hP : va_P D vwCl ([(rd, .inr (6, [.ref bt, .int ln, .ref tg, .int pl1_77, .int ws1_78, .int er1_79, .int ep1_80]))] ++ ws_76) H := hP
        have hD : va_D A ([(rd, .inr (6, [.ref bt, .int ln, .ref tg, .int pl1_77, .int ws1_78, .int er1_79, .int ep1_80]))] ++ ws_76) := hD
        refine lv_istore_n (lv' := [(3, .int r_74), (0, .ref rd), (1, .ref p1), (2, .int p2)]) hx hb dX6_readStep_87 rfl hl (by decide) rfl (fun ls hl => ?_)
        refine lv_aload_n hx hb dX6_readStep_88 rfl (lv_at hl 2 rfl) ?_
        refine lv_iconst (v := 2) hx hb dX6_readStep_89 (by decide) ?_
        refine lv_iload_n hx hb dX6_readStep_90 rfl (lv_at hl 0 rfl) ?_
        refine lv_aload_n hx hb dX6_readStep_91 rfl (lv_at hl 1 rfl) ?_
        refine lv_iconst (v := 0) hx hb dX6_readStep_92 (by decide) ?_
        refine lv_sipush (v := 5000) hx hb dX6_readStep_93 (by decide) ?_
        refine ty_ki (wr := []) (wc := ([(rd, .inr (6, [.ref bt, .int ln, .ref tg, .int pl1_77, .int ws1_78, .int er1_79, .int ep1_80]))] ++ ws_76)) (va_runV (As := [.int 0, .int 5000]) (rest := [.int r_74, .int 2, .ref p1]) ⟨hx, hb, hml, hown, hts⟩ (t_X6_readNumber l D ct S ws_76 rd bt tg nb ln pl1_77 ws1_78 er1_79 ep1_80 (0 : Int32) (5000 : Int32) _ hT h_bt h_tg) (cm_V 2 hts kc_X6_readNumber ki_RX6 kl_RX6_74 kv_X6_readNumber kx_X6_readNumber kd_X6_readNumber ⟨Nat.le_of_ble_eq_true rfl, Nat.le_of_ble_eq_true rfl⟩) (ty_preE (wr := []) (wc := ([(rd, .inr (6, [.ref bt, .int ln, .ref tg, .int pl1_77, .int ws1_78, .int er1_79, .int ep1_80]))] ++ ws_76)) (ci := 6) (q0 := 0) hP hK hD hS hA hX rfl rfl) rfl rfl hl.1 rfl (lv_room (Nat.le_of_ble_eq_true rfl)) dX6_readStep_96 ⟨Nat.le_of_ble_eq_true rfl, Nat.le_of_ble_eq_true rfl⟩) hP hD hS hA (fun r_81 u H locs hw_82 hP hD hS => ?_)
        obtain ⟨ws_83, pl1_84, ws1_85, er1_86, ep1_87⟩ := u
        have hT := hw_82
        have hP : va_P D vwCl ([(rd, .inr (6, [.ref bt, .int ln, .ref tg, .int pl1_84, .int ws1_85, .int er1_86, .int ep1_87]))] ++ ws_83) H := hP
        have hD : va_D A ([(rd, .inr (6, [.ref bt, .int ln, .ref tg, .int pl1_84, .int ws1_85, .int er1_86, .int ep1_87]))] ++ ws_83) := hD
        refine ty_kv (wr := [(rd, .inr (6, [.ref bt, .int ln, .ref tg, .int pl1_84, .int ws1_85, .int er1_86, .int ep1_87]))]) (wc := ([] ++ ws_83)) (va_runVN (As := [.int 2, .int r_74, .int r_81]) (rest := []) ⟨hx, hb, hml, hown, hts⟩ (t_X5_addStepToLast l D ct S ws_83 p1 (2 : Int32) r_74 r_81 _ hT h_p1) (cm_VN 3 hts kc_X5_addStepToLast ki_RX5 kl_RX6_211 kv_X5_addStepToLast kx_X5_addStepToLast kd_X5_addStepToLast ⟨Nat.le_of_ble_eq_true rfl, Nat.le_of_ble_eq_true rfl⟩) (ty_preV (wr := [(rd, .inr (6, [.ref bt, .int ln, .ref tg, .int pl1_84, .int ws1_85, .int er1_86, .int ep1_87]))]) (E := []) (ws := ws_83) (ci := 5) hP hK hD hS hA hX hT rfl h_p1) rfl rfl hl.1 rfl (lv_room (Nat.le_of_ble_eq_true rfl)) dX6_readStep_99 ⟨Nat.le_of_ble_eq_true rfl, Nat.le_of_ble_eq_true rfl⟩) hP hD hS hA (fun u H locs hw_89 hP hD hS => ?_)
        obtain ⟨ws_90, rfl⟩ : ∃ z, z = u := ⟨_, rfl⟩
        have hT := hw_89
        have hP : va_P D vwCl ([(rd, .inr (6, [.ref bt, .int ln, .ref tg, .int pl1_84, .int ws1_85, .int er1_86, .int ep1_87]))] ++ ws_90) H := hP
        have hD : va_D A ([(rd, .inr (6, [.ref bt, .int ln, .ref tg, .int pl1_84, .int ws1_85, .int er1_86, .int ep1_87]))] ++ ws_90) := hD
        refine lv_goto (tgt := 174) hx hb dX6_readStep_102 (by decide) ?_
        exact W.vret hx hb hr (fun t ht hW => ⟨⟨(ws_90, pl1_84, ws1_85, er1_86, ep1_87), rfl, hT, by rw [ht]; exact hP, by rw [hAe]; exact hD⟩, hS.F ht⟩) hS.2.2 dX6_readStep_174
    · refine lv_aload_n hx hb dX6_readStep_44 rfl (lv_at hl 0 rfl) ?_
      refine lv_iconst (v := 0) hx hb dX6_readStep_45 (by decide) ?_
      refine lv_sipush (v := 5000) hx hb dX6_readStep_46 (by decide) ?_
      refine ty_ki (wr := []) (wc := ([(rd, .inr (6, [.ref bt, .int ln, .ref tg, .int pl, .int wst, .int er, .int ep]))] ++ ws_15)) (va_runV (As := [.int 0, .int 5000]) (rest := []) ⟨hx, hb, hml, hown, hts⟩ (t_X6_readNumber l D ct S ws_15 rd bt tg nb ln pl wst er ep (0 : Int32) (5000 : Int32) _ hT h_bt h_tg) (cm_V 2 hts kc_X6_readNumber ki_RX6 kl_RX6_74 kv_X6_readNumber kx_X6_readNumber kd_X6_readNumber ⟨Nat.le_of_ble_eq_true rfl, Nat.le_of_ble_eq_true rfl⟩) (ty_preE (wr := []) (wc := ([(rd, .inr (6, [.ref bt, .int ln, .ref tg, .int pl, .int wst, .int er, .int ep]))] ++ ws_15)) (ci := 6) (q0 := 0) hP hK hD hS hA hX rfl rfl) rfl rfl hl.1 rfl (lv_room (Nat.le_of_ble_eq_true rfl)) dX6_readStep_49 ⟨Nat.le_of_ble_eq_true rfl, Nat.le_of_ble_eq_true rfl⟩) hP hD hS hA (fun r_91 u H locs hw_92 hP hD hS => ?_)
      obtain ⟨ws_93, pl1_94, ws1_95, er1_96, ep1_97⟩ := u
      have hT := hw_92
      have hP : va_P D vwCl ([(rd, .inr (6, [.ref bt, .int ln, .ref tg, .int pl1_94, .int ws1_95, .int er1_96, .int ep1_97]))] ++ ws_93) H := hP
      have hD : va_D A ([(rd, .inr (6, [.ref bt, .int ln, .ref tg, .int pl1_94, .int ws1_95, .int er1_96, .int ep1_97]))] ++ ws_93) := hD
      refine lv_istore_n (lv' := [(3, .int r_91), (0, .ref rd), (1, .ref p1), (2, .int p2)]) hx hb dX6_readStep_52 rfl hl (by decide) rfl (fun ls hl => ?_)
      refine lv_aload_n hx hb dX6_readStep_53 rfl (lv_at hl 2 rfl) ?_
      refine lv_iconst (v := 1) hx hb dX6_readStep_54 (by decide) ?_
      refine lv_iload_n hx hb dX6_readStep_55 rfl (lv_at hl 0 rfl) ?_
      refine lv_aload_n hx hb dX6_readStep_56 rfl (lv_at hl 1 rfl) ?_
      refine lv_iconst (v := 1) hx hb dX6_readStep_57 (by decide) ?_
      refine lv_sipush (v := 5000) hx hb dX6_readStep_58 (by decide) ?_
      refine ty_ki (wr := []) (wc := ([(rd, .inr (6, [.ref bt, .int ln, .ref tg, .int pl1_94, .int ws1_95, .int er1_96, .int ep1_97]))] ++ ws_93)) (va_runV (As := [.int 1, .int 5000]) (rest := [.int r_91, .int 1, .ref p1]) ⟨hx, hb, hml, hown, hts⟩ (t_X6_readNumber l D ct S ws_93 rd bt tg nb ln pl1_94 ws1_95 er1_96 ep1_97 (1 : Int32) (5000 : Int32) _ hT h_bt h_tg) (cm_V 2 hts kc_X6_readNumber ki_RX6 kl_RX6_74 kv_X6_readNumber kx_X6_readNumber kd_X6_readNumber ⟨Nat.le_of_ble_eq_true rfl, Nat.le_of_ble_eq_true rfl⟩) (ty_preE (wr := []) (wc := ([(rd, .inr (6, [.ref bt, .int ln, .ref tg, .int pl1_94, .int ws1_95, .int er1_96, .int ep1_97]))] ++ ws_93)) (ci := 6) (q0 := 0) hP hK hD hS hA hX rfl rfl) rfl rfl hl.1 rfl (lv_room (Nat.le_of_ble_eq_true rfl)) dX6_readStep_61 ⟨Nat.le_of_ble_eq_true rfl, Nat.le_of_ble_eq_true rfl⟩) hP hD hS hA (fun r_98 u H locs hw_99 hP hD hS => ?_)
      obtain ⟨ws_100, pl1_101, ws1_102, er1_103, ep1_104⟩ := u
      have hT := hw_99
      have hP : va_P D vwCl ([(rd, .inr (6, [.ref bt, .int ln, .ref tg, .int pl1_101, .int ws1_102, .int er1_103, .int ep1_104]))] ++ ws_100) H := hP
      have hD : va_D A ([(rd, .inr (6, [.ref bt, .int ln, .ref tg, .int pl1_101, .int ws1_102, .int er1_103, .int ep1_104]))] ++ ws_100) := hD
      refine ty_kv (wr := [(rd, .inr (6, [.ref bt, .int ln, .ref tg, .int pl1_101, .int ws1_102, .int er1_103, .int ep1_104]))]) (wc := ([] ++ ws_100)) (va_runVN (As := [.int 1, .int r_91, .int r_98]) (rest := []) ⟨hx, hb, hml, hown, hts⟩ (t_X5_addStepToLast l D ct S ws_100 p1 (1 : Int32) r_91 r_98 _ hT h_p1) (cm_VN 3 hts kc_X5_addStepToLast ki_RX5 kl_RX6_211 kv_X5_addStepToLast kx_X5_addStepToLast kd_X5_addStepToLast ⟨Nat.le_of_ble_eq_true rfl, Nat.le_of_ble_eq_true rfl⟩) (ty_preV (wr := [(rd, .inr (6, [.ref bt, .int ln, .ref tg, .int pl1_101, .int ws1_102, .int er1_103, .int ep1_104]))]) (E := []) (ws := ws_100) (ci := 5) hP hK hD hS hA hX hT rfl h_p1) rfl rfl hl.1 rfl (lv_room (Nat.le_of_ble_eq_true rfl)) dX6_readStep_64 ⟨Nat.le_of_ble_eq_true rfl, Nat.le_of_ble_eq_true rfl⟩) hP hD hS hA (fun u H locs hw_106 hP hD hS => ?_)
      obtain ⟨ws_107, rfl⟩ : ∃ z, z = u := ⟨_, rfl⟩
      have hT := hw_106
      have hP : va_P D vwCl ([(rd, .inr (6, [.ref bt, .int ln, .ref tg, .int pl1_101, .int ws1_102, .int er1_103, .int ep1_104]))] ++ ws_107) H := hP
      have hD : va_D A ([(rd, .inr (6, [.ref bt, .int ln, .ref tg, .int pl1_101, .int ws1_102, .int er1_103, .int ep1_104]))] ++ ws_107) := hD
      refine lv_goto (tgt := 174) hx hb dX6_readStep_67 (by decide) ?_
      exact W.vret hx hb hr (fun t ht hW => ⟨⟨(ws_107, pl1_101, ws1_102, er1_103, ep1_104), rfl, hT, by rw [ht]; exact hP, by rw [hAe]; exact hD⟩, hS.F ht⟩) hS.2.2 dX6_readStep_174
  · refine lv_aload_n hx hb dX6_readStep_9 rfl (lv_at hl 0 rfl) ?_
    refine lv_iconst (v := 1) hx hb dX6_readStep_10 (by decide) ?_
    refine lv_sipush (v := 5000) hx hb dX6_readStep_11 (by decide) ?_
    refine ty_ki (wr := []) (wc := ([(rd, .inr (6, [.ref bt, .int ln, .ref tg, .int pl, .int wst, .int er, .int ep]))] ++ ws_7)) (va_runV (As := [.int 1, .int 5000]) (rest := []) ⟨hx, hb, hml, hown, hts⟩ (t_X6_readNumber l D ct S ws_7 rd bt tg nb ln pl wst er ep (1 : Int32) (5000 : Int32) _ hT h_bt h_tg) (cm_V 2 hts kc_X6_readNumber ki_RX6 kl_RX6_74 kv_X6_readNumber kx_X6_readNumber kd_X6_readNumber ⟨Nat.le_of_ble_eq_true rfl, Nat.le_of_ble_eq_true rfl⟩) (ty_preE (wr := []) (wc := ([(rd, .inr (6, [.ref bt, .int ln, .ref tg, .int pl, .int wst, .int er, .int ep]))] ++ ws_7)) (ci := 6) (q0 := 0) hP hK hD hS hA hX rfl rfl) rfl rfl hl.1 rfl (lv_room (Nat.le_of_ble_eq_true rfl)) dX6_readStep_14 ⟨Nat.le_of_ble_eq_true rfl, Nat.le_of_ble_eq_true rfl⟩) hP hD hS hA (fun r_108 u H locs hw_109 hP hD hS => ?_)
    obtain ⟨ws_110, pl1_111, ws1_112, er1_113, ep1_114⟩ := u
    have hT := hw_109
    have hP : va_P D vwCl ([(rd, .inr (6, [.ref bt, .int ln, .ref tg, .int pl1_111, .int ws1_112, .int er1_113, .int ep1_114]))] ++ ws_110) H := hP
    have hD : va_D A ([(rd, .inr (6, [.ref bt, .int ln, .ref tg, .int pl1_111, .int ws1_112, .int er1_113, .int ep1_114]))] ++ ws_110) := hD
    refine lv_istore_n (lv' := [(3, .int r_108), (0, .ref rd), (1, .ref p1), (2, .int p2)]) hx hb dX6_readStep_17 rfl hl (by decide) rfl (fun ls hl => ?_)
    refine lv_aload_n hx hb dX6_readStep_18 rfl (lv_at hl 2 rfl) ?_
    refine lv_iconst (v := 0) hx hb dX6_readStep_19 (by decide) ?_
    refine lv_iload_n hx hb dX6_readStep_20 rfl (lv_at hl 0 rfl) ?_
    refine lv_aload_n hx hb dX6_readStep_21 rfl (lv_at hl 1 rfl) ?_
    refine lv_iconst (v := 0) hx hb dX6_readStep_22 (by decide) ?_
    refine lv_sipush (v := 5000) hx hb dX6_readStep_23 (by decide) ?_
    refine ty_ki (wr := []) (wc := ([(rd, .inr (6, [.ref bt, .int ln, .ref tg, .int pl1_111, .int ws1_112, .int er1_113, .int ep1_114]))] ++ ws_110)) (va_runV (As := [.int 0, .int 5000]) (rest := [.int r_108, .int 0, .ref p1]) ⟨hx, hb, hml, hown, hts⟩ (t_X6_readNumber l D ct S ws_110 rd bt tg nb ln pl1_111 ws1_112 er1_113 ep1_114 (0 : Int32) (5000 : Int32) _ hT h_bt h_tg) (cm_V 2 hts kc_X6_readNumber ki_RX6 kl_RX6_74 kv_X6_readNumber kx_X6_readNumber kd_X6_readNumber ⟨Nat.le_of_ble_eq_true rfl, Nat.le_of_ble_eq_true rfl⟩) (ty_preE (wr := []) (wc := ([(rd, .inr (6, [.ref bt, .int ln, .ref tg, .int pl1_111, .int ws1_112, .int er1_113, .int ep1_114]))] ++ ws_110)) (ci := 6) (q0 := 0) hP hK hD hS hA hX rfl rfl) rfl rfl hl.1 rfl (lv_room (Nat.le_of_ble_eq_true rfl)) dX6_readStep_26 ⟨Nat.le_of_ble_eq_true rfl, Nat.le_of_ble_eq_true rfl⟩) hP hD hS hA (fun r_115 u H locs hw_116 hP hD hS => ?_)
    obtain ⟨ws_117, pl1_118, ws1_119, er1_120, ep1_121⟩ := u
    have hT := hw_116
    have hP : va_P D vwCl ([(rd, .inr (6, [.ref bt, .int ln, .ref tg, .int pl1_118, .int ws1_119, .int er1_120, .int ep1_121]))] ++ ws_117) H := hP
    have hD : va_D A ([(rd, .inr (6, [.ref bt, .int ln, .ref tg, .int pl1_118, .int ws1_119, .int er1_120, .int ep1_121]))] ++ ws_117) := hD
    refine ty_kv (wr := [(rd, .inr (6, [.ref bt, .int ln, .ref tg, .int pl1_118, .int ws1_119, .int er1_120, .int ep1_121]))]) (wc := ([] ++ ws_117)) (va_runVN (As := [.int 0, .int r_108, .int r_115]) (rest := []) ⟨hx, hb, hml, hown, hts⟩ (t_X5_addStepToLast l D ct S ws_117 p1 (0 : Int32) r_108 r_115 _ hT h_p1) (cm_VN 3 hts kc_X5_addStepToLast ki_RX5 kl_RX6_211 kv_X5_addStepToLast kx_X5_addStepToLast kd_X5_addStepToLast ⟨Nat.le_of_ble_eq_true rfl, Nat.le_of_ble_eq_true rfl⟩) (ty_preV (wr := [(rd, .inr (6, [.ref bt, .int ln, .ref tg, .int pl1_118, .int ws1_119, .int er1_120, .int ep1_121]))]) (E := []) (ws := ws_117) (ci := 5) hP hK hD hS hA hX hT rfl h_p1) rfl rfl hl.1 rfl (lv_room (Nat.le_of_ble_eq_true rfl)) dX6_readStep_29 ⟨Nat.le_of_ble_eq_true rfl, Nat.le_of_ble_eq_true rfl⟩) hP hD hS hA (fun u H locs hw_123 hP hD hS => ?_)
    obtain ⟨ws_124, rfl⟩ : ∃ z, z = u := ⟨_, rfl⟩
    have hT := hw_123
    have hP : va_P D vwCl ([(rd, .inr (6, [.ref bt, .int ln, .ref tg, .int pl1_118, .int ws1_119, .int er1_120, .int ep1_121]))] ++ ws_124) H := hP
    have hD : va_D A ([(rd, .inr (6, [.ref bt, .int ln, .ref tg, .int pl1_118, .int ws1_119, .int er1_120, .int ep1_121]))] ++ ws_124) := hD
    refine lv_goto (tgt := 174) hx hb dX6_readStep_32 (by decide) ?_
    exact W.vret hx hb hr (fun t ht hW => ⟨⟨(ws_124, pl1_118, ws1_119, er1_120, ep1_121), rfl, hT, by rw [ht]; exact hP, by rw [hAe]; exact hD⟩, hS.F ht⟩) hS.2.2 dX6_readStep_174
theorem dX6_readCurve_0 : decode cX6_readCurve 0 = .ok (.aload_n 0, 1) := by decide +kernel
theorem dX6_readCurve_1 : decode cX6_readCurve 1 = .ok (.getfield 19, 3) := by decide +kernel
theorem dX6_readCurve_4 : decode cX6_readCurve 4 = .ok (.getfield 133, 3) := by decide +kernel
theorem dX6_readCurve_7 : decode cX6_readCurve 7 = .ok (.astore_n 1, 1) := by decide +kernel
theorem dX6_readCurve_8 : decode cX6_readCurve 8 = .ok (.aload_n 1, 1) := by decide +kernel
theorem dX6_readCurve_9 : decode cX6_readCurve 9 = .ok (.getfield 137, 3) := by decide +kernel
theorem dX6_readCurve_12 : decode cX6_readCurve 12 = .ok (.iconst 4, 1) := by decide +kernel
theorem dX6_readCurve_13 : decode cX6_readCurve 13 = .ok (.if_icmp .lt 13, 3) := by decide +kernel
theorem dX6_readCurve_16 : decode cX6_readCurve 16 = .ok (.aload_n 0, 1) := by decide +kernel
theorem dX6_readCurve_17 : decode cX6_readCurve 17 = .ok (.iconst 4, 1) := by decide +kernel
theorem dX6_readCurve_18 : decode cX6_readCurve 18 = .ok (.aload_n 0, 1) := by decide +kernel
theorem dX6_readCurve_19 : decode cX6_readCurve 19 = .ok (.getfield 130, 3) := by decide +kernel
theorem dX6_readCurve_22 : decode cX6_readCurve 22 = .ok (.invokevirtual 68, 3) := by decide +kernel
theorem dX6_readCurve_25 : decode cX6_readCurve 25 = .ok (.return_, 1) := by decide +kernel
theorem dX6_readCurve_26 : decode cX6_readCurve 26 = .ok (.aload_n 0, 1) := by decide +kernel
theorem dX6_readCurve_27 : decode cX6_readCurve 27 = .ok (.invokevirtual 23, 3) := by decide +kernel
theorem dX6_readCurve_30 : decode cX6_readCurve 30 = .ok (.aload_n 0, 1) := by decide +kernel
theorem dX6_readCurve_31 : decode cX6_readCurve 31 = .ok (.getfield 9, 3) := by decide +kernel
theorem dX6_readCurve_34 : decode cX6_readCurve 34 = .ok (.aload_n 0, 1) := by decide +kernel
theorem dX6_readCurve_35 : decode cX6_readCurve 35 = .ok (.getfield 130, 3) := by decide +kernel
theorem dX6_readCurve_38 : decode cX6_readCurve 38 = .ok (.aload_n 0, 1) := by decide +kernel
theorem dX6_readCurve_39 : decode cX6_readCurve 39 = .ok (.getfield 65, 3) := by decide +kernel
theorem dX6_readCurve_42 : decode cX6_readCurve 42 = .ok (.invokestatic 142, 3) := by decide +kernel
theorem dX6_readCurve_45 : decode cX6_readCurve 45 = .ok (.lstore_n 2, 1) := by decide +kernel
theorem dX6_readCurve_46 : decode cX6_readCurve 46 = .ok (.aload_n 0, 1) := by decide +kernel
theorem dX6_readCurve_47 : decode cX6_readCurve 47 = .ok (.getfield 65, 3) := by decide +kernel
theorem dX6_readCurve_50 : decode cX6_readCurve 50 = .ok (.aload_n 0, 1) := by decide +kernel
theorem dX6_readCurve_51 : decode cX6_readCurve 51 = .ok (.getfield 130, 3) := by decide +kernel
theorem dX6_readCurve_54 : decode cX6_readCurve 54 = .ok (.isub, 1) := by decide +kernel
theorem dX6_readCurve_55 : decode cX6_readCurve 55 = .ok (.bipush 6, 2) := by decide +kernel
theorem dX6_readCurve_57 : decode cX6_readCurve 57 = .ok (.if_icmp .gt 12, 3) := by decide +kernel
theorem dX6_readCurve_60 : decode cX6_readCurve 60 = .ok (.aload_n 1, 1) := by decide +kernel
theorem dX6_readCurve_61 : decode cX6_readCurve 61 = .ok (.lload_n 2, 1) := by decide +kernel
theorem dX6_readCurve_62 : decode cX6_readCurve 62 = .ok (.invokevirtual 146, 3) := by decide +kernel
theorem dX6_readCurve_65 : decode cX6_readCurve 65 = .ok (.iconst (-1), 1) := by decide +kernel
theorem dX6_readCurve_66 : decode cX6_readCurve 66 = .ok (.if_icmp .eq 12, 3) := by decide +kernel
theorem dX6_readCurve_69 : decode cX6_readCurve 69 = .ok (.aload_n 0, 1) := by decide +kernel
theorem dX6_readCurve_70 : decode cX6_readCurve 70 = .ok (.iconst 3, 1) := by decide +kernel
theorem dX6_readCurve_71 : decode cX6_readCurve 71 = .ok (.aload_n 0, 1) := by decide +kernel
theorem dX6_readCurve_72 : decode cX6_readCurve 72 = .ok (.getfield 130, 3) := by decide +kernel
theorem dX6_readCurve_75 : decode cX6_readCurve 75 = .ok (.invokevirtual 68, 3) := by decide +kernel
theorem dX6_readCurve_78 : decode cX6_readCurve 78 = .ok (.aload_n 1, 1) := by decide +kernel
theorem dX6_readCurve_79 : decode cX6_readCurve 79 = .ok (.lload_n 2, 1) := by decide +kernel
theorem dX6_readCurve_80 : decode cX6_readCurve 80 = .ok (.invokevirtual 150, 3) := by decide +kernel
theorem dX6_readCurve_83 : decode cX6_readCurve 83 = .ok (.iconst 0, 1) := by decide +kernel
theorem dX6_readCurve_84 : decode cX6_readCurve 84 = .ok (.istore 4, 2) := by decide +kernel
theorem dX6_readCurve_86 : decode cX6_readCurve 86 = .ok (.iconst 0, 1) := by decide +kernel
theorem dX6_readCurve_87 : decode cX6_readCurve 87 = .ok (.istore 5, 2) := by decide +kernel
theorem dX6_readCurve_89 : decode cX6_readCurve 89 = .ok (.iload 5, 2) := by decide +kernel
theorem dX6_readCurve_91 : decode cX6_readCurve 91 = .ok (.bipush 11, 2) := by decide +kernel
theorem dX6_readCurve_93 : decode cX6_readCurve 93 = .ok (.if_icmp .ge 54, 3) := by decide +kernel
theorem dX6_readCurve_96 : decode cX6_readCurve 96 = .ok (.aload_n 0, 1) := by decide +kernel
theorem dX6_readCurve_97 : decode cX6_readCurve 97 = .ok (.getfield 58, 3) := by decide +kernel
theorem dX6_readCurve_100 : decode cX6_readCurve 100 = .ok (.ifCond .ne 47, 3) := by decide +kernel
theorem dX6_readCurve_103 : decode cX6_readCurve 103 = .ok (.aload_n 0, 1) := by decide +kernel
theorem dX6_readCurve_104 : decode cX6_readCurve 104 = .ok (.invokevirtual 55, 3) := by decide +kernel
theorem dX6_readCurve_107 : decode cX6_readCurve 107 = .ok (.iload 5, 2) := by decide +kernel
theorem dX6_readCurve_109 : decode cX6_readCurve 109 = .ok (.iconst 2, 1) := by decide +kernel
theorem dX6_readCurve_110 : decode cX6_readCurve 110 = .ok (.if_icmp .lt 14, 3) := by decide +kernel
theorem dX6_readCurve_113 : decode cX6_readCurve 113 = .ok (.aload_n 0, 1) := by decide +kernel
theorem dX6_readCurve_114 : decode cX6_readCurve 114 = .ok (.invokevirtual 61, 3) := by decide +kernel
theorem dX6_readCurve_117 : decode cX6_readCurve 117 = .ok (.invokestatic 154, 3) := by decide +kernel
theorem dX6_readCurve_120 : decode cX6_readCurve 120 = .ok (.ifCond .ne 4, 3) := by decide +kernel
theorem dX6_readCurve_123 : decode cX6_readCurve 123 = .ok (.return_, 1) := by decide +kernel
theorem dX6_readCurve_124 : decode cX6_readCurve 124 = .ok (.aload_n 0, 1) := by decide +kernel
theorem dX6_readCurve_125 : decode cX6_readCurve 125 = .ok (.iload 4, 2) := by decide +kernel
theorem dX6_readCurve_127 : decode cX6_readCurve 127 = .ok (.sipush 5000, 3) := by decide +kernel
theorem dX6_readCurve_130 : decode cX6_readCurve 130 = .ok (.invokevirtual 74, 3) := by decide +kernel
theorem dX6_readCurve_133 : decode cX6_readCurve 133 = .ok (.istore 4, 2) := by decide +kernel
theorem dX6_readCurve_135 : decode cX6_readCurve 135 = .ok (.aload_n 1, 1) := by decide +kernel
theorem dX6_readCurve_136 : decode cX6_readCurve 136 = .ok (.iload 4, 2) := by decide +kernel
theorem dX6_readCurve_138 : decode cX6_readCurve 138 = .ok (.invokevirtual 158, 3) := by decide +kernel
theorem dX6_readCurve_141 : decode cX6_readCurve 141 = .ok (.iinc 5 1, 3) := by decide +kernel
theorem dX6_readCurve_144 : decode cX6_readCurve 144 = .ok (.goto (-55), 3) := by decide +kernel
theorem dX6_readCurve_147 : decode cX6_readCurve 147 = .ok (.return_, 1) := by decide +kernel
set_option maxRecDepth 100000 in
set_option maxHeartbeats 4000000 in
theorem t_X6_readCurve (l : Launch) (D : va_G) (ct : Nat → ClassId) (S : ty_S) (ws : va_W) (rd : Nat) (bt : Nat) (tg : Nat) (nb : Nat) (ln : Int32) (pl : Int32) (wst : Int32) (er : Int32) (ep : Int32) (sz : Nat) (hT : ty_W ct S ws) (h_bt : S bt = some (.inr (0, nb))) (h_tg : S tg = some (.inl 9)) : Met l yX6_readCurve (ws_ yX6_readCurve cX6_readCurve 6 none) ({ frames := 3, cells := 0, slots := 0, locals := 64 } : Room) (va_Pc [.ref rd] (cmP D ct sz ([(rd, .inr (6, [.ref bt, .int ln, .ref tg, .int pl, .int wst, .int er, .int ep]))] ++ ws))) (va_Qv (fun (u : va_W × Int32 × Int32 × Int32 × Int32) => match u with | (u9, pl1, ws1, er1, ep1) => ty_W ct S u9) (cmB D ([(rd, .inr (6, [.ref bt, .int ln, .ref tg, .int pl, .int wst, .int er, .int ep]))] ++ ws) sz (fun (u : va_W × Int32 × Int32 × Int32 × Int32) => match u with | (u9, pl1, ws1, er1, ep1) => ([(rd, .inr (6, [.ref bt, .int ln, .ref tg, .int pl1, .int ws1, .int er1, .int ep1]))] ++ u9))) (va_A ([(rd, .inr (6, [.ref bt, .int ln, .ref tg, .int pl, .int wst, .int er, .int ep]))] ++ ws) sz)) 0 0 (va_A ([(rd, .inr (6, [.ref bt, .int ln, .ref tg, .int pl, .int wst, .int er, .int ep]))] ++ ws) sz) := by
  refine Met.ofW (cc := cX6_readCurve) (maxL := 6) (ret := none) (by decide) rfl ?_
  intro p e s m args below meth c s₁ B hml hv
  obtain ⟨rfl, hsz, hP, hK, hD0, hX⟩ := hv
  have hx := B.exec
  have hb := B.bytes
  have hr := B.returns
  have hts := ws_all (atoms_spec (ws := ws_ yX6_readCurve cX6_readCurve 6 none) B.pre)
  have hown : s.vm.findClass RX6 = some m.cls := findClass_of_methodNamed B.named
  have hlocks := B.notSynchronized
  subst hsz
  have hD := hD0.self (sz := s.heap.size)
  generalize hAe : va_A ([(rd, .inr (6, [.ref bt, .int ln, .ref tg, .int pl, .int wst, .int er, .int ep]))] ++ ws) s.heap.size = A at hD hX ⊢
  have hA : ∀ q : Nat, s.heap.size ≤ q → A q := fun q h => by rw [← hAe]; exact Or.inr h
  have hS : va_S A s.heap s.heap [] := va_S.rf
  have hl := lv_entry ([.ref rd]) (n := 6) (Nat.le_of_ble_eq_true rfl)
  rw [lg_entry_eq]
  generalize (lg_sl ([.ref rd]) ++ List.replicate (6 - (lg_sl ([.ref rd])).length) Slot.unset).toArray = ls at hl ⊢
  have hl : lv_has ls 6 [(0, .ref rd)] := hl
  refine lv_aload_n hx hb dX6_readCurve_0 rfl (lv_at hl 0 rfl) ?_
  refine va_get (v := .ref tg) (D := D) (ci := 6) (C := RX6) (T := TX6) (N := 7) hx hb hts in_X6 hown hK hP 0 rfl rfl 2 (by decide) (hts _ kl_RX6_19) (fun _ h9 => h9) rfl dX6_readCurve_1 ?_
  refine ty_getN (E := [(rd, .inr (6, [.ref bt, .int ln, .ref tg, .int pl, .int wst, .int er, .int ep]))]) (ws := ws) (D := D) (ci := 9) (C := RX9) (T := TX9) (N := 8) hx hb hts in_X9 hown hK hP hT h_tg rfl 2 (by decide) (hts _ kl_RX6_133) (fun _ h9 => h9) rfl dX6_readCurve_4 (fun _ hv_1 hf_2 => ?_)
  obtain ⟨a_3, rfl, ha_4⟩ := hv_1
  refine lv_astore_n (lv' := [(1, .ref a_3), (0, .ref rd)]) hx hb dX6_readCurve_7 rfl hl (by decide) rfl (fun ls hl => ?_)
  refine lv_aload_n hx hb dX6_readCurve_8 rfl (lv_at hl 0 rfl) ?_
  refine ty_getN (E := [(rd, .inr (6, [.ref bt, .int ln, .ref tg, .int pl, .int wst, .int er, .int ep]))]) (ws := ws) (D := D) (ci := 2) (C := RX2) (T := TX2) (N := 4) hx hb hts in_X2 hown hK hP hT ha_4 rfl 0 (by decide) (hts _ kl_RX6_137) (fun _ h9 => h9) rfl dX6_readCurve_9 (fun _ hv_5 hf_6 => ?_)
  obtain ⟨x_7, rfl⟩ := hv_5
  refine lv_iconst (v := 4) hx hb dX6_readCurve_12 (by decide) ?_
  refine lv_icmp_lt (tgt := 26) hx hb dX6_readCurve_13 (by decide) (fun hc_8 => ?_) (fun hc_8 => ?_)
  · refine lv_aload_n hx hb dX6_readCurve_26 rfl (lv_at hl 1 rfl) ?_
    refine ty_kv (wr := []) (wc := ([(rd, .inr (6, [.ref bt, .int ln, .ref tg, .int pl, .int wst, .int er, .int ep]))] ++ ws)) (va_runV (As := []) (rest := []) ⟨hx, hb, hml, hown, hts⟩ (t_X6_readWord l D ct S ws rd bt tg nb ln pl wst er ep _ hT h_bt h_tg) (cm_V 0 hts kc_X6_readWord ki_RX6 kl_RX6_23 kv_X6_readWord kx_X6_readWord kd_X6_readWord ⟨Nat.le_of_ble_eq_true rfl, Nat.le_of_ble_eq_true rfl⟩) (ty_preE (wr := []) (wc := ([(rd, .inr (6, [.ref bt, .int ln, .ref tg, .int pl, .int wst, .int er, .int ep]))] ++ ws)) (ci := 6) (q0 := 0) hP hK hD hS hA hX rfl rfl) rfl rfl hl.1 rfl (lv_room (Nat.le_of_ble_eq_true rfl)) dX6_readCurve_27 ⟨Nat.le_of_ble_eq_true rfl, Nat.le_of_ble_eq_true rfl⟩) hP hD hS hA (fun u H locs hw_10 hP hD hS => ?_)
    obtain ⟨ws_11, pl1_12, ws1_13, er1_14, ep1_15⟩ := u
    have hT := hw_10
    have hP : va_P D vwCl ([(rd, .inr (6, [.ref bt, .int ln, .ref tg, .int pl1_12, .int ws1_13, .int er1_14, .int ep1_15]))] ++ ws_11) H := hP
    have hD : va_D A ([(rd, .inr (6, [.ref bt, .int ln, .ref tg, .int pl1_12, .int ws1_13, .int er1_14, .int ep1_15]))] ++ ws_11) := hD
    refine lv_aload_n hx hb dX6_readCurve_30 rfl (lv_at hl 1 rfl) ?_
    refine va_get (v := .ref bt) (D := D) (ci := 6) (C := RX6) (T := TX6) (N := 7) hx hb hts in_X6 hown hK hP 0 rfl rfl 0 (by decide) (hts _ kl_RX6_9) (fun _ h9 => h9) rfl dX6_readCurve_31 ?_
    refine lv_aload_n hx hb dX6_readCurve_34 rfl (lv_at hl 1 rfl) ?_
    refine va_get (v := .int ws1_13) (D := D) (ci := 6) (C := RX6) (T := TX6) (N := 7) hx hb hts in_X6 hown hK hP 0 rfl rfl 4 (by decide) (hts _ kl_RX6_130) (fun _ h9 => h9) rfl dX6_readCurve_35 ?_
    refine lv_aload_n hx hb dX6_readCurve_38 rfl (lv_at hl 1 rfl) ?_
    refine va_get (v := .int pl1_12) (D := D) (ci := 6) (C := RX6) (T := TX6) (N := 7) hx hb hts in_X6 hown hK hP 0 rfl rfl 3 (by decide) (hts _ kl_RX6_65) (fun _ h9 => h9) rfl dX6_readCurve_39 ?_
    refine ty_kl (wr := [(rd, .inr (6, [.ref bt, .int ln, .ref tg, .int pl1_12, .int ws1_13, .int er1_14, .int ep1_15]))]) (wc := ([] ++ ws_11)) (va_runSN (As := [.ref bt, .int ws1_13, .int pl1_12]) (rest := []) ⟨hx, hb, hml, hown, hts⟩ (t_X10_nameCode l D ct S ws_11 bt nb ws1_13 pl1_12 _ hT h_bt) (cm_SN 3 hts kc_X10_nameCode ki_RX10 kl_RX6_142 ks_X10_nameCode kd_X10_nameCode ⟨Nat.le_of_ble_eq_true rfl, Nat.le_of_ble_eq_true rfl⟩) (ty_preS (wr := [(rd, .inr (6, [.ref bt, .int ln, .ref tg, .int pl1_12, .int ws1_13, .int er1_14, .int ep1_15]))]) (wc := ([] ++ ws_11)) hP hK hD hS hA hX) rfl rfl hl.1 rfl (lv_room (Nat.le_of_ble_eq_true rfl)) dX6_readCurve_42 ⟨Nat.le_of_ble_eq_true rfl, Nat.le_of_ble_eq_true rfl⟩) hP hD hS hA (fun r_16 u H locs hw_17 hP hD hS => ?_)
    obtain ⟨ws_18, rfl⟩ : ∃ z, z = u := ⟨_, rfl⟩
    have hT := hw_17
    have hP : va_P D vwCl ([(rd, .inr (6, [.ref bt, .int ln, .ref tg, .int pl1_12, .int ws1_13, .int er1_14, .int ep1_15]))] ++ ws_18) H := hP
    have hD : va_D A ([(rd, .inr (6, [.ref bt, .int ln, .ref tg, .int pl1_12, .int ws1_13, .int er1_14, .int ep1_15]))] ++ ws_18) := hD
    refine lv_lstore_n (lv' := [(2, .long r_16), (1, .ref a_3), (0, .ref rd)]) hx hb dX6_readCurve_45 rfl hl (by decide) rfl (fun ls hl => ?_)
    refine lv_aload_n hx hb dX6_readCurve_46 rfl (lv_at hl 2 rfl) ?_
    refine va_get (v := .int pl1_12) (D := D) (ci := 6) (C := RX6) (T := TX6) (N := 7) hx hb hts in_X6 hown hK hP 0 rfl rfl 3 (by decide) (hts _ kl_RX6_65) (fun _ h9 => h9) rfl dX6_readCurve_47 ?_
    refine lv_aload_n hx hb dX6_readCurve_50 rfl (lv_at hl 2 rfl) ?_
    refine va_get (v := .int ws1_13) (D := D) (ci := 6) (C := RX6) (T := TX6) (N := 7) hx hb hts in_X6 hown hK hP 0 rfl rfl 4 (by decide) (hts _ kl_RX6_130) (fun _ h9 => h9) rfl dX6_readCurve_51 ?_
    refine lv_isub hx hb dX6_readCurve_54 ?_
    refine lv_topi (fun x_19 _ => ?_)
    refine lv_bipush (v := 6) hx hb dX6_readCurve_55 (by decide) ?_
    refine lv_icmp_gt (tgt := 69) hx hb dX6_readCurve_57 (by decide) (fun hc_20 => ?_) (fun hc_20 => ?_)
    · refine lv_aload_n hx hb dX6_readCurve_69 rfl (lv_at hl 2 rfl) ?_
      refine lv_iconst (v := 3) hx hb dX6_readCurve_70 (by decide) ?_
      refine lv_aload_n hx hb dX6_readCurve_71 rfl (lv_at hl 2 rfl) ?_
      refine va_get (v := .int ws1_13) (D := D) (ci := 6) (C := RX6) (T := TX6) (N := 7) hx hb hts in_X6 hown hK hP 0 rfl rfl 4 (by decide) (hts _ kl_RX6_130) (fun _ h9 => h9) rfl dX6_readCurve_72 ?_
      refine ty_kv (wr := []) (wc := ([(rd, .inr (6, [.ref bt, .int ln, .ref tg, .int pl1_12, .int ws1_13, .int er1_14, .int ep1_15]))] ++ ws_18)) (va_runV (As := [.int 3, .int ws1_13]) (rest := []) ⟨hx, hb, hml, hown, hts⟩ (t_X6_fail l D ct S ws_18 rd bt tg nb ln pl1_12 ws1_13 er1_14 ep1_15 (3 : Int32) ws1_13 _ hT h_bt h_tg) (cm_V 2 hts kc_X6_fail ki_RX6 kl_RX6_68 kv_X6_fail kx_X6_fail kd_X6_fail ⟨Nat.le_of_ble_eq_true rfl, Nat.le_of_ble_eq_true rfl⟩) (ty_preE (wr := []) (wc := ([(rd, .inr (6, [.ref bt, .int ln, .ref tg, .int pl1_12, .int ws1_13, .int er1_14, .int ep1_15]))] ++ ws_18)) (ci := 6) (q0 := 0) hP hK hD hS hA hX rfl rfl) rfl rfl hl.1 rfl (lv_room (Nat.le_of_ble_eq_true rfl)) dX6_readCurve_75 ⟨Nat.le_of_ble_eq_true rfl, Nat.le_of_ble_eq_true rfl⟩) hP hD hS hA (fun u H locs hw_22 hP hD hS => ?_)
      obtain ⟨ws_23, er1_24, ep1_25⟩ := u
      have hT := hw_22
      have hP : va_P D vwCl ([(rd, .inr (6, [.ref bt, .int ln, .ref tg, .int pl1_12, .int ws1_13, .int er1_24, .int ep1_25]))] ++ ws_23) H := hP
      have hD : va_D A ([(rd, .inr (6, [.ref bt, .int ln, .ref tg, .int pl1_12, .int ws1_13, .int er1_24, .int ep1_25]))] ++ ws_23) := hD
      refine lv_aload_n hx hb dX6_readCurve_78 rfl (lv_at hl 1 rfl) ?_
      refine lv_lload_n hx hb dX6_readCurve_79 rfl (lv_at hl 0 rfl) ?_
      refine ty_kv (wr := [(rd, .inr (6, [.ref bt, .int ln, .ref tg, .int pl1_12, .int ws1_13, .int er1_24, .int ep1_25]))]) (wc := ([] ++ ws_23)) (va_runVN (As := [.long r_16]) (rest := []) ⟨hx, hb, hml, hown, hts⟩ (t_X2_add l D ct S ws_23 a_3 r_16 _ hT ha_4) (cm_VN 1 hts kc_X2_add ki_RX2 kl_RX6_150 kv_X2_add kx_X2_add kd_X2_add ⟨Nat.le_of_ble_eq_true rfl, Nat.le_of_ble_eq_true rfl⟩) (ty_preV (wr := [(rd, .inr (6, [.ref bt, .int ln, .ref tg, .int pl1_12, .int ws1_13, .int er1_24, .int ep1_25]))]) (E := []) (ws := ws_23) (ci := 2) hP hK hD hS hA hX hT rfl ha_4) rfl rfl hl.1 rfl (lv_room (Nat.le_of_ble_eq_true rfl)) dX6_readCurve_80 ⟨Nat.le_of_ble_eq_true rfl, Nat.le_of_ble_eq_true rfl⟩) hP hD hS hA (fun u H locs hw_27 hP hD hS => ?_)
      obtain ⟨ws_28, rfl⟩ : ∃ z, z = u := ⟨_, rfl⟩
      have hT := hw_27
      have hP : va_P D vwCl ([(rd, .inr (6, [.ref bt, .int ln, .ref tg, .int pl1_12, .int ws1_13, .int er1_24, .int ep1_25]))] ++ ws_28) H := hP
      have hD : va_D A ([(rd, .inr (6, [.ref bt, .int ln, .ref tg, .int pl1_12, .int ws1_13, .int er1_24, .int ep1_25]))] ++ ws_28) := hD
      refine lv_iconst (v := 0) hx hb dX6_readCurve_83 (by decide) ?_
      refine lv_istore (lv' := [(4, .int 0), (2, .long r_16), (1, .ref a_3), (0, .ref rd)]) hx hb dX6_readCurve_84 hl (by decide) rfl (fun ls hl => ?_)
      refine lv_iconst (v := 0) hx hb dX6_readCurve_86 (by decide) ?_
      refine lv_istore (lv' := [(5, .int 0), (4, .int 0), (2, .long r_16), (1, .ref a_3), (0, .ref rd)]) hx hb dX6_readCurve_87 hl (by decide) rfl (fun ls hl => ?_)
      refine ty_loop (I := fun μ H locs ls => ∃ (ws : va_W) (y_29 : Int32) (y_30 : Int32) (y_31 : Int32) (y_32 : Int32) (y_33 : Int32) (y_34 : Int32), μ = (2147483648 - y_29.toInt).toNat ∧ ty_W ct S ws ∧ va_P D vwCl ([(rd, .inr (6, [.ref bt, .int ln, .ref tg, .int y_31, .int y_32, .int y_33, .int y_34]))] ++ ws) H ∧ va_D A ([(rd, .inr (6, [.ref bt, .int ln, .ref tg, .int y_31, .int y_32, .int y_33, .int y_34]))] ++ ws) ∧ va_S A s.heap H locs ∧ lv_has ls 6 [(5, .int y_29), (4, .int y_30), (2, .long r_16), (1, .ref a_3), (0, .ref rd)]) ⟨_, ws_28, (0 : Int32), (0 : Int32), pl1_12, ws1_13, er1_24, ep1_25, rfl, hT, hP, hD, hS, (lv_sub hl [0, 1, 2, 3, 4] rfl)⟩ (fun μ H locs ls hI ih_89 => ?_)
      obtain ⟨ws, y_29, y_30, y_31, y_32, y_33, y_34, rfl, hT, hP, hD, hS, hl⟩ := hI
      refine lv_iload hx hb dX6_readCurve_89 (lv_at hl 0 rfl) ?_
      refine lv_bipush (v := 11) hx hb dX6_readCurve_91 (by decide) ?_
      refine lv_icmp_ge (tgt := 147) hx hb dX6_readCurve_93 (by decide) (fun hc_35 => ?_) (fun hc_35 => ?_)
      · exact W.vret hx hb hr (fun t ht hW => ⟨⟨(ws, y_31, y_32, y_33, y_34), rfl, hT, by rw [ht]; exact hP, by rw [hAe]; exact hD⟩, hS.F ht⟩) hS.2.2 dX6_readCurve_147
      · refine lv_aload_n hx hb dX6_readCurve_96 rfl (lv_at hl 4 rfl) ?_
        refine va_get (v := .int y_33) (D := D) (ci := 6) (C := RX6) (T := TX6) (N := 7) hx hb hts in_X6 hown hK hP 0 rfl rfl 5 (by decide) (hts _ kl_RX6_58) (fun _ h9 => h9) rfl dX6_readCurve_97 ?_
        refine lv_if_ne (tgt := 147) hx hb dX6_readCurve_100 (by decide) (fun hc_36 => ?_) (fun hc_36 => ?_)
        · exact W.vret hx hb hr (fun t ht hW => ⟨⟨(ws, y_31, y_32, y_33, y_34), rfl, hT, by rw [ht]; exact hP, by rw [hAe]; exact hD⟩, hS.F ht⟩) hS.2.2 dX6_readCurve_147
        · refine lv_aload_n hx hb dX6_readCurve_103 rfl (lv_at hl 4 rfl) ?_
          refine ty_kv (wr := []) (wc := ([(rd, .inr (6, [.ref bt, .int ln, .ref tg, .int y_31, .int y_32, .int y_33, .int y_34]))] ++ ws)) (va_runV (As := []) (rest := []) ⟨hx, hb, hml, hown, hts⟩ (t_X6_skipSpaces l D ct S ws rd bt tg nb ln y_31 y_32 y_33 y_34 _ hT h_bt h_tg) (cm_V 0 hts kc_X6_skipSpaces ki_RX6 kl_RX6_55 kv_X6_skipSpaces kx_X6_skipSpaces kd_X6_skipSpaces ⟨Nat.le_of_ble_eq_true rfl, Nat.le_of_ble_eq_true rfl⟩) (ty_preE (wr := []) (wc := ([(rd, .inr (6, [.ref bt, .int ln, .ref tg, .int y_31, .int y_32, .int y_33, .int y_34]))] ++ ws)) (ci := 6) (q0 := 0) hP hK hD hS hA hX rfl rfl) rfl rfl hl.1 rfl (lv_room (Nat.le_of_ble_eq_true rfl)) dX6_readCurve_104 ⟨Nat.le_of_ble_eq_true rfl, Nat.le_of_ble_eq_true rfl⟩) hP hD hS hA (fun u H locs hw_38 hP hD hS => ?_)
          obtain ⟨ws_39, pl1_40⟩ := u
          have hT := hw_38
          have hP : va_P D vwCl ([(rd, .inr (6, [.ref bt, .int ln, .ref tg, .int pl1_40, .int y_32, .int y_33, .int y_34]))] ++ ws_39) H := hP
          have hD : va_D A ([(rd, .inr (6, [.ref bt, .int ln, .ref tg, .int pl1_40, .int y_32, .int y_33, .int y_34]))] ++ ws_39) := hD
          refine lv_iload hx hb dX6_readCurve_107 (lv_at hl 0 rfl) ?_
          refine lv_iconst (v := 2) hx hb dX6_readCurve_109 (by decide) ?_
          refine lv_icmp_lt (tgt := 124) hx hb dX6_readCurve_110 (by decide) (fun hc_41 => ?_) (fun hc_41 => ?_)
          · refine lv_aload_n hx hb dX6_readCurve_124 rfl (lv_at hl 4 rfl) ?_
            refine lv_iload hx hb dX6_readCurve_125 (lv_at hl 1 rfl) ?_
            refine lv_sipush (v := 5000) hx hb dX6_readCurve_127 (by decide) ?_
            refine ty_ki (wr := []) (wc := ([(rd, .inr (6, [.ref bt, .int ln, .ref tg, .int pl1_40, .int y_32, .int y_33, .int y_34]))] ++ ws_39)) (va_runV (As := [.int y_30, .int 5000]) (rest := []) ⟨hx, hb, hml, hown, hts⟩ (t_X6_readNumber l D ct S ws_39 rd bt tg nb ln pl1_40 y_32 y_33 y_34 y_30 (5000 : Int32) _ hT h_bt h_tg) (cm_V 2 hts kc_X6_readNumber ki_RX6 kl_RX6_74 kv_X6_readNumber kx_X6_readNumber kd_X6_readNumber ⟨Nat.le_of_ble_eq_true rfl, Nat.le_of_ble_eq_true rfl⟩) (ty_preE (wr := []) (wc := ([(rd, .inr (6, [.ref bt, .int ln, .ref tg, .int pl1_40, .int y_32, .int y_33, .int y_34]))] ++ ws_39)) (ci := 6) (q0 := 0) hP hK hD hS hA hX rfl rfl) rfl rfl hl.1 rfl (lv_room (Nat.le_of_ble_eq_true rfl)) dX6_readCurve_130 ⟨Nat.le_of_ble_eq_true rfl, Nat.le_of_ble_eq_true rfl⟩) hP hD hS hA (fun r_42 u H locs hw_43 hP hD hS => ?_)
            obtain ⟨ws_44, pl1_45, ws1_46, er1_47, ep1_48⟩ := u
            have hT := hw_43
            have hP : va_P D vwCl ([(rd, .inr (6, [.ref bt, .int ln, .ref tg, .int pl1_45, .int ws1_46, .int er1_47, .int ep1_48]))] ++ ws_44) H := hP
            have hD : va_D A ([(rd, .inr (6, [.ref bt, .int ln, .ref tg, .int pl1_45, .int ws1_46, .int er1_47, .int ep1_48]))] ++ ws_44) := hD
            refine lv_istore (lv' := [(4, .int r_42), (5, .int y_29), (2, .long r_16), (1, .ref a_3), (0, .ref rd)]) hx hb dX6_readCurve_133 hl (by decide) rfl (fun ls hl => ?_)
            refine lv_aload_n hx hb dX6_readCurve_135 rfl (lv_at hl 3 rfl) ?_
            refine lv_iload hx hb dX6_readCurve_136 (lv_at hl 0 rfl) ?_
            refine ty_kv (wr := [(rd, .inr (6, [.ref bt, .int ln, .ref tg, .int pl1_45, .int ws1_46, .int er1_47, .int ep1_48]))]) (wc := ([] ++ ws_44)) (va_runVN (As := [.int r_42]) (rest := []) ⟨hx, hb, hml, hown, hts⟩ (t_X2_addVoltageToLast l D ct S ws_44 a_3 r_42 _ hT ha_4) (cm_VN 1 hts kc_X2_addVoltageToLast ki_RX2 kl_RX6_158 kv_X2_addVoltageToLast kx_X2_addVoltageToLast kd_X2_addVoltageToLast ⟨Nat.le_of_ble_eq_true rfl, Nat.le_of_ble_eq_true rfl⟩) (ty_preV (wr := [(rd, .inr (6, [.ref bt, .int ln, .ref tg, .int pl1_45, .int ws1_46, .int er1_47, .int ep1_48]))]) (E := []) (ws := ws_44) (ci := 2) hP hK hD hS hA hX hT rfl ha_4) rfl rfl hl.1 rfl (lv_room (Nat.le_of_ble_eq_true rfl)) dX6_readCurve_138 ⟨Nat.le_of_ble_eq_true rfl, Nat.le_of_ble_eq_true rfl⟩) hP hD hS hA (fun u H locs hw_50 hP hD hS => ?_)
            obtain ⟨ws_51, rfl⟩ : ∃ z, z = u := ⟨_, rfl⟩
            have hT := hw_50
            have hP : va_P D vwCl ([(rd, .inr (6, [.ref bt, .int ln, .ref tg, .int pl1_45, .int ws1_46, .int er1_47, .int ep1_48]))] ++ ws_51) H := hP
            have hD : va_D A ([(rd, .inr (6, [.ref bt, .int ln, .ref tg, .int pl1_45, .int ws1_46, .int er1_47, .int ep1_48]))] ++ ws_51) := hD
            refine lv_iinc (v := (y_29 + Int32.ofInt 1)) (lv' := [(5, .int (y_29 + Int32.ofInt 1)), (4, .int r_42), (2, .long r_16), (1, .ref a_3), (0, .ref rd)]) hx hb dX6_readCurve_141 hl (k := 1) rfl rfl (by decide) rfl (fun ls hl => ?_)
            refine lv_goto (tgt := 89) hx hb dX6_readCurve_144 (by decide) ?_
            exact ih_89 _ _ _ _ (ty_inc (cm_lt hc_35)) ⟨ws_51, (y_29 + Int32.ofInt 1), r_42, pl1_45, ws1_46, er1_47, ep1_48, rfl, hT, hP, hD, hS, (lv_sub hl [0, 1, 2, 3, 4] rfl)⟩
          · refine lv_aload_n hx hb dX6_readCurve_113 rfl (lv_at hl 4 rfl) ?_
            refine ty_ki (wr := []) (wc := ([(rd, .inr (6, [.ref bt, .int ln, .ref tg, .int pl1_40, .int y_32, .int y_33, .int y_34]))] ++ ws_39)) (va_runV (As := []) (rest := []) ⟨hx, hb, hml, hown, hts⟩ (t_X6_next l D ct S ws_39 rd bt tg nb ln pl1_40 y_32 y_33 y_34 _ hT h_bt h_tg) (cm_V 0 hts kc_X6_next ki_RX6 kl_RX6_61 kv_X6_next kx_X6_next kd_X6_next ⟨Nat.le_of_ble_eq_true rfl, Nat.le_of_ble_eq_true rfl⟩) (ty_preE (wr := []) (wc := ([(rd, .inr (6, [.ref bt, .int ln, .ref tg, .int pl1_40, .int y_32, .int y_33, .int y_34]))] ++ ws_39)) (ci := 6) (q0 := 0) hP hK hD hS hA hX rfl rfl) rfl rfl hl.1 rfl (lv_room (Nat.le_of_ble_eq_true rfl)) dX6_readCurve_114 ⟨Nat.le_of_ble_eq_true rfl, Nat.le_of_ble_eq_true rfl⟩) hP hD hS hA (fun r_52 u H locs hw_53 hP hD hS => ?_)
            obtain ⟨ws_54, rfl⟩ : ∃ z, z = u := ⟨_, rfl⟩
            have hT := hw_53
            have hP : va_P D vwCl ([(rd, .inr (6, [.ref bt, .int ln, .ref tg, .int pl1_40, .int y_32, .int y_33, .int y_34]))] ++ ws_54) H := hP
            have hD : va_D A ([(rd, .inr (6, [.ref bt, .int ln, .ref tg, .int pl1_40, .int y_32, .int y_33, .int y_34]))] ++ ws_54) := hD
            refine ty_ki (wr := [(rd, .inr (6, [.ref bt, .int ln, .ref tg, .int pl1_40, .int y_32, .int y_33, .int y_34]))]) (wc := ([] ++ ws_54)) (va_runS (As := [.int r_52]) (rest := []) ⟨hx, hb, hml, hown, hts⟩ (t_X6_isDigit l D ct S ws_54 r_52 _ hT) (cm_S 1 hts kc_X6_isDigit ki_RX6 kl_RX6_154 ks_X6_isDigit kd_X6_isDigit ⟨Nat.le_of_ble_eq_true rfl, Nat.le_of_ble_eq_true rfl⟩) (ty_preS (wr := [(rd, .inr (6, [.ref bt, .int ln, .ref tg, .int pl1_40, .int y_32, .int y_33, .int y_34]))]) (wc := ([] ++ ws_54)) hP hK hD hS hA hX) rfl rfl hl.1 rfl (lv_room (Nat.le_of_ble_eq_true rfl)) dX6_readCurve_117 ⟨Nat.le_of_ble_eq_true rfl, Nat.le_of_ble_eq_true rfl⟩) hP hD hS hA (fun r_55 u H locs hw_56 hP hD hS => ?_)
            obtain ⟨ws_57, rfl⟩ : ∃ z, z = u := ⟨_, rfl⟩
            have hT := hw_56
            have hP : va_P D vwCl ([(rd, .inr (6, [.ref bt, .int ln, .ref tg, .int pl1_40, .int y_32, .int y_33, .int y_34]))] ++ ws_57) H := hP
            have hD : va_D A ([(rd, .inr (6, [.ref bt, .int ln, .ref tg, .int pl1_40, .int y_32, .int y_33, .int y_34]))] ++ ws_57) := hD
            refine lv_if_ne (tgt := 124) hx hb dX6_readCurve_120 (by decide) (fun hc_58 => ?_) (fun hc_58 => ?_)
            · refine lv_aload_n hx hb dX6_readCurve_124 rfl (lv_at hl 4 rfl) ?_
              refine lv_iload hx hb dX6_readCurve_125 (lv_at hl 1 rfl) ?_
              refine lv_sipush (v := 5000) hx hb dX6_readCurve_127 (by decide) ?_
              refine ty_ki (wr := []) (wc := ([(rd, .inr (6, [.ref bt, .int ln, .ref tg, .int pl1_40, .int y_32, .int y_33, .int y_34]))] ++ ws_57)) (va_runV (As := [.int y_30, .int 5000]) (rest := []) ⟨hx, hb, hml, hown, hts⟩ (t_X6_readNumber l D ct S ws_57 rd bt tg nb ln pl1_40 y_32 y_33 y_34 y_30 (5000 : Int32) _ hT h_bt h_tg) (cm_V 2 hts kc_X6_readNumber ki_RX6 kl_RX6_74 kv_X6_readNumber kx_X6_readNumber kd_X6_readNumber ⟨Nat.le_of_ble_eq_true rfl, Nat.le_of_ble_eq_true rfl⟩) (ty_preE (wr := []) (wc := ([(rd, .inr (6, [.ref bt, .int ln, .ref tg, .int pl1_40, .int y_32, .int y_33, .int y_34]))] ++ ws_57)) (ci := 6) (q0 := 0) hP hK hD hS hA hX rfl rfl) rfl rfl hl.1 rfl (lv_room (Nat.le_of_ble_eq_true rfl)) dX6_readCurve_130 ⟨Nat.le_of_ble_eq_true rfl, Nat.le_of_ble_eq_true rfl⟩) hP hD hS hA (fun r_59 u H locs hw_60 hP hD hS => ?_)
              obtain ⟨ws_61, pl1_62, ws1_63, er1_64, ep1_65⟩ := u
              have hT := hw_60
              have hP : va_P D vwCl ([(rd, .inr (6, [.ref bt, .int ln, .ref tg, .int pl1_62, .int ws1_63, .int er1_64, .int ep1_65]))] ++ ws_61) H := hP
              have hD : va_D A ([(rd, .inr (6, [.ref bt, .int ln, .ref tg, .int pl1_62, .int ws1_63, .int er1_64, .int ep1_65]))] ++ ws_61) := hD
              refine lv_istore (lv' := [(4, .int r_59), (5, .int y_29), (2, .long r_16), (1, .ref a_3), (0, .ref rd)]) hx hb dX6_readCurve_133 hl (by decide) rfl (fun ls hl => ?_)
              refine lv_aload_n hx hb dX6_readCurve_135 rfl (lv_at hl 3 rfl) ?_
              refine lv_iload hx hb dX6_readCurve_136 (lv_at hl 0 rfl) ?_
              refine ty_kv (wr := [(rd, .inr (6, [.ref bt, .int ln, .ref tg, .int pl1_62, .int ws1_63, .int er1_64, .int ep1_65]))]) (wc := ([] ++ ws_61)) (va_runVN (As := [.int r_59]) (rest := []) ⟨hx, hb, hml, hown, hts⟩ (t_X2_addVoltageToLast l D ct S ws_61 a_3 r_59 _ hT ha_4) (cm_VN 1 hts kc_X2_addVoltageToLast ki_RX2 kl_RX6_158 kv_X2_addVoltageToLast kx_X2_addVoltageToLast kd_X2_addVoltageToLast ⟨Nat.le_of_ble_eq_true rfl, Nat.le_of_ble_eq_true rfl⟩) (ty_preV (wr := [(rd, .inr (6, [.ref bt, .int ln, .ref tg, .int pl1_62, .int ws1_63, .int er1_64, .int ep1_65]))]) (E := []) (ws := ws_61) (ci := 2) hP hK hD hS hA hX hT rfl ha_4) rfl rfl hl.1 rfl (lv_room (Nat.le_of_ble_eq_true rfl)) dX6_readCurve_138 ⟨Nat.le_of_ble_eq_true rfl, Nat.le_of_ble_eq_true rfl⟩) hP hD hS hA (fun u H locs hw_67 hP hD hS => ?_)
              obtain ⟨ws_68, rfl⟩ : ∃ z, z = u := ⟨_, rfl⟩
              have hT := hw_67
              have hP : va_P D vwCl ([(rd, .inr (6, [.ref bt, .int ln, .ref tg, .int pl1_62, .int ws1_63, .int er1_64, .int ep1_65]))] ++ ws_68) H := hP
              have hD : va_D A ([(rd, .inr (6, [.ref bt, .int ln, .ref tg, .int pl1_62, .int ws1_63, .int er1_64, .int ep1_65]))] ++ ws_68) := hD
              refine lv_iinc (v := (y_29 + Int32.ofInt 1)) (lv' := [(5, .int (y_29 + Int32.ofInt 1)), (4, .int r_59), (2, .long r_16), (1, .ref a_3), (0, .ref rd)]) hx hb dX6_readCurve_141 hl (k := 1) rfl rfl (by decide) rfl (fun ls hl => ?_)
              refine lv_goto (tgt := 89) hx hb dX6_readCurve_144 (by decide) ?_
              exact ih_89 _ _ _ _ (ty_inc (cm_lt hc_35)) ⟨ws_68, (y_29 + Int32.ofInt 1), r_59, pl1_62, ws1_63, er1_64, ep1_65, rfl, hT, hP, hD, hS, (lv_sub hl [0, 1, 2, 3, 4] rfl)⟩
            · exact W.vret hx hb hr (fun t ht hW => ⟨⟨(ws_57, pl1_40, y_32, y_33, y_34), rfl, hT, by rw [ht]; exact hP, by rw [hAe]; exact hD⟩, hS.F ht⟩) hS.2.2 dX6_readCurve_123
    · refine lv_aload_n hx hb dX6_readCurve_60 rfl (lv_at hl 1 rfl) ?_
      refine lv_lload_n hx hb dX6_readCurve_61 rfl (lv_at hl 0 rfl) ?_
      refine ty_ki (wr := [(rd, .inr (6, [.ref bt, .int ln, .ref tg, .int pl1_12, .int ws1_13, .int er1_14, .int ep1_15]))]) (wc := ([] ++ ws_18)) (va_runVN (As := [.long r_16]) (rest := []) ⟨hx, hb, hml, hown, hts⟩ (t_X2_find l D ct S ws_18 a_3 r_16 _ hT ha_4) (cm_VN 1 hts kc_X2_find ki_RX2 kl_RX6_146 kv_X2_find kx_X2_find kd_X2_find ⟨Nat.le_of_ble_eq_true rfl, Nat.le_of_ble_eq_true rfl⟩) (ty_preV (wr := [(rd, .inr (6, [.ref bt, .int ln, .ref tg, .int pl1_12, .int ws1_13, .int er1_14, .int ep1_15]))]) (E := []) (ws := ws_18) (ci := 2) hP hK hD hS hA hX hT rfl ha_4) rfl rfl hl.1 rfl (lv_room (Nat.le_of_ble_eq_true rfl)) dX6_readCurve_62 ⟨Nat.le_of_ble_eq_true rfl, Nat.le_of_ble_eq_true rfl⟩) hP hD hS hA (fun r_69 u H locs hw_70 hP hD hS => ?_)
      obtain ⟨ws_71, rfl⟩ : ∃ z, z = u := ⟨_, rfl⟩
      have hT := hw_70
      have hP : va_P D vwCl ([(rd, .inr (6, [.ref bt, .int ln, .ref tg, .int pl1_12, .int ws1_13, .int er1_14, .int ep1_15]))] ++ ws_71) H := hP
      have hD : va_D A ([(rd, .inr (6, [.ref bt, .int ln, .ref tg, .int pl1_12, .int ws1_13, .int er1_14, .int ep1_15]))] ++ ws_71) := hD
      refine lv_iconst (v := (-1)) hx hb dX6_readCurve_65 (by decide) ?_
      refine lv_icmp_eq (tgt := 78) hx hb dX6_readCurve_66 (by decide) (fun hc_72 => ?_) (fun hc_72 => ?_)
      · refine lv_aload_n hx hb dX6_readCurve_78 rfl (lv_at hl 1 rfl) ?_
        refine lv_lload_n hx hb dX6_readCurve_79 rfl (lv_at hl 0 rfl) ?_
        refine ty_kv (wr := [(rd, .inr (6, [.ref bt, .int ln, .ref tg, .int pl1_12, .int ws1_13, .int er1_14, .int ep1_15]))]) (wc := ([] ++ ws_71)) (va_runVN (As := [.long r_16]) (rest := []) ⟨hx, hb, hml, hown, hts⟩ (t_X2_add l D ct S ws_71 a_3 r_16 _ hT ha_4) (cm_VN 1 hts kc_X2_add ki_RX2 kl_RX6_150 kv_X2_add kx_X2_add kd_X2_add ⟨Nat.le_of_ble_eq_true rfl, Nat.le_of_ble_eq_true rfl⟩) (ty_preV (wr := [(rd, .inr (6, [.ref bt, .int ln, .ref tg, .int pl1_12, .int ws1_13, .int er1_14, .int ep1_15]))]) (E := []) (ws := ws_71) (ci := 2) hP hK hD hS hA hX hT rfl ha_4) rfl rfl hl.1 rfl (lv_room (Nat.le_of_ble_eq_true rfl)) dX6_readCurve_80 ⟨Nat.le_of_ble_eq_true rfl, Nat.le_of_ble_eq_true rfl⟩) hP hD hS hA (fun u H locs hw_74 hP hD hS => ?_)
        obtain ⟨ws_75, rfl⟩ : ∃ z, z = u := ⟨_, rfl⟩
        have hT := hw_74
        have hP : va_P D vwCl ([(rd, .inr (6, [.ref bt, .int ln, .ref tg, .int pl1_12, .int ws1_13, .int er1_14, .int ep1_15]))] ++ ws_75) H := hP
        have hD : va_D A ([(rd, .inr (6, [.ref bt, .int ln, .ref tg, .int pl1_12, .int ws1_13, .int er1_14, .int ep1_15]))] ++ ws_75) := hD
        refine lv_iconst (v := 0) hx hb dX6_readCurve_83 (by decide) ?_
        refine lv_istore (lv' := [(4, .int 0), (2, .long r_16), (1, .ref a_3), (0, .ref rd)]) hx hb dX6_readCurve_84 hl (by decide) rfl (fun ls hl => ?_)
        refine lv_iconst (v := 0) hx hb dX6_readCurve_86 (by decide) ?_
        refine lv_istore (lv' := [(5, .int 0), (4, .int 0), (2, .long r_16), (1, .ref a_3), (0, .ref rd)]) hx hb dX6_readCurve_87 hl (by decide) rfl (fun ls hl => ?_)
        refine ty_loop (I := fun μ H locs ls => ∃ (ws : va_W) (y_76 : Int32) (y_77 : Int32) (y_78 : Int32) (y_79 : Int32) (y_80 : Int32) (y_81 : Int32), μ = (2147483648 - y_76.toInt).toNat ∧ ty_W ct S ws ∧ va_P D vwCl ([(rd, .inr (6, [.ref bt, .int ln, .ref tg, .int y_78, .int y_79, .int y_80, .int y_81]))] ++ ws) H ∧ va_D A ([(rd, .inr (6, [.ref bt, .int ln, .ref tg, .int y_78, .int y_79, .int y_80, .int y_81]))] ++ ws) ∧ va_S A s.heap H locs ∧ lv_has ls 6 [(5, .int y_76), (4, .int y_77), (2, .long r_16), (1, .ref a_3), (0, .ref rd)]) ⟨_, ws_75, (0 : Int32), (0 : Int32), pl1_12, ws1_13, er1_14, ep1_15, rfl, hT, hP, hD, hS, (lv_sub hl [0, 1, 2, 3, 4] rfl)⟩ (fun μ H locs ls hI ih_89 => ?_)
        obtain ⟨ws, y_76, y_77, y_78, y_79, y_80, y_81, rfl, hT, hP, hD, hS, hl⟩ := hI
        refine lv_iload hx hb dX6_readCurve_89 (lv_at hl 0 rfl) ?_
        refine lv_bipush (v := 11) hx hb dX6_readCurve_91 (by decide) ?_
        refine lv_icmp_ge (tgt := 147) hx hb dX6_readCurve_93 (by decide) (fun hc_82 => ?_) (fun hc_82 => ?_)
        · exact W.vret hx hb hr (fun t ht hW => ⟨⟨(ws, y_78, y_79, y_80, y_81), rfl, hT, by rw [ht]; exact hP, by rw [hAe]; exact hD⟩, hS.F ht⟩) hS.2.2 dX6_readCurve_147
        · refine lv_aload_n hx hb dX6_readCurve_96 rfl (lv_at hl 4 rfl) ?_
          refine va_get (v := .int y_80) (D := D) (ci := 6) (C := RX6) (T := TX6) (N := 7) hx hb hts in_X6 hown hK hP 0 rfl rfl 5 (by decide) (hts _ kl_RX6_58) (fun _ h9 => h9) rfl dX6_readCurve_97 ?_
          refine lv_if_ne (tgt := 147) hx hb dX6_readCurve_100 (by decide) (fun hc_83 => ?_) (fun hc_83 => ?_)
          · exact W.vret hx hb hr (fun t ht hW => ⟨⟨(ws, y_78, y_79, y_80, y_81), rfl, hT, by rw [ht]; exact hP, by rw [hAe]; exact hD⟩, hS.F ht⟩) hS.2.2 dX6_readCurve_147
          · refine lv_aload_n hx hb dX6_readCurve_103 rfl (lv_at hl 4 rfl) ?_
            refine ty_kv (wr := []) (wc := ([(rd, .inr (6, [.ref bt, .int ln, .ref tg, .int y_78, .int y_79, .int y_80, .int y_81]))] ++ ws)) (va_runV (As := []) (rest := []) ⟨hx, hb, hml, hown, hts⟩ (t_X6_skipSpaces l D ct S ws rd bt tg nb ln y_78 y_79 y_80 y_81 _ hT h_bt h_tg) (cm_V 0 hts kc_X6_skipSpaces ki_RX6 kl_RX6_55 kv_X6_skipSpaces kx_X6_skipSpaces kd_X6_skipSpaces ⟨Nat.le_of_ble_eq_true rfl, Nat.le_of_ble_eq_true rfl⟩) (ty_preE (wr := []) (wc := ([(rd, .inr (6, [.ref bt, .int ln, .ref tg, .int y_78, .int y_79, .int y_80, .int y_81]))] ++ ws)) (ci := 6) (q0 := 0) hP hK hD hS hA hX rfl rfl) rfl rfl hl.1 rfl (lv_room (Nat.le_of_ble_eq_true rfl)) dX6_readCurve_104 ⟨Nat.le_of_ble_eq_true rfl, Nat.le_of_ble_eq_true rfl⟩) hP hD hS hA (fun u H locs hw_85 hP hD hS => ?_)
            obtain ⟨ws_86, pl1_87⟩ := u
            have hT := hw_85
            have hP : va_P D vwCl ([(rd, .inr (6, [.ref bt, .int ln, .ref tg, .int pl1_87, .int y_79, .int y_80, .int y_81]))] ++ ws_86) H := hP
            have hD : va_D A ([(rd, .inr (6, [.ref bt, .int ln, .ref tg, .int pl1_87, .int y_79, .int y_80, .int y_81]))] ++ ws_86) := hD
            refine lv_iload hx hb dX6_readCurve_107 (lv_at hl 0 rfl) ?_
            refine lv_iconst (v := 2) hx hb dX6_readCurve_109 (by decide) ?_
            refine lv_icmp_lt (tgt := 124) hx hb dX6_readCurve_110 (by decide) (fun hc_88 => ?_) (fun hc_88 => ?_)
            · refine lv_aload_n hx hb dX6_readCurve_124 rfl (lv_at hl 4 rfl) ?_
              refine lv_iload hx hb dX6_readCurve_125 (lv_at hl 1 rfl) ?_
              refine lv_sipush (v := 5000) hx hb dX6_readCurve_127 (by decide) ?_
              refine ty_ki (wr := []) (wc := ([(rd, .inr (6, [.ref bt, .int ln, .ref tg, .int pl1_87, .int y_79, .int y_80, .int y_81]))] ++ ws_86)) (va_runV (As := [.int y_77, .int 5000]) (rest := []) ⟨hx, hb, hml, hown, hts⟩ (t_X6_readNumber l D ct S ws_86 rd bt tg nb ln pl1_87 y_79 y_80 y_81 y_77 (5000 : Int32) _ hT h_bt h_tg) (cm_V 2 hts kc_X6_readNumber ki_RX6 kl_RX6_74 kv_X6_readNumber kx_X6_readNumber kd_X6_readNumber ⟨Nat.le_of_ble_eq_true rfl, Nat.le_of_ble_eq_true rfl⟩) (ty_preE (wr := []) (wc := ([(rd, .inr (6, [.ref bt, .int ln, .ref tg, .int pl1_87, .int y_79, .int y_80, .int y_81]))] ++ ws_86)) (ci := 6) (q0 := 0) hP hK hD hS hA hX rfl rfl) rfl rfl hl.1 rfl (lv_room (Nat.le_of_ble_eq_true rfl)) dX6_readCurve_130 ⟨Nat.le_of_ble_eq_true rfl, Nat.le_of_ble_eq_true rfl⟩) hP hD hS hA (fun r_89 u H locs hw_90 hP hD hS => ?_)
              obtain ⟨ws_91, pl1_92, ws1_93, er1_94, ep1_95⟩ := u
              have hT := hw_90
              have hP : va_P D vwCl ([(rd, .inr (6, [.ref bt, .int ln, .ref tg, .int pl1_92, .int ws1_93, .int er1_94, .int ep1_95]))] ++ ws_91) H := hP
              have hD : va_D A ([(rd, .inr (6, [.ref bt, .int ln, .ref tg, .int pl1_92, .int ws1_93, .int er1_94, .int ep1_95]))] ++ ws_91) := hD
              refine lv_istore (lv' := [(4, .int r_89), (5, .int y_76), (2, .long r_16), (1, .ref a_3), (0, .ref rd)]) hx hb dX6_readCurve_133 hl (by decide) rfl (fun ls hl => ?_)
              refine lv_aload_n hx hb dX6_readCurve_135 rfl (lv_at hl 3 rfl) ?_
              refine lv_iload hx hb dX6_readCurve_136 (lv_at hl 0 rfl) ?_
              refine ty_kv (wr := [(rd, .inr (6, [.ref bt, .int ln, .ref tg, .int pl1_92, .int ws1_93, .int er1_94, .int ep1_95]))]) (wc := ([] ++ ws_91)) (va_runVN (As := [.int r_89]) (rest := []) ⟨hx, hb, hml, hown, hts⟩ (t_X2_addVoltageToLast l D ct S ws_91 a_3 r_89 _ hT ha_4) (cm_VN 1 hts kc_X2_addVoltageToLast ki_RX2 kl_RX6_158 kv_X2_addVoltageToLast kx_X2_addVoltageToLast kd_X2_addVoltageToLast ⟨Nat.le_of_ble_eq_true rfl, Nat.le_of_ble_eq_true rfl⟩) (ty_preV (wr := [(rd, .inr (6, [.ref bt, .int ln, .ref tg, .int pl1_92, .int ws1_93, .int er1_94, .int ep1_95]))]) (E := []) (ws := ws_91) (ci := 2) hP hK hD hS hA hX hT rfl ha_4) rfl rfl hl.1 rfl (lv_room (Nat.le_of_ble_eq_true rfl)) dX6_readCurve_138 ⟨Nat.le_of_ble_eq_true rfl, Nat.le_of_ble_eq_true rfl⟩) hP hD hS hA (fun u H locs hw_97 hP hD hS => ?_)
              obtain ⟨ws_98, rfl⟩ : ∃ z, z = u := ⟨_, rfl⟩
              have hT := hw_97
              have hP : va_P D vwCl ([(rd, .inr (6, [.ref bt, .int ln, .ref tg, .int pl1_92, .int ws1_93, .int er1_94, .int ep1_95]))] ++ ws_98) H := hP
              have hD : va_D A ([(rd, .inr (6, [.ref bt, .int ln, .ref tg, .int pl1_92, .int ws1_93, .int er1_94, .int ep1_95]))] ++ ws_98) := hD
              refine lv_iinc (v := (y_76 + Int32.ofInt 1)) (lv' := [(5, .int (y_76 + Int32.ofInt 1)), (4, .int r_89), (2, .long r_16), (1, .ref a_3), (0, .ref rd)]) hx hb dX6_readCurve_141 hl (k := 1) rfl rfl (by decide) rfl (fun ls hl => ?_)
              refine lv_goto (tgt := 89) hx hb dX6_readCurve_144 (by decide) ?_
              exact ih_89 _ _ _ _ (ty_inc (cm_lt hc_82)) ⟨ws_98, (y_76 + Int32.ofInt 1), r_89, pl1_92, ws1_93, er1_94, ep1_95, rfl, hT, hP, hD, hS, (lv_sub hl [0, 1, 2, 3, 4] rfl)⟩
            · refine lv_aload_n hx hb dX6_readCurve_113 rfl (lv_at hl 4 rfl) ?_
              refine ty_ki (wr := []) (wc := ([(rd, .inr (6, [.ref bt, .int ln, .ref tg, .int pl1_87, .int y_79, .int y_80, .int y_81]))] ++ ws_86)) (va_runV (As := []) (rest := []) ⟨hx, hb, hml, hown, hts⟩ (t_X6_next l D ct S ws_86 rd bt tg nb ln pl1_87 y_79 y_80 y_81 _ hT h_bt h_tg) (cm_V 0 hts kc_X6_next ki_RX6 kl_RX6_61 kv_X6_next kx_X6_next kd_X6_next ⟨Nat.le_of_ble_eq_true rfl, Nat.le_of_ble_eq_true rfl⟩) (ty_preE (wr := []) (wc := ([(rd, .inr (6, [.ref bt, .int ln, .ref tg, .int pl1_87, .int y_79, .int y_80, .int y_81]))] ++ ws_86)) (ci := 6) (q0 := 0) hP hK hD hS hA hX rfl rfl) rfl rfl hl.1 rfl (lv_room (Nat.le_of_ble_eq_true rfl)) dX6_readCurve_114 ⟨Nat.le_of_ble_eq_true rfl, Nat.le_of_ble_eq_true rfl⟩) hP hD hS hA (fun r_99 u H locs hw_100 hP hD hS => ?_)
              obtain ⟨ws_101, rfl⟩ : ∃ z, z = u := ⟨_, rfl⟩
              have hT := hw_100
              have hP : va_P D vwCl ([(rd, .inr (6, [.ref bt, .int ln, .ref tg, .int pl1_87, .int y_79, .int y_80, .int y_81]))] ++ ws_101) H := hP
              have hD : va_D A ([(rd, .inr (6, [.ref bt, .int ln, .ref tg, .int pl1_87, .int y_79, .int y_80, .int y_81]))] ++ ws_101) := hD
              refine ty_ki (wr := [(rd, .inr (6, [.ref bt, .int ln, .ref tg, .int pl1_87, .int y_79, .int y_80, .int y_81]))]) (wc := ([] ++ ws_101)) (va_runS (As := [.int r_99]) (rest := []) ⟨hx, hb, hml, hown, hts⟩ (t_X6_isDigit l D ct S ws_101 r_99 _ hT) (cm_S 1 hts kc_X6_isDigit ki_RX6 kl_RX6_154 ks_X6_isDigit kd_X6_isDigit ⟨Nat.le_of_ble_eq_true rfl, Nat.le_of_ble_eq_true rfl⟩) (ty_preS (wr := [(rd, .inr (6, [.ref bt, .int ln, .ref tg, .int pl1_87, .int y_79, .int y_80, .int y_81]))]) (wc := ([] ++ ws_101)) hP hK hD hS hA hX) rfl rfl hl.1 rfl (lv_room (Nat.le_of_ble_eq_true rfl)) dX6_readCurve_117 ⟨Nat.le_of_ble_eq_true rfl, Nat.le_of_ble_eq_true rfl⟩) hP hD hS hA (fun r_102 u H locs hw_103 hP hD hS => ?_)
              obtain ⟨ws_104, rfl⟩ : ∃ z, z = u := ⟨_, rfl⟩
              have hT := hw_103
              have hP : va_P D vwCl ([(rd, .inr (6, [.ref bt, .int ln, .ref tg, .int pl1_87, .int y_79, .int y_80, .int y_81]))] ++ ws_104) H := hP
              have hD : va_D A ([(rd, .inr (6, [.ref bt, .int ln, .ref tg, .int pl1_87, .int y_79, .int y_80, .int y_81]))] ++ ws_104) := hD
              refine lv_if_ne (tgt := 124) hx hb dX6_readCurve_120 (by decide) (fun hc_105 => ?_) (fun hc_105 => ?_)
              · refine lv_aload_n hx hb dX6_readCurve_124 rfl (lv_at hl 4 rfl) ?_
                refine lv_iload hx hb dX6_readCurve_125 (lv_at hl 1 rfl) ?_
                refine lv_sipush (v := 5000) hx hb dX6_readCurve_127 (by decide) ?_
                refine ty_ki (wr := []) (wc := ([(rd, .inr (6, [.ref bt, .int ln, .ref tg, .int pl1_87, .int y_79, .int y_80, .int y_81]))] ++ ws_104)) (va_runV (As := [.int y_77, .int 5000]) (rest := []) ⟨hx, hb, hml, hown, hts⟩ (t_X6_readNumber l D ct S ws_104 rd bt tg nb ln pl1_87 y_79 y_80 y_81 y_77 (5000 : Int32) _ hT h_bt h_tg) (cm_V 2 hts kc_X6_readNumber ki_RX6 kl_RX6_74 kv_X6_readNumber kx_X6_readNumber kd_X6_readNumber ⟨Nat.le_of_ble_eq_true rfl, Nat.le_of_ble_eq_true rfl⟩) (ty_preE (wr := []) (wc := ([(rd, .inr (6, [.ref bt, .int ln, .ref tg, .int pl1_87, .int y_79, .int y_80, .int y_81]))] ++ ws_104)) (ci := 6) (q0 := 0) hP hK hD hS hA hX rfl rfl) rfl rfl hl.1 rfl (lv_room (Nat.le_of_ble_eq_true rfl)) dX6_readCurve_130 ⟨Nat.le_of_ble_eq_true rfl, Nat.le_of_ble_eq_true rfl⟩) hP hD hS hA (fun r_106 u H locs hw_107 hP hD hS => ?_)
                obtain ⟨ws_108, pl1_109, ws1_110, er1_111, ep1_112⟩ := u
                have hT := hw_107
                have hP : va_P D vwCl ([(rd, .inr (6, [.ref bt, .int ln, .ref tg, .int pl1_109, .int ws1_110, .int er1_111, .int ep1_112]))] ++ ws_108) H := hP
                have hD : va_D A ([(rd, .inr (6, [.ref bt, .int ln, .ref tg, .int pl1_109, .int ws1_110, .int er1_111, .int ep1_112]))] ++ ws_108) := hD
                refine lv_istore (lv' := [(4, .int r_106), (5, .int y_76), (2, .long r_16), (1, .ref a_3), (0, .ref rd)]) hx hb dX6_readCurve_133 hl (by decide) rfl (fun ls hl => ?_)
                refine lv_aload_n hx hb dX6_readCurve_135 rfl (lv_at hl 3 rfl) ?_
                refine lv_iload hx hb dX6_readCurve_136 (lv_at hl 0 rfl) ?_
                refine ty_kv (wr := [(rd, .inr (6, [.ref bt, .int ln, .ref tg, .int pl1_109, .int ws1_110, .int er1_111, .int ep1_112]))]) (wc := ([] ++ ws_108)) (va_runVN (As := [.int r_106]) (rest := []) ⟨hx, hb, hml, hown, hts⟩ (t_X2_addVoltageToLast l D ct S ws_108 a_3 r_106 _ hT ha_4) (cm_VN 1 hts kc_X2_addVoltageToLast ki_RX2 kl_RX6_158 kv_X2_addVoltageToLast kx_X2_addVoltageToLast kd_X2_addVoltageToLast ⟨Nat.le_of_ble_eq_true rfl, Nat.le_of_ble_eq_true rfl⟩) (ty_preV (wr := [(rd, .inr (6, [.ref bt, .int ln, .ref tg, .int pl1_109, .int ws1_110, .int er1_111, .int ep1_112]))]) (E := []) (ws := ws_108) (ci := 2) hP hK hD hS hA hX hT rfl ha_4) rfl rfl hl.1 rfl (lv_room (Nat.le_of_ble_eq_true rfl)) dX6_readCurve_138 ⟨Nat.le_of_ble_eq_true rfl, Nat.le_of_ble_eq_true rfl⟩) hP hD hS hA (fun u H locs hw_114 hP hD hS => ?_)
                obtain ⟨ws_115, rfl⟩ : ∃ z, z = u := ⟨_, rfl⟩
                have hT := hw_114
                have hP : va_P D vwCl ([(rd, .inr (6, [.ref bt, .int ln, .ref tg, .int pl1_109, .int ws1_110, .int er1_111, .int ep1_112]))] ++ ws_115) H := hP
                have hD : va_D A ([(rd, .inr (6, [.ref bt, .int ln, .ref tg, .int pl1_109, .int ws1_110, .int er1_111, .int ep1_112]))] ++ ws_115) := hD
                refine lv_iinc (v := (y_76 + Int32.ofInt 1)) (lv' := [(5, .int (y_76 + Int32.ofInt 1)), (4, .int r_106), (2, .long r_16), (1, .ref a_3), (0, .ref rd)]) hx hb dX6_readCurve_141 hl (k := 1) rfl rfl (by decide) rfl (fun ls hl => ?_)
                refine lv_goto (tgt := 89) hx hb dX6_readCurve_144 (by decide) ?_
                exact ih_89 _ _ _ _ (ty_inc (cm_lt hc_82)) ⟨ws_115, (y_76 + Int32.ofInt 1), r_106, pl1_109, ws1_110, er1_111, ep1_112, rfl, hT, hP, hD, hS, (lv_sub hl [0, 1, 2, 3, 4] rfl)⟩
              · exact W.vret hx hb hr (fun t ht hW => ⟨⟨(ws_104, pl1_87, y_79, y_80, y_81), rfl, hT, by rw [ht]; exact hP, by rw [hAe]; exact hD⟩, hS.F ht⟩) hS.2.2 dX6_readCurve_123
      · refine lv_aload_n hx hb dX6_readCurve_69 rfl (lv_at hl 2 rfl) ?_
        refine lv_iconst (v := 3) hx hb dX6_readCurve_70 (by decide) ?_
        refine lv_aload_n hx hb dX6_readCurve_71 rfl (lv_at hl 2 rfl) ?_
        refine va_get (v := .int ws1_13) (D := D) (ci := 6) (C := RX6) (T := TX6) (N := 7) hx hb hts in_X6 hown hK hP 0 rfl rfl 4 (by decide) (hts _ kl_RX6_130) (fun _ h9 => h9) rfl dX6_readCurve_72 ?_
        refine ty_kv (wr := []) (wc := ([(rd, .inr (6, [.ref bt, .int ln, .ref tg, .int pl1_12, .int ws1_13, .int er1_14, .int ep1_15]))] ++ ws_71)) (va_runV (As := [.int 3, .int ws1_13]) (rest := []) ⟨hx, hb, hml, hown, hts⟩ (t_X6_fail l D ct S ws_71 rd bt tg nb ln pl1_12 ws1_13 er1_14 ep1_15 (3 : Int32) ws1_13 _ hT h_bt h_tg) (cm_V 2 hts kc_X6_fail ki_RX6 kl_RX6_68 kv_X6_fail kx_X6_fail kd_X6_fail ⟨Nat.le_of_ble_eq_true rfl, Nat.le_of_ble_eq_true rfl⟩) (ty_preE (wr := []) (wc := ([(rd, .inr (6, [.ref bt, .int ln, .ref tg, .int pl1_12, .int ws1_13, .int er1_14, .int ep1_15]))] ++ ws_71)) (ci := 6) (q0 := 0) hP hK hD hS hA hX rfl rfl) rfl rfl hl.1 rfl (lv_room (Nat.le_of_ble_eq_true rfl)) dX6_readCurve_75 ⟨Nat.le_of_ble_eq_true rfl, Nat.le_of_ble_eq_true rfl⟩) hP hD hS hA (fun u H locs hw_117 hP hD hS => ?_)
        obtain ⟨ws_118, er1_119, ep1_120⟩ := u
        have hT := hw_117
        have hP : va_P D vwCl ([(rd, .inr (6, [.ref bt, .int ln, .ref tg, .int pl1_12, .int ws1_13, .int er1_119, .int ep1_120]))] ++ ws_118) H := hP
        have hD : va_D A ([(rd, .inr (6, [.ref bt, .int ln, .ref tg, .int pl1_12, .int ws1_13, .int er1_119, .int ep1_120]))] ++ ws_118) := hD
        refine lv_aload_n hx hb dX6_readCurve_78 rfl (lv_at hl 1 rfl) ?_
        refine lv_lload_n hx hb dX6_readCurve_79 rfl (lv_at hl 0 rfl) ?_
        refine ty_kv (wr := [(rd, .inr (6, [.ref bt, .int ln, .ref tg, .int pl1_12, .int ws1_13, .int er1_119, .int ep1_120]))]) (wc := ([] ++ ws_118)) (va_runVN (As := [.long r_16]) (rest := []) ⟨hx, hb, hml, hown, hts⟩ (t_X2_add l D ct S ws_118 a_3 r_16 _ hT ha_4) (cm_VN 1 hts kc_X2_add ki_RX2 kl_RX6_150 kv_X2_add kx_X2_add kd_X2_add ⟨Nat.le_of_ble_eq_true rfl, Nat.le_of_ble_eq_true rfl⟩) (ty_preV (wr := [(rd, .inr (6, [.ref bt, .int ln, .ref tg, .int pl1_12, .int ws1_13, .int er1_119, .int ep1_120]))]) (E := []) (ws := ws_118) (ci := 2) hP hK hD hS hA hX hT rfl ha_4) rfl rfl hl.1 rfl (lv_room (Nat.le_of_ble_eq_true rfl)) dX6_readCurve_80 ⟨Nat.le_of_ble_eq_true rfl, Nat.le_of_ble_eq_true rfl⟩) hP hD hS hA (fun u H locs hw_122 hP hD hS => ?_)
        obtain ⟨ws_123, rfl⟩ : ∃ z, z = u := ⟨_, rfl⟩
        have hT := hw_122
        have hP : va_P D vwCl ([(rd, .inr (6, [.ref bt, .int ln, .ref tg, .int pl1_12, .int ws1_13, .int er1_119, .int ep1_120]))] ++ ws_123) H := hP
        have hD : va_D A ([(rd, .inr (6, [.ref bt, .int ln, .ref tg, .int pl1_12, .int ws1_13, .int er1_119, .int ep1_120]))] ++ ws_123) := hD
        refine lv_iconst (v := 0) hx hb dX6_readCurve_83 (by decide) ?_
        refine lv_istore (lv' := [(4, .int 0), (2, .long r_16), (1, .ref a_3), (0, .ref rd)]) hx hb dX6_readCurve_84 hl (by decide) rfl (fun ls hl => ?_)
        refine lv_iconst (v := 0) hx hb dX6_readCurve_86 (by decide) ?_
        refine lv_istore (lv' := [(5, .int 0), (4, .int 0), (2, .long r_16), (1, .ref a_3), (0, .ref rd)]) hx hb dX6_readCurve_87 hl (by decide) rfl (fun ls hl => ?_)
        refine ty_loop (I := fun μ H locs ls => ∃ (ws : va_W) (y_124 : Int32) (y_125 : Int32) (y_126 : Int32) (y_127 : Int32) (y_128 : Int32) (y_129 : Int32), μ = (2147483648 - y_124.toInt).toNat ∧ ty_W ct S ws ∧ va_P D vwCl ([(rd, .inr (6, [.ref bt, .int ln, .ref tg, .int y_126, .int y_127, .int y_128, .int y_129]))] ++ ws) H ∧ va_D A ([(rd, .inr (6, [.ref bt, .int ln, .ref tg, .int y_126, .int y_127, .int y_128, .int y_129]))] ++ ws) ∧ va_S A s.heap H locs ∧ lv_has ls 6 [(5, .int y_124), (4, .int y_125), (2, .long r_16), (1, .ref a_3), (0, .ref rd)]) ⟨_, ws_123, (0 : Int32), (0 : Int32), pl1_12, ws1_13, er1_119, ep1_120, rfl, hT, hP, hD, hS, (lv_sub hl [0, 1, 2, 3, 4] rfl)⟩ (fun μ H locs ls hI ih_89 => ?_)
        obtain ⟨ws, y_124, y_125, y_126, y_127, y_128, y_129, rfl, hT, hP, hD, hS, hl⟩ := hI
        refine lv_iload hx hb dX6_readCurve_89 (lv_at hl 0 rfl) ?_
        refine lv_bipush (v := 11) hx hb dX6_readCurve_91 (by decide) ?_
        refine lv_icmp_ge (tgt := 147) hx hb dX6_readCurve_93 (by decide) (fun hc_130 => ?_) (fun hc_130 => ?_)
        · exact W.vret hx hb hr (fun t ht hW => ⟨⟨(ws, y_126, y_127, y_128, y_129), rfl, hT, by rw [ht]; exact hP, by rw [hAe]; exact hD⟩, hS.F ht⟩) hS.2.2 dX6_readCurve_147
        · refine lv_aload_n hx hb dX6_readCurve_96 rfl (lv_at hl 4 rfl) ?_
          refine va_get (v := .int y_128) (D := D) (ci := 6) (C := RX6) (T := TX6) (N := 7) hx hb hts in_X6 hown hK hP 0 rfl rfl 5 (by decide) (hts _ kl_RX6_58) (fun _ h9 => h9) rfl dX6_readCurve_97 ?_
          refine lv_if_ne (tgt := 147) hx hb dX6_readCurve_100 (by decide) (fun hc_131 => ?_) (fun hc_131 => ?_)
          · exact W.vret hx hb hr (fun t ht hW => ⟨⟨(ws, y_126, y_127, y_128, y_129), rfl, hT, by rw [ht]; exact hP, by rw [hAe]; exact hD⟩, hS.F ht⟩) hS.2.2 dX6_readCurve_147
          · refine lv_aload_n hx hb dX6_readCurve_103 rfl (lv_at hl 4 rfl) ?_
            refine ty_kv (wr := []) (wc := ([(rd, .inr (6, [.ref bt, .int ln, .ref tg, .int y_126, .int y_127, .int y_128, .int y_129]))] ++ ws)) (va_runV (As := []) (rest := []) ⟨hx, hb, hml, hown, hts⟩ (t_X6_skipSpaces l D ct S ws rd bt tg nb ln y_126 y_127 y_128 y_129 _ hT h_bt h_tg) (cm_V 0 hts kc_X6_skipSpaces ki_RX6 kl_RX6_55 kv_X6_skipSpaces kx_X6_skipSpaces kd_X6_skipSpaces ⟨Nat.le_of_ble_eq_true rfl, Nat.le_of_ble_eq_true rfl⟩) (ty_preE (wr := []) (wc := ([(rd, .inr (6, [.ref bt, .int ln, .ref tg, .int y_126, .int y_127, .int y_128, .int y_129]))] ++ ws)) (ci := 6) (q0 := 0) hP hK hD hS hA hX rfl rfl) rfl rfl hl.1 rfl (lv_room (Nat.le_of_ble_eq_true rfl)) dX6_readCurve_104 ⟨Nat.le_of_ble_eq_true rfl, Nat.le_of_ble_eq_true rfl⟩) hP hD hS hA (fun u H locs hw_133 hP hD hS => ?_)
            obtain ⟨ws_134, pl1_135⟩ := u
            have hT := hw_133
            have hP : va_P D vwCl ([(rd, .inr (6, [.ref bt, .int ln, .ref tg, .int pl1_135, .int y_127, .int y_128, .int y_129]))] ++ ws_134) H := hP
            have hD : va_D A ([(rd, .inr (6, [.ref bt, .int ln, .ref tg, .int pl1_135, .int y_127, .int y_128, .int y_129]))] ++ ws_134) := hD
            refine lv_iload hx hb dX6_readCurve_107 (lv_at hl 0 rfl) ?_
            refine lv_iconst (v := 2) hx hb dX6_readCurve_109 (by decide) ?_
            refine lv_icmp_lt (tgt := 124) hx hb dX6_readCurve_110 (by decide) (fun hc_136 => ?_) (fun hc_136 => ?_)
            · refine lv_aload_n hx hb dX6_readCurve_124 rfl (lv_at hl 4 rfl) ?_
              refine lv_iload hx hb dX6_readCurve_125 (lv_at hl 1 rfl) ?_
              refine lv_sipush (v := 5000) hx hb dX6_readCurve_127 (by decide) ?_
              refine ty_ki (wr := []) (wc := ([(rd, .inr (6, [.ref bt, .int ln, .ref tg, .int pl1_135, .int y_127, .int y_128, .int y_129]))] ++ ws_134)) (va_runV (As := [.int y_125, .int 5000]) (rest := []) ⟨hx, hb, hml, hown, hts⟩ (t_X6_readNumber l D ct S ws_134 rd bt tg nb ln pl1_135 y_127 y_128 y_129 y_125 (5000 : Int32) _ hT h_bt h_tg) (cm_V 2 hts kc_X6_readNumber ki_RX6 kl_RX6_74 kv_X6_readNumber kx_X6_readNumber kd_X6_readNumber ⟨Nat.le_of_ble_eq_true rfl, Nat.le_of_ble_eq_true rfl⟩) (ty_preE (wr := []) (wc := ([(rd, .inr (6, [.ref bt, .int ln, .ref tg, .int pl1_135, .int y_127, .int y_128, .int y_129]))] ++ ws_134)) (ci := 6) (q0 := 0) hP hK hD hS hA hX rfl rfl) rfl rfl hl.1 rfl (lv_room (Nat.le_of_ble_eq_true rfl)) dX6_readCurve_130 ⟨Nat.le_of_ble_eq_true rfl, Nat.le_of_ble_eq_true rfl⟩) hP hD hS hA (fun r_137 u H locs hw_138 hP hD hS => ?_)
              obtain ⟨ws_139, pl1_140, ws1_141, er1_142, ep1_143⟩ := u
              have hT := hw_138
              have hP : va_P D vwCl ([(rd, .inr (6, [.ref bt, .int ln, .ref tg, .int pl1_140, .int ws1_141, .int er1_142, .int ep1_143]))] ++ ws_139) H := hP
              have hD : va_D A ([(rd, .inr (6, [.ref bt, .int ln, .ref tg, .int pl1_140, .int ws1_141, .int er1_142, .int ep1_143]))] ++ ws_139) := hD
              refine lv_istore (lv' := [(4, .int r_137), (5, .int y_124), (2, .long r_16), (1, .ref a_3), (0, .ref rd)]) hx hb dX6_readCurve_133 hl (by decide) rfl (fun ls hl => ?_)
              refine lv_aload_n hx hb dX6_readCurve_135 rfl (lv_at hl 3 rfl) ?_
              refine lv_iload hx hb dX6_readCurve_136 (lv_at hl 0 rfl) ?_
              refine ty_kv (wr := [(rd, .inr (6, [.ref bt, .int ln, .ref tg, .int pl1_140, .int ws1_141, .int er1_142, .int ep1_143]))]) (wc := ([] ++ ws_139)) (va_runVN (As := [.int r_137]) (rest := []) ⟨hx, hb, hml, hown, hts⟩ (t_X2_addVoltageToLast l D ct S ws_139 a_3 r_137 _ hT ha_4) (cm_VN 1 hts kc_X2_addVoltageToLast ki_RX2 kl_RX6_158 kv_X2_addVoltageToLast kx_X2_addVoltageToLast kd_X2_addVoltageToLast ⟨Nat.le_of_ble_eq_true rfl, Nat.le_of_ble_eq_true rfl⟩) (ty_preV (wr := [(rd, .inr (6, [.ref bt, .int ln, .ref tg, .int pl1_140, .int ws1_141, .int er1_142, .int ep1_143]))]) (E := []) (ws := ws_139) (ci := 2) hP hK hD hS hA hX hT rfl ha_4) rfl rfl hl.1 rfl (lv_room (Nat.le_of_ble_eq_true rfl)) dX6_readCurve_138 ⟨Nat.le_of_ble_eq_true rfl, Nat.le_of_ble_eq_true rfl⟩) hP hD hS hA (fun u H locs hw_145 hP hD hS => ?_)
              obtain ⟨ws_146, rfl⟩ : ∃ z, z = u := ⟨_, rfl⟩
              have hT := hw_145
              have hP : va_P D vwCl ([(rd, .inr (6, [.ref bt, .int ln, .ref tg, .int pl1_140, .int ws1_141, .int er1_142, .int ep1_143]))] ++ ws_146) H := hP
              have hD : va_D A ([(rd, .inr (6, [.ref bt, .int ln, .ref tg, .int pl1_140, .int ws1_141, .int er1_142, .int ep1_143]))] ++ ws_146) := hD
              refine lv_iinc (v := (y_124 + Int32.ofInt 1)) (lv' := [(5, .int (y_124 + Int32.ofInt 1)), (4, .int r_137), (2, .long r_16), (1, .ref a_3), (0, .ref rd)]) hx hb dX6_readCurve_141 hl (k := 1) rfl rfl (by decide) rfl (fun ls hl => ?_)
              refine lv_goto (tgt := 89) hx hb dX6_readCurve_144 (by decide) ?_
              exact ih_89 _ _ _ _ (ty_inc (cm_lt hc_130)) ⟨ws_146, (y_124 + Int32.ofInt 1), r_137, pl1_140, ws1_141, er1_142, ep1_143, rfl, hT, hP, hD, hS, (lv_sub hl [0, 1, 2, 3, 4] rfl)⟩
            · refine lv_aload_n hx hb dX6_readCurve_113 rfl (lv_at hl 4 rfl) ?_
              refine ty_ki (wr := []) (wc := ([(rd, .inr (6, [.ref bt, .int ln, .ref tg, .int pl1_135, .int y_127, .int y_128, .int y_129]))] ++ ws_134)) (va_runV (As := []) (rest := []) ⟨hx, hb, hml, hown, hts⟩ (t_X6_next l D ct S ws_134 rd bt tg nb ln pl1_135 y_127 y_128 y_129 _ hT h_bt h_tg) (cm_V 0 hts kc_X6_next ki_RX6 kl_RX6_61 kv_X6_next kx_X6_next kd_X6_next ⟨Nat.le_of_ble_eq_true rfl, Nat.le_of_ble_eq_true rfl⟩) (ty_preE (wr := []) (wc := ([(rd, .inr (6, [.ref bt, .int ln, .ref tg, .int pl1_135, .int y_127, .int y_128, .int y_129]))] ++ ws_134)) (ci := 6) (q0 := 0) hP hK hD hS hA hX rfl rfl) rfl rfl hl.1 rfl (lv_room (Nat.le_of_ble_eq_true rfl)) dX6_readCurve_114 ⟨Nat.le_of_ble_eq_true rfl, Nat.le_of_ble_eq_true rfl⟩) hP hD hS hA (fun r_147 u H locs hw_148 hP hD hS => ?_)
              obtain ⟨ws_149, rfl⟩ : ∃ z, z = u := ⟨_, rfl⟩
              have hT := hw_148
              have hP : va_P D vwCl ([(rd, .inr (6, [.ref bt, .int ln, .ref tg, .int pl1_135, .int y_127, .int y_128, .int y_129]))] ++ ws_149) H := hP
              have hD : va_D A ([(rd, .inr (6, [.ref bt, .int ln, .ref tg, .int pl1_135, .int y_127, .int y_128, .int y_129]))] ++ ws_149) := hD
              refine ty_ki (wr := [(rd, .inr (6, [.ref bt, .int ln, .ref tg, .int pl1_135, .int y_127, .int y_128, .int y_129]))]) (wc := ([] ++ ws_149)) (va_runS (As := [.int r_147]) (rest := []) ⟨hx, hb, hml, hown, hts⟩ (t_X6_isDigit l D ct S ws_149 r_147 _ hT) (cm_S 1 hts kc_X6_isDigit ki_RX6 kl_RX6_154 ks_X6_isDigit kd_X6_isDigit ⟨Nat.le_of_ble_eq_true rfl, Nat.le_of_ble_eq_true rfl⟩) (ty_preS (wr := [(rd, .inr (6, [.ref bt, .int ln, .ref tg, .int pl1_135, .int y_127, .int y_128, .int y_129]))]) (wc := ([] ++ ws_149)) hP hK hD hS hA hX) rfl rfl hl.1 rfl (lv_room (Nat.le_of_ble_eq_true rfl)) dX6_readCurve_117 ⟨Nat.le_of_ble_eq_true rfl, Nat.le_of_ble_eq_true rfl⟩) hP hD hS hA (fun r_150 u H locs hw_151 hP hD hS => ?_)
              obtain ⟨ws_152, rfl⟩ : ∃ z, z = u := ⟨_, rfl⟩
              have hT := hw_151
              have hP : va_P D vwCl ([(rd, .inr (6, [.ref bt, .int ln, .ref tg, .int pl1_135, .int y_127, .int y_128, .int y_129]))] ++ ws_152) H := hP
              have hD : va_D A ([(rd, .inr (6, [.ref bt, .int ln, .ref tg, .int pl1_135, .int y_127, .int y_128, .int y_129]))] ++ ws_152) := hD
              refine lv_if_ne (tgt := 124) hx hb dX6_readCurve_120 (by decide) (fun hc_153 => ?_) (fun hc_153 => ?_)
              · refine lv_aload_n hx hb dX6_readCurve_124 rfl (lv_at hl 4 rfl) ?_
                refine lv_iload hx hb dX6_readCurve_125 (lv_at hl 1 rfl) ?_
                refine lv_sipush (v := 5000) hx hb dX6_readCurve_127 (by decide) ?_
                refine ty_ki (wr := []) (wc := ([(rd, .inr (6, [.ref bt, .int ln, .ref tg, .int pl1_135, .int y_127, .int y_128, .int y_129]))] ++ ws_152)) (va_runV (As := [.int y_125, .int 5000]) (rest := []) ⟨hx, hb, hml, hown, hts⟩ (t_X6_readNumber l D ct S ws_152 rd bt tg nb ln pl1_135 y_127 y_128 y_129 y_125 (5000 : Int32) _ hT h_bt h_tg) (cm_V 2 hts kc_X6_readNumber ki_RX6 kl_RX6_74 kv_X6_readNumber kx_X6_readNumber kd_X6_readNumber ⟨Nat.le_of_ble_eq_true rfl, Nat.le_of_ble_eq_true rfl⟩) (ty_preE (wr := []) (wc := ([(rd, .inr (6, [.ref bt, .int ln, .ref tg, .int pl1_135, .int y_127, .int y_128, .int y_129]))] ++ ws_152)) (ci := 6) (q0 := 0) hP hK hD hS hA hX rfl rfl) rfl rfl hl.1 rfl (lv_room (Nat.le_of_ble_eq_true rfl)) dX6_readCurve_130 ⟨Nat.le_of_ble_eq_true rfl, Nat.le_of_ble_eq_true rfl⟩) hP hD hS hA (fun r_154 u H locs hw_155 hP hD hS => ?_)
                obtain ⟨ws_156, pl1_157, ws1_158, er1_159, ep1_160⟩ := u
                have hT := hw_155
                have hP : va_P D vwCl ([(rd, .inr (6, [.ref bt, .int ln, .ref tg, .int pl1_157, .int ws1_158, .int er1_159, .int ep1_160]))] ++ ws_156) H := hP
                have hD : va_D A ([(rd, .inr (6, [.ref bt, .int ln, .ref tg, .int pl1_157, .int ws1_158, .int er1_159, .int ep1_160]))] ++ ws_156) := hD
                refine lv_istore (lv' := [(4, .int r_154), (5, .int y_124), (2, .long r_16), (1, .ref a_3), (0, .ref rd)]) hx hb dX6_readCurve_133 hl (by decide) rfl (fun ls hl => ?_)
                refine lv_aload_n hx hb dX6_readCurve_135 rfl (lv_at hl 3 rfl) ?_
                refine lv_iload hx hb dX6_readCurve_136 (lv_at hl 0 rfl) ?_
                refine ty_kv (wr := [(rd, .inr (6, [.ref bt, .int ln, .ref tg, .int pl1_157, .int ws1_158, .int er1_159, .int ep1_160]))]) (wc := ([] ++ ws_156)) (va_runVN (As := [.int r_154]) (rest := []) ⟨hx, hb, hml, hown, hts⟩ (t_X2_addVoltageToLast l D ct S ws_156 a_3 r_154 _ hT ha_4) (cm_VN 1 hts kc_X2_addVoltageToLast ki_RX2 kl_RX6_158 kv_X2_addVoltageToLast kx_X2_addVoltageToLast kd_X2_addVoltageToLast ⟨Nat.le_of_ble_eq_true rfl, Nat.le_of_ble_eq_true rfl⟩) (ty_preV (wr := [(rd, .inr (6, [.ref bt, .int ln, .ref tg, .int pl1_157, .int ws1_158, .int er1_159, .int ep1_160]))]) (E := []) (ws := ws_156) (ci := 2) hP hK hD hS hA hX hT rfl ha_4) rfl rfl hl.1 rfl (lv_room (Nat.le_of_ble_eq_true rfl)) dX6_readCurve_138 ⟨Nat.le_of_ble_eq_true rfl, Nat.le_of_ble_eq_true rfl⟩) hP hD hS hA (fun u H locs hw_162 hP hD hS => ?_)
                obtain ⟨ws_163, rfl⟩ : ∃ z, z = u := ⟨_, rfl⟩
                have hT := hw_162
                have hP : va_P D vwCl ([(rd, .inr (6, [.ref bt, .int ln, .ref tg, .int pl1_157, .int ws1_158, .int er1_159, .int ep1_160]))] ++ ws_163) H := hP
                have hD : va_D A ([(rd, .inr (6, [.ref bt, .int ln, .ref tg, .int pl1_157, .int ws1_158, .int er1_159, .int ep1_160]))] ++ ws_163) := hD
                refine lv_iinc (v := (y_124 + Int32.ofInt 1)) (lv' := [(5, .int (y_124 + Int32.ofInt 1)), (4, .int r_154), (2, .long r_16), (1, .ref a_3), (0, .ref rd)]) hx hb dX6_readCurve_141 hl (k := 1) rfl rfl (by decide) rfl (fun ls hl => ?_)
                refine lv_goto (tgt := 89) hx hb dX6_readCurve_144 (by decide) ?_
                exact ih_89 _ _ _ _ (ty_inc (cm_lt hc_130)) ⟨ws_163, (y_124 + Int32.ofInt 1), r_154, pl1_157, ws1_158, er1_159, ep1_160, rfl, hT, hP, hD, hS, (lv_sub hl [0, 1, 2, 3, 4] rfl)⟩
              · exact W.vret hx hb hr (fun t ht hW => ⟨⟨(ws_152, pl1_135, y_127, y_128, y_129), rfl, hT, by rw [ht]; exact hP, by rw [hAe]; exact hD⟩, hS.F ht⟩) hS.2.2 dX6_readCurve_123
  · refine lv_aload_n hx hb dX6_readCurve_16 rfl (lv_at hl 1 rfl) ?_
    refine lv_iconst (v := 4) hx hb dX6_readCurve_17 (by decide) ?_
    refine lv_aload_n hx hb dX6_readCurve_18 rfl (lv_at hl 1 rfl) ?_
    refine va_get (v := .int wst) (D := D) (ci := 6) (C := RX6) (T := TX6) (N := 7) hx hb hts in_X6 hown hK hP 0 rfl rfl 4 (by decide) (hts _ kl_RX6_130) (fun _ h9 => h9) rfl dX6_readCurve_19 ?_
    refine ty_kv (wr := []) (wc := ([(rd, .inr (6, [.ref bt, .int ln, .ref tg, .int pl, .int wst, .int er, .int ep]))] ++ ws)) (va_runV (As := [.int 4, .int wst]) (rest := []) ⟨hx, hb, hml, hown, hts⟩ (t_X6_fail l D ct S ws rd bt tg nb ln pl wst er ep (4 : Int32) wst _ hT h_bt h_tg) (cm_V 2 hts kc_X6_fail ki_RX6 kl_RX6_68 kv_X6_fail kx_X6_fail kd_X6_fail ⟨Nat.le_of_ble_eq_true rfl, Nat.le_of_ble_eq_true rfl⟩) (ty_preE (wr := []) (wc := ([(rd, .inr (6, [.ref bt, .int ln, .ref tg, .int pl, .int wst, .int er, .int ep]))] ++ ws)) (ci := 6) (q0 := 0) hP hK hD hS hA hX rfl rfl) rfl rfl hl.1 rfl (lv_room (Nat.le_of_ble_eq_true rfl)) dX6_readCurve_22 ⟨Nat.le_of_ble_eq_true rfl, Nat.le_of_ble_eq_true rfl⟩) hP hD hS hA (fun u H locs hw_165 hP hD hS => ?_)
    obtain ⟨ws_166, er1_167, ep1_168⟩ := u
    have hT := hw_165
    have hP : va_P D vwCl ([(rd, .inr (6, [.ref bt, .int ln, .ref tg, .int pl, .int wst, .int er1_167, .int ep1_168]))] ++ ws_166) H := hP
    have hD : va_D A ([(rd, .inr (6, [.ref bt, .int ln, .ref tg, .int pl, .int wst, .int er1_167, .int ep1_168]))] ++ ws_166) := hD
    exact W.vret hx hb hr (fun t ht hW => ⟨⟨(ws_166, pl, wst, er1_167, ep1_168), rfl, hT, by rw [ht]; exact hP, by rw [hAe]; exact hD⟩, hS.F ht⟩) hS.2.2 dX6_readCurve_25
theorem dX6_readCell_0 : decode cX6_readCell 0 = .ok (.aload_n 0, 1) := by decide +kernel
theorem dX6_readCell_1 : decode cX6_readCell 1 = .ok (.getfield 19, 3) := by decide +kernel
theorem dX6_readCell_4 : decode cX6_readCell 4 = .ok (.getfield 162, 3) := by decide +kernel
theorem dX6_readCell_7 : decode cX6_readCell 7 = .ok (.bipush 6, 2) := by decide +kernel
theorem dX6_readCell_9 : decode cX6_readCell 9 = .ok (.if_icmp .lt 13, 3) := by decide +kernel
theorem dX6_readCell_12 : decode cX6_readCell 12 = .ok (.aload_n 0, 1) := by decide +kernel
theorem dX6_readCell_13 : decode cX6_readCell 13 = .ok (.iconst 4, 1) := by decide +kernel
theorem dX6_readCell_14 : decode cX6_readCell 14 = .ok (.aload_n 0, 1) := by decide +kernel
theorem dX6_readCell_15 : decode cX6_readCell 15 = .ok (.getfield 130, 3) := by decide +kernel
theorem dX6_readCell_18 : decode cX6_readCell 18 = .ok (.invokevirtual 68, 3) := by decide +kernel
theorem dX6_readCell_21 : decode cX6_readCell 21 = .ok (.return_, 1) := by decide +kernel
theorem dX6_readCell_22 : decode cX6_readCell 22 = .ok (.aload_n 0, 1) := by decide +kernel
theorem dX6_readCell_23 : decode cX6_readCell 23 = .ok (.invokevirtual 23, 3) := by decide +kernel
theorem dX6_readCell_26 : decode cX6_readCell 26 = .ok (.aload_n 0, 1) := by decide +kernel
theorem dX6_readCell_27 : decode cX6_readCell 27 = .ok (.getfield 65, 3) := by decide +kernel
theorem dX6_readCell_30 : decode cX6_readCell 30 = .ok (.aload_n 0, 1) := by decide +kernel
theorem dX6_readCell_31 : decode cX6_readCell 31 = .ok (.getfield 130, 3) := by decide +kernel
theorem dX6_readCell_34 : decode cX6_readCell 34 = .ok (.isub, 1) := by decide +kernel
theorem dX6_readCell_35 : decode cX6_readCell 35 = .ok (.bipush 6, 2) := by decide +kernel
theorem dX6_readCell_37 : decode cX6_readCell 37 = .ok (.if_icmp .le 7, 3) := by decide +kernel
theorem dX6_readCell_40 : decode cX6_readCell 40 = .ok (.iconst 1, 1) := by decide +kernel
theorem dX6_readCell_41 : decode cX6_readCell 41 = .ok (.goto 4, 3) := by decide +kernel
theorem dX6_readCell_44 : decode cX6_readCell 44 = .ok (.iconst 0, 1) := by decide +kernel
theorem dX6_readCell_45 : decode cX6_readCell 45 = .ok (.istore_n 1, 1) := by decide +kernel
theorem dX6_readCell_46 : decode cX6_readCell 46 = .ok (.aload_n 0, 1) := by decide +kernel
theorem dX6_readCell_47 : decode cX6_readCell 47 = .ok (.getfield 19, 3) := by decide +kernel
theorem dX6_readCell_50 : decode cX6_readCell 50 = .ok (.getfield 133, 3) := by decide +kernel
theorem dX6_readCell_53 : decode cX6_readCell 53 = .ok (.aload_n 0, 1) := by decide +kernel
theorem dX6_readCell_54 : decode cX6_readCell 54 = .ok (.getfield 9, 3) := by decide +kernel
theorem dX6_readCell_57 : decode cX6_readCell 57 = .ok (.aload_n 0, 1) := by decide +kernel
theorem dX6_readCell_58 : decode cX6_readCell 58 = .ok (.getfield 130, 3) := by decide +kernel
theorem dX6_readCell_61 : decode cX6_readCell 61 = .ok (.aload_n 0, 1) := by decide +kernel
theorem dX6_readCell_62 : decode cX6_readCell 62 = .ok (.getfield 65, 3) := by decide +kernel
theorem dX6_readCell_65 : decode cX6_readCell 65 = .ok (.invokestatic 142, 3) := by decide +kernel
theorem dX6_readCell_68 : decode cX6_readCell 68 = .ok (.invokevirtual 146, 3) := by decide +kernel
theorem dX6_readCell_71 : decode cX6_readCell 71 = .ok (.istore_n 2, 1) := by decide +kernel
theorem dX6_readCell_72 : decode cX6_readCell 72 = .ok (.iload_n 1, 1) := by decide +kernel
theorem dX6_readCell_73 : decode cX6_readCell 73 = .ok (.ifCond .ne 8, 3) := by decide +kernel
theorem dX6_readCell_76 : decode cX6_readCell 76 = .ok (.iload_n 2, 1) := by decide +kernel
theorem dX6_readCell_77 : decode cX6_readCell 77 = .ok (.iconst (-1), 1) := by decide +kernel
theorem dX6_readCell_78 : decode cX6_readCell 78 = .ok (.if_icmp .ne 13, 3) := by decide +kernel
theorem dX6_readCell_81 : decode cX6_readCell 81 = .ok (.aload_n 0, 1) := by decide +kernel
theorem dX6_readCell_82 : decode cX6_readCell 82 = .ok (.iconst 3, 1) := by decide +kernel
theorem dX6_readCell_83 : decode cX6_readCell 83 = .ok (.aload_n 0, 1) := by decide +kernel
theorem dX6_readCell_84 : decode cX6_readCell 84 = .ok (.getfield 130, 3) := by decide +kernel
theorem dX6_readCell_87 : decode cX6_readCell 87 = .ok (.invokevirtual 68, 3) := by decide +kernel
theorem dX6_readCell_90 : decode cX6_readCell 90 = .ok (.return_, 1) := by decide +kernel
theorem dX6_readCell_91 : decode cX6_readCell 91 = .ok (.aload_n 0, 1) := by decide +kernel
theorem dX6_readCell_92 : decode cX6_readCell 92 = .ok (.getfield 19, 3) := by decide +kernel
theorem dX6_readCell_95 : decode cX6_readCell 95 = .ok (.dup, 1) := by decide +kernel
theorem dX6_readCell_96 : decode cX6_readCell 96 = .ok (.getfield 162, 3) := by decide +kernel
theorem dX6_readCell_99 : decode cX6_readCell 99 = .ok (.iconst 1, 1) := by decide +kernel
theorem dX6_readCell_100 : decode cX6_readCell 100 = .ok (.iadd, 1) := by decide +kernel
theorem dX6_readCell_101 : decode cX6_readCell 101 = .ok (.putfield 162, 3) := by decide +kernel
theorem dX6_readCell_104 : decode cX6_readCell 104 = .ok (.aload_n 0, 1) := by decide +kernel
theorem dX6_readCell_105 : decode cX6_readCell 105 = .ok (.getfield 19, 3) := by decide +kernel
theorem dX6_readCell_108 : decode cX6_readCell 108 = .ok (.aload_n 0, 1) := by decide +kernel
theorem dX6_readCell_109 : decode cX6_readCell 109 = .ok (.getfield 19, 3) := by decide +kernel
theorem dX6_readCell_112 : decode cX6_readCell 112 = .ok (.getfield 162, 3) := by decide +kernel
theorem dX6_readCell_115 : decode cX6_readCell 115 = .ok (.iconst 1, 1) := by decide +kernel
theorem dX6_readCell_116 : decode cX6_readCell 116 = .ok (.isub, 1) := by decide +kernel
theorem dX6_readCell_117 : decode cX6_readCell 117 = .ok (.invokevirtual 165, 3) := by decide +kernel
theorem dX6_readCell_120 : decode cX6_readCell 120 = .ok (.astore_n 3, 1) := by decide +kernel
theorem dX6_readCell_121 : decode cX6_readCell 121 = .ok (.aload_n 3, 1) := by decide +kernel
theorem dX6_readCell_122 : decode cX6_readCell 122 = .ok (.ifnull 74, 3) := by decide +kernel
theorem dX6_readCell_125 : decode cX6_readCell 125 = .ok (.aload_n 3, 1) := by decide +kernel
theorem dX6_readCell_126 : decode cX6_readCell 126 = .ok (.getfield 169, 3) := by decide +kernel
theorem dX6_readCell_129 : decode cX6_readCell 129 = .ok (.astore 4, 2) := by decide +kernel
theorem dX6_readCell_131 : decode cX6_readCell 131 = .ok (.aload 4, 2) := by decide +kernel
theorem dX6_readCell_133 : decode cX6_readCell 133 = .ok (.aload_n 0, 1) := by decide +kernel
theorem dX6_readCell_134 : decode cX6_readCell 134 = .ok (.getfield 19, 3) := by decide +kernel
theorem dX6_readCell_137 : decode cX6_readCell 137 = .ok (.getfield 133, 3) := by decide +kernel
theorem dX6_readCell_140 : decode cX6_readCell 140 = .ok (.iload_n 2, 1) := by decide +kernel
theorem dX6_readCell_141 : decode cX6_readCell 141 = .ok (.invokevirtual 174, 3) := by decide +kernel
theorem dX6_readCell_144 : decode cX6_readCell 144 = .ok (.aload 4, 2) := by decide +kernel
theorem dX6_readCell_146 : decode cX6_readCell 146 = .ok (.aload_n 0, 1) := by decide +kernel
theorem dX6_readCell_147 : decode cX6_readCell 147 = .ok (.bipush 100, 2) := by decide +kernel
theorem dX6_readCell_149 : decode cX6_readCell 149 = .ok (.ldc 180, 2) := by decide +kernel
theorem dX6_readCell_151 : decode cX6_readCell 151 = .ok (.invokevirtual 74, 3) := by decide +kernel
theorem dX6_readCell_154 : decode cX6_readCell 154 = .ok (.putfield 181, 3) := by decide +kernel
theorem dX6_readCell_157 : decode cX6_readCell 157 = .ok (.aload 4, 2) := by decide +kernel
theorem dX6_readCell_159 : decode cX6_readCell 159 = .ok (.aload_n 0, 1) := by decide +kernel
theorem dX6_readCell_160 : decode cX6_readCell 160 = .ok (.iconst 1, 1) := by decide +kernel
theorem dX6_readCell_161 : decode cX6_readCell 161 = .ok (.sipush 500, 3) := by decide +kernel
theorem dX6_readCell_164 : decode cX6_readCell 164 = .ok (.invokevirtual 74, 3) := by decide +kernel
theorem dX6_readCell_167 : decode cX6_readCell 167 = .ok (.putfield 184, 3) := by decide +kernel
theorem dX6_readCell_170 : decode cX6_readCell 170 = .ok (.aload 4, 2) := by decide +kernel
theorem dX6_readCell_172 : decode cX6_readCell 172 = .ok (.aload_n 0, 1) := by decide +kernel
theorem dX6_readCell_173 : decode cX6_readCell 173 = .ok (.iconst 0, 1) := by decide +kernel
theorem dX6_readCell_174 : decode cX6_readCell 174 = .ok (.sipush 500, 3) := by decide +kernel
theorem dX6_readCell_177 : decode cX6_readCell 177 = .ok (.invokevirtual 74, 3) := by decide +kernel
theorem dX6_readCell_180 : decode cX6_readCell 180 = .ok (.putfield 187, 3) := by decide +kernel
theorem dX6_readCell_183 : decode cX6_readCell 183 = .ok (.aload 4, 2) := by decide +kernel
theorem dX6_readCell_185 : decode cX6_readCell 185 = .ok (.aload_n 0, 1) := by decide +kernel
theorem dX6_readCell_186 : decode cX6_readCell 186 = .ok (.iconst 1, 1) := by decide +kernel
theorem dX6_readCell_187 : decode cX6_readCell 187 = .ok (.sipush 200, 3) := by decide +kernel
theorem dX6_readCell_190 : decode cX6_readCell 190 = .ok (.invokevirtual 74, 3) := by decide +kernel
theorem dX6_readCell_193 : decode cX6_readCell 193 = .ok (.putfield 190, 3) := by decide +kernel
theorem dX6_readCell_196 : decode cX6_readCell 196 = .ok (.return_, 1) := by decide +kernel
set_option maxRecDepth 100000 in
set_option maxHeartbeats 4000000 in
theorem t_X6_readCell (l : Launch) (D : va_G) (ct : Nat → ClassId) (S : ty_S) (ws : va_W) (rd : Nat) (bt : Nat) (tg : Nat) (nb : Nat) (ln : Int32) (pl : Int32) (wst : Int32) (er : Int32) (ep : Int32) (sz : Nat) (hT : ty_W ct S ws) (h_bt : S bt = some (.inr (0, nb))) (h_tg : S tg = some (.inl 9)) : Met l yX6_readCell (ws_ yX6_readCell cX6_readCell 5 none) ({ frames := 3, cells := 0, slots := 0, locals := 66 } : Room) (va_Pc [.ref rd] (cmP D ct sz ([(rd, .inr (6, [.ref bt, .int ln, .ref tg, .int pl, .int wst, .int er, .int ep]))] ++ ws))) (va_Qv (fun (u : va_W × Int32 × Int32 × Int32 × Int32) => match u with | (u9, pl1, ws1, er1, ep1) => ty_W ct S u9) (cmB D ([(rd, .inr (6, [.ref bt, .int ln, .ref tg, .int pl, .int wst, .int er, .int ep]))] ++ ws) sz (fun (u : va_W × Int32 × Int32 × Int32 × Int32) => match u with | (u9, pl1, ws1, er1, ep1) => ([(rd, .inr (6, [.ref bt, .int ln, .ref tg, .int pl1, .int ws1, .int er1, .int ep1]))] ++ u9))) (va_A ([(rd, .inr (6, [.ref bt, .int ln, .ref tg, .int pl, .int wst, .int er, .int ep]))] ++ ws) sz)) 0 0 (va_A ([(rd, .inr (6, [.ref bt, .int ln, .ref tg, .int pl, .int wst, .int er, .int ep]))] ++ ws) sz) := by
  refine Met.ofW (cc := cX6_readCell) (maxL := 5) (ret := none) (by decide) rfl ?_
  intro p e s m args below meth c s₁ B hml hv
  obtain ⟨rfl, hsz, hP, hK, hD0, hX⟩ := hv
  have hx := B.exec
  have hb := B.bytes
  have hr := B.returns
  have hts := ws_all (atoms_spec (ws := ws_ yX6_readCell cX6_readCell 5 none) B.pre)
  have hown : s.vm.findClass RX6 = some m.cls := findClass_of_methodNamed B.named
  have hlocks := B.notSynchronized
  subst hsz
  have hD := hD0.self (sz := s.heap.size)
  generalize hAe : va_A ([(rd, .inr (6, [.ref bt, .int ln, .ref tg, .int pl, .int wst, .int er, .int ep]))] ++ ws) s.heap.size = A at hD hX ⊢
  have hA : ∀ q : Nat, s.heap.size ≤ q → A q := fun q h => by rw [← hAe]; exact Or.inr h
  have hS : va_S A s.heap s.heap [] := va_S.rf
  have hl := lv_entry ([.ref rd]) (n := 5) (Nat.le_of_ble_eq_true rfl)
  rw [lg_entry_eq]
  generalize (lg_sl ([.ref rd]) ++ List.replicate (5 - (lg_sl ([.ref rd])).length) Slot.unset).toArray = ls at hl ⊢
  have hl : lv_has ls 5 [(0, .ref rd)] := hl
  refine lv_aload_n hx hb dX6_readCell_0 rfl (lv_at hl 0 rfl) ?_
  refine va_get (v := .ref tg) (D := D) (ci := 6) (C := RX6) (T := TX6) (N := 7) hx hb hts in_X6 hown hK hP 0 rfl rfl 2 (by decide) (hts _ kl_RX6_19) (fun _ h9 => h9) rfl dX6_readCell_1 ?_
  refine ty_getN (E := [(rd, .inr (6, [.ref bt, .int ln, .ref tg, .int pl, .int wst, .int er, .int ep]))]) (ws := ws) (D := D) (ci := 9) (C := RX9) (T := TX9) (N := 8) hx hb hts in_X9 hown hK hP hT h_tg rfl 4 (by decide) (hts _ kl_RX6_162) (fun _ h9 => h9) rfl dX6_readCell_4 (fun _ hv_1 hf_2 => ?_)
  obtain ⟨x_3, rfl⟩ := hv_1
  refine lv_bipush (v := 6) hx hb dX6_readCell_7 (by decide) ?_
  refine lv_icmp_lt (tgt := 22) hx hb dX6_readCell_9 (by decide) (fun hc_4 => ?_) (fun hc_4 => ?_)
  · refine lv_aload_n hx hb dX6_readCell_22 rfl (lv_at hl 0 rfl) ?_
    refine ty_kv (wr := []) (wc := ([(rd, .inr (6, [.ref bt, .int ln, .ref tg, .int pl, .int wst, .int er, .int ep]))] ++ ws)) (va_runV (As := []) (rest := []) ⟨hx, hb, hml, hown, hts⟩ (t_X6_readWord l D ct S ws rd bt tg nb ln pl wst er ep _ hT h_bt h_tg) (cm_V 0 hts kc_X6_readWord ki_RX6 kl_RX6_23 kv_X6_readWord kx_X6_readWord kd_X6_readWord ⟨Nat.le_of_ble_eq_true rfl, Nat.le_of_ble_eq_true rfl⟩) (ty_preE (wr := []) (wc := ([(rd, .inr (6, [.ref bt, .int ln, .ref tg, .int pl, .int wst, .int er, .int ep]))] ++ ws)) (ci := 6) (q0 := 0) hP hK hD hS hA hX rfl rfl) rfl rfl hl.1 rfl (lv_room (Nat.le_of_ble_eq_true rfl)) dX6_readCell_23 ⟨Nat.le_of_ble_eq_true rfl, Nat.le_of_ble_eq_true rfl⟩) hP hD hS hA (fun u H locs hw_6 hP hD hS => ?_)
    obtain ⟨ws_7, pl1_8, ws1_9, er1_10, ep1_11⟩ := u
    have hT := hw_6
    have hP : va_P D vwCl ([(rd, .inr (6, [.ref bt, .int ln, .ref tg, .int pl1_8, .int ws1_9, .int er1_10, .int ep1_11]))] ++ ws_7) H := hP
    have hD : va_D A ([(rd, .inr (6, [.ref bt, .int ln, .ref tg, .int pl1_8, .int ws1_9, .int er1_10, .int ep1_11]))] ++ ws_7) := hD
    refine lv_aload_n hx hb dX6_readCell_26 rfl (lv_at hl 0 rfl) ?_
    refine va_get (v := .int pl1_8) (D := D) (ci := 6) (C := RX6) (T := TX6) (N := 7) hx hb hts in_X6 hown hK hP 0 rfl rfl 3 (by decide) (hts _ kl_RX6_65) (fun _ h9 => h9) rfl dX6_readCell_27 ?_
    refine lv_aload_n hx hb dX6_readCell_30 rfl (lv_at hl 0 rfl) ?_
    refine va_get (v := .int ws1_9) (D := D) (ci := 6) (C := RX6) (T := TX6) (N := 7) hx hb hts in_X6 hown hK hP 0 rfl rfl 4 (by decide) (hts _ kl_RX6_130) (fun _ h9 => h9) rfl dX6_readCell_31 ?_
    refine lv_isub hx hb dX6_readCell_34 ?_
    refine lv_topi (fun x_12 _ => ?_)
    refine lv_bipush (v := 6) hx hb dX6_readCell_35 (by decide) ?_
    refine lv_icmp_le (tgt := 44) hx hb dX6_readCell_37 (by decide) (fun hc_13 => ?_) (fun hc_13 => ?_)
    · refine lv_iconst (v := 0) hx hb dX6_readCell_44 (by decide) ?_
      refine lv_istore_n (lv' := [(1, .int 0), (0, .ref rd)]) hx hb dX6_readCell_45 rfl hl (by decide) rfl (fun ls hl => ?_)
      refine lv_aload_n hx hb dX6_readCell_46 rfl (lv_at hl 1 rfl) ?_
      refine va_get (v := .ref tg) (D := D) (ci := 6) (C := RX6) (T := TX6) (N := 7) hx hb hts in_X6 hown hK hP 0 rfl rfl 2 (by decide) (hts _ kl_RX6_19) (fun _ h9 => h9) rfl dX6_readCell_47 ?_
      refine ty_getN (E := [(rd, .inr (6, [.ref bt, .int ln, .ref tg, .int pl1_8, .int ws1_9, .int er1_10, .int ep1_11]))]) (ws := ws_7) (D := D) (ci := 9) (C := RX9) (T := TX9) (N := 8) hx hb hts in_X9 hown hK hP hT h_tg rfl 2 (by decide) (hts _ kl_RX6_133) (fun _ h9 => h9) rfl dX6_readCell_50 (fun _ hv_14 hf_15 => ?_)
      obtain ⟨a_16, rfl, ha_17⟩ := hv_14
      refine lv_aload_n hx hb dX6_readCell_53 rfl (lv_at hl 1 rfl) ?_
      refine va_get (v := .ref bt) (D := D) (ci := 6) (C := RX6) (T := TX6) (N := 7) hx hb hts in_X6 hown hK hP 0 rfl rfl 0 (by decide) (hts _ kl_RX6_9) (fun _ h9 => h9) rfl dX6_readCell_54 ?_
      refine lv_aload_n hx hb dX6_readCell_57 rfl (lv_at hl 1 rfl) ?_
      refine va_get (v := .int ws1_9) (D := D) (ci := 6) (C := RX6) (T := TX6) (N := 7) hx hb hts in_X6 hown hK hP 0 rfl rfl 4 (by decide) (hts _ kl_RX6_130) (fun _ h9 => h9) rfl dX6_readCell_58 ?_
      refine lv_aload_n hx hb dX6_readCell_61 rfl (lv_at hl 1 rfl) ?_
      refine va_get (v := .int pl1_8) (D := D) (ci := 6) (C := RX6) (T := TX6) (N := 7) hx hb hts in_X6 hown hK hP 0 rfl rfl 3 (by decide) (hts _ kl_RX6_65) (fun _ h9 => h9) rfl dX6_readCell_62 ?_
      refine ty_kl (wr := [(rd, .inr (6, [.ref bt, .int ln, .ref tg, .int pl1_8, .int ws1_9, .int er1_10, .int ep1_11]))]) (wc := ([] ++ ws_7)) (va_runSN (As := [.ref bt, .int ws1_9, .int pl1_8]) (rest := [.ref a_16]) ⟨hx, hb, hml, hown, hts⟩ (t_X10_nameCode l D ct S ws_7 bt nb ws1_9 pl1_8 _ hT h_bt) (cm_SN 3 hts kc_X10_nameCode ki_RX10 kl_RX6_142 ks_X10_nameCode kd_X10_nameCode ⟨Nat.le_of_ble_eq_true rfl, Nat.le_of_ble_eq_true rfl⟩) (ty_preS (wr := [(rd, .inr (6, [.ref bt, .int ln, .ref tg, .int pl1_8, .int ws1_9, .int er1_10, .int ep1_11]))]) (wc := ([] ++ ws_7)) hP hK hD hS hA hX) rfl rfl hl.1 rfl (lv_room (Nat.le_of_ble_eq_true rfl)) dX6_readCell_65 ⟨Nat.le_of_ble_eq_true rfl, Nat.le_of_ble_eq_true rfl⟩) hP hD hS hA (fun r_18 u H locs hw_19 hP hD hS => ?_)
      obtain ⟨ws_20, rfl⟩ : ∃ z, z = u := ⟨_, rfl⟩
      have hT := hw_19
      have hP : va_P D vwCl ([(rd, .inr (6, [.ref bt, .int ln, .ref tg, .int pl1_8, .int ws1_9, .int er1_10, .int ep1_11]))] ++ ws_20) H := hP
      have hD : va_D A ([(rd, .inr (6, [.ref bt, .int ln, .ref tg, .int pl1_8, .int ws1_9, .int er1_10, .int ep1_11]))] ++ ws_20) := hD
      refine ty_ki (wr := [(rd, .inr (6, [.ref bt, .int ln, .ref tg, .int pl1_8, .int ws1_9, .int er1_10, .int ep1_11]))]) (wc := ([] ++ ws_20)) (va_runVN (As := [.long r_18]) (rest := []) ⟨hx, hb, hml, hown, hts⟩ (t_X2_find l D ct S ws_20 a_16 r_18 _ hT ha_17) (cm_VN 1 hts kc_X2_find ki_RX2 kl_RX6_146 kv_X2_find kx_X2_find kd_X2_find ⟨Nat.le_of_ble_eq_true rfl, Nat.le_of_ble_eq_true rfl⟩) (ty_preV (wr := [(rd, .inr (6, [.ref bt, .int ln, .ref tg, .int pl1_8, .int ws1_9, .int er1_10, .int ep1_11]))]) (E := []) (ws := ws_20) (ci := 2) hP hK hD hS hA hX hT rfl ha_17) rfl rfl hl.1 rfl (lv_room (Nat.le_of_ble_eq_true rfl)) dX6_readCell_68 ⟨Nat.le_of_ble_eq_true rfl, Nat.le_of_ble_eq_true rfl⟩) hP hD hS hA (fun r_21 u H locs hw_22 hP hD hS => ?_)
      obtain ⟨ws_23, rfl⟩ : ∃ z, z = u := ⟨_, rfl⟩
      have hT := hw_22
      have hP : va_P D vwCl ([(rd, .inr (6, [.ref bt, .int ln, .ref tg, .int pl1_8, .int ws1_9, .int er1_10, .int ep1_11]))] ++ ws_23) H := hP
      have hD : va_D A ([(rd, .inr (6, [.ref bt, .int ln, .ref tg, .int pl1_8, .int ws1_9, .int er1_10, .int ep1_11]))] ++ ws_23) := hD
      refine lv_istore_n (lv' := [(2, .int r_21), (1, .int 0), (0, .ref rd)]) hx hb dX6_readCell_71 rfl hl (by decide) rfl (fun ls hl => ?_)
      refine lv_iload_n hx hb dX6_readCell_72 rfl (lv_at hl 1 rfl) ?_
      refine lv_if_ne (tgt := 81) hx hb dX6_readCell_73 (by decide) (fun hc => absurd (by decide) hc) (fun _ => ?_)
      refine lv_iload_n hx hb dX6_readCell_76 rfl (lv_at hl 0 rfl) ?_
      refine lv_iconst (v := (-1)) hx hb dX6_readCell_77 (by decide) ?_
      refine lv_icmp_ne (tgt := 91) hx hb dX6_readCell_78 (by decide) (fun hc_24 => ?_) (fun hc_24 => ?_)
      · refine lv_aload_n hx hb dX6_readCell_91 rfl (lv_at hl 2 rfl) ?_
        refine va_get (v := .ref tg) (D := D) (ci := 6) (C := RX6) (T := TX6) (N := 7) hx hb hts in_X6 hown hK hP 0 rfl rfl 2 (by decide) (hts _ kl_RX6_19) (fun _ h9 => h9) rfl dX6_readCell_92 ?_
        refine lv_dup hx hb dX6_readCell_95 rfl ?_
        refine ty_getN (E := [(rd, .inr (6, [.ref bt, .int ln, .ref tg, .int pl1_8, .int ws1_9, .int er1_10, .int ep1_11]))]) (ws := ws_23) (D := D) (ci := 9) (C := RX9) (T := TX9) (N := 8) hx hb hts in_X9 hown hK hP hT h_tg rfl 4 (by decide) (hts _ kl_RX6_162) (fun _ h9 => h9) rfl dX6_readCell_96 (fun _ hv_25 hf_26 => ?_)
        obtain ⟨x_27, rfl⟩ := hv_25
        refine lv_iconst (v := 1) hx hb dX6_readCell_99 (by decide) ?_
        refine lv_iadd hx hb dX6_readCell_100 ?_
        refine lv_topi (fun x_28 _ => ?_)
        refine ty_putN (v := .int x_28) (ty := .int) (E := [(rd, .inr (6, [.ref bt, .int ln, .ref tg, .int pl1_8, .int ws1_9, .int er1_10, .int ep1_11]))]) (ws := ws_23) (D := D) (ci := 9) (C := RX9) (T := TX9) (N := 8) hx hb hts in_X9 tyX9 tyX9_ok nmX9 hown hK hP hD hS hT h_tg rfl 4 (by decide) (hts _ kl_RX6_162) (fun _ h9 => h9) rfl (by decide +kernel) rfl rfl rfl ⟨_, rfl⟩ dX6_readCell_101 (fun ws_29 H locs hT hP hD hS => ?_)
        refine lv_aload_n hx hb dX6_readCell_104 rfl (lv_at hl 2 rfl) ?_
        refine va_get (v := .ref tg) (D := D) (ci := 6) (C := RX6) (T := TX6) (N := 7) hx hb hts in_X6 hown hK hP 0 rfl rfl 2 (by decide) (hts _ kl_RX6_19) (fun _ h9 => h9) rfl dX6_readCell_105 ?_
        refine lv_aload_n hx hb dX6_readCell_108 rfl (lv_at hl 2 rfl) ?_
        refine va_get (v := .ref tg) (D := D) (ci := 6) (C := RX6) (T := TX6) (N := 7) hx hb hts in_X6 hown hK hP 0 rfl rfl 2 (by decide) (hts _ kl_RX6_19) (fun _ h9 => h9) rfl dX6_readCell_109 ?_
        refine ty_getN (E := [(rd, .inr (6, [.ref bt, .int ln, .ref tg, .int pl1_8, .int ws1_9, .int er1_10, .int ep1_11]))]) (ws := ws_29) (D := D) (ci := 9) (C := RX9) (T := TX9) (N := 8) hx hb hts in_X9 hown hK hP hT h_tg rfl 4 (by decide) (hts _ kl_RX6_162) (fun _ h9 => h9) rfl dX6_readCell_112 (fun _ hv_30 hf_31 => ?_)
        obtain ⟨x_32, rfl⟩ := hv_30
        refine lv_iconst (v := 1) hx hb dX6_readCell_115 (by decide) ?_
        refine lv_isub hx hb dX6_readCell_116 ?_
        refine lv_topi (fun x_33 _ => ?_)
        refine ty_kq (wr := [(rd, .inr (6, [.ref bt, .int ln, .ref tg, .int pl1_8, .int ws1_9, .int er1_10, .int ep1_11]))]) (wc := ([] ++ ws_29)) (va_runVN (As := [.int x_33]) (rest := []) ⟨hx, hb, hml, hown, hts⟩ (t_X9_channelAt l D ct S ws_29 tg x_33 _ hT h_tg) (cm_VN 1 hts kc_X9_channelAt ki_RX9 kl_RX6_165 kv_X9_channelAt kx_X9_channelAt kd_X9_channelAt ⟨Nat.le_of_ble_eq_true rfl, Nat.le_of_ble_eq_true rfl⟩) (ty_preV (wr := [(rd, .inr (6, [.ref bt, .int ln, .ref tg, .int pl1_8, .int ws1_9, .int er1_10, .int ep1_11]))]) (E := []) (ws := ws_29) (ci := 9) hP hK hD hS hA hX hT rfl h_tg) rfl rfl hl.1 rfl (lv_room (Nat.le_of_ble_eq_true rfl)) dX6_readCell_117 ⟨Nat.le_of_ble_eq_true rfl, Nat.le_of_ble_eq_true rfl⟩) hP hD hS hA (fun r_34 u H locs hw_35 hP hD hS => ?_)
        obtain ⟨ws_36, rfl⟩ : ∃ z, z = u := ⟨_, rfl⟩
        obtain ⟨hT, hq_37⟩ := hw_35
        have hP : va_P D vwCl ([(rd, .inr (6, [.ref bt, .int ln, .ref tg, .int pl1_8, .int ws1_9, .int er1_10, .int ep1_11]))] ++ ws_36) H := hP
        have hD : va_D A ([(rd, .inr (6, [.ref bt, .int ln, .ref tg, .int pl1_8, .int ws1_9, .int er1_10, .int ep1_11]))] ++ ws_36) := hD
        rcases hq_37 with rfl | ⟨a_38, rfl, ha_39⟩
        · refine W.eq (g2 := F0 m 120 ls (.null :: [])) rfl ?_
          refine lv_astore_nN (lv' := [(3, .null), (2, .int r_21), (1, .int 0), (0, .ref rd)]) hx hb dX6_readCell_120 rfl hl (by decide) rfl (fun ls hl => ?_)
          refine lv_aload_nN hx hb dX6_readCell_121 rfl (lv_at hl 0 rfl) ?_
          refine lv_ifnullN (tgt := 196) hx hb dX6_readCell_122 (by decide) ?_
          exact W.vret hx hb hr (fun t ht hW => ⟨⟨(ws_36, pl1_8, ws1_9, er1_10, ep1_11), rfl, hT, by rw [ht]; exact hP, by rw [hAe]; exact hD⟩, hS.F ht⟩) hS.2.2 dX6_readCell_196
        · refine W.eq (g2 := F0 m 120 ls (.ref a_38 :: [])) rfl ?_
          refine lv_astore_n (lv' := [(3, .ref a_38), (2, .int r_21), (1, .int 0), (0, .ref rd)]) hx hb dX6_readCell_120 rfl hl (by decide) rfl (fun ls hl => ?_)
          refine lv_aload_n hx hb dX6_readCell_121 rfl (lv_at hl 0 rfl) ?_
          refine lv_ifnull hx hb dX6_readCell_122 ?_
          refine lv_aload_n hx hb dX6_readCell_125 rfl (lv_at hl 0 rfl) ?_
          refine ty_getN (E := [(rd, .inr (6, [.ref bt, .int ln, .ref tg, .int pl1_8, .int ws1_9, .int er1_10, .int ep1_11]))]) (ws := ws_36) (D := D) (ci := 1) (C := RX1) (T := TX1) (N := 14) hx hb hts in_X1 hown hK hP hT ha_39 rfl 1 (by decide) (hts _ kl_RX6_169) (fun _ h9 => h9) rfl dX6_readCell_126 (fun _ hv_40 hf_41 => ?_)
          obtain ⟨a_42, rfl, ha_43⟩ := hv_40
          refine lv_astore (lv' := [(4, .ref a_42), (3, .ref a_38), (2, .int r_21), (1, .int 0), (0, .ref rd)]) hx hb dX6_readCell_129 hl (by decide) rfl (fun ls hl => ?_)
          refine lv_aload hx hb dX6_readCell_131 (lv_at hl 0 rfl) ?_
          refine lv_aload_n hx hb dX6_readCell_133 rfl (lv_at hl 4 rfl) ?_
          refine va_get (v := .ref tg) (D := D) (ci := 6) (C := RX6) (T := TX6) (N := 7) hx hb hts in_X6 hown hK hP 0 rfl rfl 2 (by decide) (hts _ kl_RX6_19) (fun _ h9 => h9) rfl dX6_readCell_134 ?_
          refine ty_getN (E := [(rd, .inr (6, [.ref bt, .int ln, .ref tg, .int pl1_8, .int ws1_9, .int er1_10, .int ep1_11]))]) (ws := ws_36) (D := D) (ci := 9) (C := RX9) (T := TX9) (N := 8) hx hb hts in_X9 hown hK hP hT h_tg rfl 2 (by decide) (hts _ kl_RX6_133) (fun _ h9 => h9) rfl dX6_readCell_137 (fun _ hv_44 hf_45 => ?_)
          obtain ⟨a_46, rfl, ha_47⟩ := hv_44
          refine lv_iload_n hx hb dX6_readCell_140 rfl (lv_at hl 2 rfl) ?_
          refine ty_kv (wr := [(rd, .inr (6, [.ref bt, .int ln, .ref tg, .int pl1_8, .int ws1_9, .int er1_10, .int ep1_11]))]) (wc := ([] ++ ws_36)) (va_runVN (As := [.ref a_46, .int r_21]) (rest := []) ⟨hx, hb, hml, hown, hts⟩ (t_X0_takeCurve l D ct S ws_36 a_42 a_46 r_21 _ hT ha_43 ha_47) (cm_VN 2 hts kc_X0_takeCurve ki_RX0 kl_RX6_174 kv_X0_takeCurve kx_X0_takeCurve kd_X0_takeCurve ⟨Nat.le_of_ble_eq_true rfl, Nat.le_of_ble_eq_true rfl⟩) (ty_preV (wr := [(rd, .inr (6, [.ref bt, .int ln, .ref tg, .int pl1_8, .int ws1_9, .int er1_10, .int ep1_11]))]) (E := []) (ws := ws_36) (ci := 0) hP hK hD hS hA hX hT rfl ha_43) rfl rfl hl.1 rfl (lv_room (Nat.le_of_ble_eq_true rfl)) dX6_readCell_141 ⟨Nat.le_of_ble_eq_true rfl, Nat.le_of_ble_eq_true rfl⟩) hP hD hS hA (fun u H locs hw_49 hP hD hS => ?_)
          obtain ⟨ws_50, rfl⟩ : ∃ z, z = u := ⟨_, rfl⟩
          have hT := hw_49
          have hP : va_P D vwCl ([(rd, .inr (6, [.ref bt, .int ln, .ref tg, .int pl1_8, .int ws1_9, .int er1_10, .int ep1_11]))] ++ ws_50) H := hP
          have hD : va_D A ([(rd, .inr (6, [.ref bt, .int ln, .ref tg, .int pl1_8, .int ws1_9, .int er1_10, .int ep1_11]))] ++ ws_50) := hD
          refine lv_aload hx hb dX6_readCell_144 (lv_at hl 0 rfl) ?_
          refine lv_aload_n hx hb dX6_readCell_146 rfl (lv_at hl 4 rfl) ?_
          refine lv_bipush (v := 100) hx hb dX6_readCell_147 (by decide) ?_
          refine lv_ldc hx hb hown (hts _ kl_RX6_180) dX6_readCell_149 ?_
          refine ty_ki (wr := []) (wc := ([(rd, .inr (6, [.ref bt, .int ln, .ref tg, .int pl1_8, .int ws1_9, .int er1_10, .int ep1_11]))] ++ ws_50)) (va_runV (As := [.int 100, .int 100000]) (rest := [.ref a_42]) ⟨hx, hb, hml, hown, hts⟩ (t_X6_readNumber l D ct S ws_50 rd bt tg nb ln pl1_8 ws1_9 er1_10 ep1_11 (100 : Int32) (100000 : Int32) _ hT h_bt h_tg) (cm_V 2 hts kc_X6_readNumber ki_RX6 kl_RX6_74 kv_X6_readNumber kx_X6_readNumber kd_X6_readNumber ⟨Nat.le_of_ble_eq_true rfl, Nat.le_of_ble_eq_true rfl⟩) (ty_preE (wr := []) (wc := ([(rd, .inr (6, [.ref bt, .int ln, .ref tg, .int pl1_8, .int ws1_9, .int er1_10, .int ep1_11]))] ++ ws_50)) (ci := 6) (q0 := 0) hP hK hD hS hA hX rfl rfl) rfl rfl hl.1 rfl (lv_room (Nat.le_of_ble_eq_true rfl)) dX6_readCell_151 ⟨Nat.le_of_ble_eq_true rfl, Nat.le_of_ble_eq_true rfl⟩) hP hD hS hA (fun r_51 u H locs hw_52 hP hD hS => ?_)
          obtain ⟨ws_53, pl1_54, ws1_55, er1_56, ep1_57⟩ := u
          have hT := hw_52
          have hP : va_P D vwCl ([(rd, .inr (6, [.ref bt, .int ln, .ref tg, .int pl1_54, .int ws1_55, .int er1_56, .int ep1_57]))] ++ ws_53) H := hP
          have hD : va_D A ([(rd, .inr (6, [.ref bt, .int ln, .ref tg, .int pl1_54, .int ws1_55, .int er1_56, .int ep1_57]))] ++ ws_53) := hD
          refine ty_putN (v := .int r_51) (ty := .int) (E := [(rd, .inr (6, [.ref bt, .int ln, .ref tg, .int pl1_54, .int ws1_55, .int er1_56, .int ep1_57]))]) (ws := ws_53) (D := D) (ci := 0) (C := RX0) (T := TX0) (N := 16) hx hb hts in_X0 tyX0 tyX0_ok nmX0 hown hK hP hD hS hT ha_43 rfl 2 (by decide) (hts _ kl_RX6_181) (fun _ h9 => h9) rfl (by decide +kernel) rfl rfl rfl ⟨_, rfl⟩ dX6_readCell_154 (fun ws_58 H locs hT hP hD hS => ?_)
          refine lv_aload hx hb dX6_readCell_157 (lv_at hl 0 rfl) ?_
          refine lv_aload_n hx hb dX6_readCell_159 rfl (lv_at hl 4 rfl) ?_
          refine lv_iconst (v := 1) hx hb dX6_readCell_160 (by decide) ?_
          refine lv_sipush (v := 500) hx hb dX6_readCell_161 (by decide) ?_
          refine ty_ki (wr := []) (wc := ([(rd, .inr (6, [.ref bt, .int ln, .ref tg, .int pl1_54, .int ws1_55, .int er1_56, .int ep1_57]))] ++ ws_58)) (va_runV (As := [.int 1, .int 500]) (rest := [.ref a_42]) ⟨hx, hb, hml, hown, hts⟩ (t_X6_readNumber l D ct S ws_58 rd bt tg nb ln pl1_54 ws1_55 er1_56 ep1_57 (1 : Int32) (500 : Int32) _ hT h_bt h_tg) (cm_V 2 hts kc_X6_readNumber ki_RX6 kl_RX6_74 kv_X6_readNumber kx_X6_readNumber kd_X6_readNumber ⟨Nat.le_of_ble_eq_true rfl, Nat.le_of_ble_eq_true rfl⟩) (ty_preE (wr := []) (wc := ([(rd, .inr (6, [.ref bt, .int ln, .ref tg, .int pl1_54, .int ws1_55, .int er1_56, .int ep1_57]))] ++ ws_58)) (ci := 6) (q0 := 0) hP hK hD hS hA hX rfl rfl) rfl rfl hl.1 rfl (lv_room (Nat.le_of_ble_eq_true rfl)) dX6_readCell_164 ⟨Nat.le_of_ble_eq_true rfl, Nat.le_of_ble_eq_true rfl⟩) hP hD hS hA (fun r_59 u H locs hw_60 hP hD hS => ?_)
          obtain ⟨ws_61, pl1_62, ws1_63, er1_64, ep1_65⟩ := u
          have hT := hw_60
          have hP : va_P D vwCl ([(rd, .inr (6, [.ref bt, .int ln, .ref tg, .int pl1_62, .int ws1_63, .int er1_64, .int ep1_65]))] ++ ws_61) H := hP
          have hD : va_D A ([(rd, .inr (6, [.ref bt, .int ln, .ref tg, .int pl1_62, .int ws1_63, .int er1_64, .int ep1_65]))] ++ ws_61) := hD
          refine ty_putN (v := .int r_59) (ty := .int) (E := [(rd, .inr (6, [.ref bt, .int ln, .ref tg, .int pl1_62, .int ws1_63, .int er1_64, .int ep1_65]))]) (ws := ws_61) (D := D) (ci := 0) (C := RX0) (T := TX0) (N := 16) hx hb hts in_X0 tyX0 tyX0_ok nmX0 hown hK hP hD hS hT ha_43 rfl 3 (by decide) (hts _ kl_RX6_184) (fun _ h9 => h9) rfl (by decide +kernel) rfl rfl rfl ⟨_, rfl⟩ dX6_readCell_167 (fun ws_66 H locs hT hP hD hS => ?_)
          refine lv_aload hx hb dX6_readCell_170 (lv_at hl 0 rfl) ?_
          refine lv_aload_n hx hb dX6_readCell_172 rfl (lv_at hl 4 rfl) ?_
          refine lv_iconst (v := 0) hx hb dX6_readCell_173 (by decide) ?_
          refine lv_sipush (v := 500) hx hb dX6_readCell_174 (by decide) ?_
          refine ty_ki (wr := []) (wc := ([(rd, .inr (6, [.ref bt, .int ln, .ref tg, .int pl1_62, .int ws1_63, .int er1_64, .int ep1_65]))] ++ ws_66)) (va_runV (As := [.int 0, .int 500]) (rest := [.ref a_42]) ⟨hx, hb, hml, hown, hts⟩ (t_X6_readNumber l D ct S ws_66 rd bt tg nb ln pl1_62 ws1_63 er1_64 ep1_65 (0 : Int32) (500 : Int32) _ hT h_bt h_tg) (cm_V 2 hts kc_X6_readNumber ki_RX6 kl_RX6_74 kv_X6_readNumber kx_X6_readNumber kd_X6_readNumber ⟨Nat.le_of_ble_eq_true rfl, Nat.le_of_ble_eq_true rfl⟩) (ty_preE (wr := []) (wc := ([(rd, .inr (6, [.ref bt, .int ln, .ref tg, .int pl1_62, .int ws1_63, .int er1_64, .int ep1_65]))] ++ ws_66)) (ci := 6) (q0 := 0) hP hK hD hS hA hX rfl rfl) rfl rfl hl.1 rfl (lv_room (Nat.le_of_ble_eq_true rfl)) dX6_readCell_177 ⟨Nat.le_of_ble_eq_true rfl, Nat.le_of_ble_eq_true rfl⟩) hP hD hS hA (fun r_67 u H locs hw_68 hP hD hS => ?_)
          obtain ⟨ws_69, pl1_70, ws1_71, er1_72, ep1_73⟩ := u
          have hT := hw_68
          have hP : va_P D vwCl ([(rd, .inr (6, [.ref bt, .int ln, .ref tg, .int pl1_70, .int ws1_71, .int er1_72, .int ep1_73]))] ++ ws_69) H := hP
          have hD : va_D A ([(rd, .inr (6, [.ref bt, .int ln, .ref tg, .int pl1_70, .int ws1_71, .int er1_72, .int ep1_73]))] ++ ws_69) := hD
          refine ty_putN (v := .int r_67) (ty := .int) (E := [(rd, .inr (6, [.ref bt, .int ln, .ref tg, .int pl1_70, .int ws1_71, .int er1_72, .int ep1_73]))]) (ws := ws_69) (D := D) (ci := 0) (C := RX0) (T := TX0) (N := 16) hx hb hts in_X0 tyX0 tyX0_ok nmX0 hown hK hP hD hS hT ha_43 rfl 4 (by decide) (hts _ kl_RX6_187) (fun _ h9 => h9) rfl (by decide +kernel) rfl rfl rfl ⟨_, rfl⟩ dX6_readCell_180 (fun ws_74 H locs hT hP hD hS => ?_)
          refine lv_aload hx hb dX6_readCell_183 (lv_at hl 0 rfl) ?_
          refine lv_aload_n hx hb dX6_readCell_185 rfl (lv_at hl 4 rfl) ?_
          refine lv_iconst (v := 1) hx hb dX6_readCell_186 (by decide) ?_
          refine lv_sipush (v := 200) hx hb dX6_readCell_187 (by decide) ?_
          refine ty_ki (wr := []) (wc := ([(rd, .inr (6, [.ref bt, .int ln, .ref tg, .int pl1_70, .int ws1_71, .int er1_72, .int ep1_73]))] ++ ws_74)) (va_runV (As := [.int 1, .int 200]) (rest := [.ref a_42]) ⟨hx, hb, hml, hown, hts⟩ (t_X6_readNumber l D ct S ws_74 rd bt tg nb ln pl1_70 ws1_71 er1_72 ep1_73 (1 : Int32) (200 : Int32) _ hT h_bt h_tg) (cm_V 2 hts kc_X6_readNumber ki_RX6 kl_RX6_74 kv_X6_readNumber kx_X6_readNumber kd_X6_readNumber ⟨Nat.le_of_ble_eq_true rfl, Nat.le_of_ble_eq_true rfl⟩) (ty_preE (wr := []) (wc := ([(rd, .inr (6, [.ref bt, .int ln, .ref tg, .int pl1_70, .int ws1_71, .int er1_72, .int ep1_73]))] ++ ws_74)) (ci := 6) (q0 := 0) hP hK hD hS hA hX rfl rfl) rfl rfl hl.1 rfl (lv_room (Nat.le_of_ble_eq_true rfl)) dX6_readCell_190 ⟨Nat.le_of_ble_eq_true rfl, Nat.le_of_ble_eq_true rfl⟩) hP hD hS hA (fun r_75 u H locs hw_76 hP hD hS => ?_)
          obtain ⟨ws_77, pl1_78, ws1_79, er1_80, ep1_81⟩ := u
          have hT := hw_76
          have hP : va_P D vwCl ([(rd, .inr (6, [.ref bt, .int ln, .ref tg, .int pl1_78, .int ws1_79, .int er1_80, .int ep1_81]))] ++ ws_77) H := hP
          have hD : va_D A ([(rd, .inr (6, [.ref bt, .int ln, .ref tg, .int pl1_78, .int ws1_79, .int er1_80, .int ep1_81]))] ++ ws_77) := hD
          refine ty_putN (v := .int r_75) (ty := .int) (E := [(rd, .inr (6, [.ref bt, .int ln, .ref tg, .int pl1_78, .int ws1_79, .int er1_80, .int ep1_81]))]) (ws := ws_77) (D := D) (ci := 0) (C := RX0) (T := TX0) (N := 16) hx hb hts in_X0 tyX0 tyX0_ok nmX0 hown hK hP hD hS hT ha_43 rfl 5 (by decide) (hts _ kl_RX6_190) (fun _ h9 => h9) rfl (by decide +kernel) rfl rfl rfl ⟨_, rfl⟩ dX6_readCell_193 (fun ws_82 H locs hT hP hD hS => ?_)
          exact W.vret hx hb hr (fun t ht hW => ⟨⟨(ws_82, pl1_78, ws1_79, er1_80, ep1_81), rfl, hT, by rw [ht]; exact hP, by rw [hAe]; exact hD⟩, hS.F ht⟩) hS.2.2 dX6_readCell_196
      · refine lv_aload_n hx hb dX6_readCell_81 rfl (lv_at hl 2 rfl) ?_
        refine lv_iconst (v := 3) hx hb dX6_readCell_82 (by decide) ?_
        refine lv_aload_n hx hb dX6_readCell_83 rfl (lv_at hl 2 rfl) ?_
        refine va_get (v := .int ws1_9) (D := D) (ci := 6) (C := RX6) (T := TX6) (N := 7) hx hb hts in_X6 hown hK hP 0 rfl rfl 4 (by decide) (hts _ kl_RX6_130) (fun _ h9 => h9) rfl dX6_readCell_84 ?_
        refine ty_kv (wr := []) (wc := ([(rd, .inr (6, [.ref bt, .int ln, .ref tg, .int pl1_8, .int ws1_9, .int er1_10, .int ep1_11]))] ++ ws_23)) (va_runV (As := [.int 3, .int ws1_9]) (rest := []) ⟨hx, hb, hml, hown, hts⟩ (t_X6_fail l D ct S ws_23 rd bt tg nb ln pl1_8 ws1_9 er1_10 ep1_11 (3 : Int32) ws1_9 _ hT h_bt h_tg) (cm_V 2 hts kc_X6_fail ki_RX6 kl_RX6_68 kv_X6_fail kx_X6_fail kd_X6_fail ⟨Nat.le_of_ble_eq_true rfl, Nat.le_of_ble_eq_true rfl⟩) (ty_preE (wr := []) (wc := ([(rd, .inr (6, [.ref bt, .int ln, .ref tg, .int pl1_8, .int ws1_9, .int er1_10, .int ep1_11]))] ++ ws_23)) (ci := 6) (q0 := 0) hP hK hD hS hA hX rfl rfl) rfl rfl hl.1 rfl (lv_room (Nat.le_of_ble_eq_true rfl)) dX6_readCell_87 ⟨Nat.le_of_ble_eq_true rfl, Nat.le_of_ble_eq_true rfl⟩) hP hD hS hA (fun u H locs hw_84 hP hD hS => ?_)
        obtain ⟨ws_85, er1_86, ep1_87⟩ := u
        have hT := hw_84
        have hP : va_P D vwCl ([(rd, .inr (6, [.ref bt, .int ln, .ref tg, .int pl1_8, .int ws1_9, .int er1_86, .int ep1_87]))] ++ ws_85) H := hP
        have hD : va_D A ([(rd, .inr (6, [.ref bt, .int ln, .ref tg, .int pl1_8, .int ws1_9, .int er1_86, .int ep1_87]))] ++ ws_85) := hD
        exact W.vret hx hb hr (fun t ht hW => ⟨⟨(ws_85, pl1_8, ws1_9, er1_86, ep1_87), rfl, hT, by rw [ht]; exact hP, by rw [hAe]; exact hD⟩, hS.F ht⟩) hS.2.2 dX6_readCell_90
    · refine lv_iconst (v := 1) hx hb dX6_readCell_40 (by decide) ?_
      refine lv_goto (tgt := 45) hx hb dX6_readCell_41 (by decide) ?_
      refine lv_istore_n (lv' := [(1, .int 1), (0, .ref rd)]) hx hb dX6_readCell_45 rfl hl (by decide) rfl (fun ls hl => ?_)
      refine lv_aload_n hx hb dX6_readCell_46 rfl (lv_at hl 1 rfl) ?_
      refine va_get (v := .ref tg) (D := D) (ci := 6) (C := RX6) (T := TX6) (N := 7) hx hb hts in_X6 hown hK hP 0 rfl rfl 2 (by decide) (hts _ kl_RX6_19) (fun _ h9 => h9) rfl dX6_readCell_47 ?_
      refine ty_getN (E := [(rd, .inr (6, [.ref bt, .int ln, .ref tg, .int pl1_8, .int ws1_9, .int er1_10, .int ep1_11]))]) (ws := ws_7) (D := D) (ci := 9) (C := RX9) (T := TX9) (N := 8) hx hb hts in_X9 hown hK hP hT h_tg rfl 2 (by decide) (hts _ kl_RX6_133) (fun _ h9 => h9) rfl dX6_readCell_50 (fun _ hv_88 hf_89 => ?_)
      obtain ⟨a_90, rfl, ha_91⟩ := hv_88
      refine lv_aload_n hx hb dX6_readCell_53 rfl (lv_at hl 1 rfl) ?_
      refine va_get (v := .ref bt) (D := D) (ci := 6) (C := RX6) (T := TX6) (N := 7) hx hb hts in_X6 hown hK hP 0 rfl rfl 0 (by decide) (hts _ kl_RX6_9) (fun _ h9 => h9) rfl dX6_readCell_54 ?_
      refine lv_aload_n hx hb dX6_readCell_57 rfl (lv_at hl 1 rfl) ?_
      refine va_get (v := .int ws1_9) (D := D) (ci := 6) (C := RX6) (T := TX6) (N := 7) hx hb hts in_X6 hown hK hP 0 rfl rfl 4 (by decide) (hts _ kl_RX6_130) (fun _ h9 => h9) rfl dX6_readCell_58 ?_
      refine lv_aload_n hx hb dX6_readCell_61 rfl (lv_at hl 1 rfl) ?_
      refine va_get (v := .int pl1_8) (D := D) (ci := 6) (C := RX6) (T := TX6) (N := 7) hx hb hts in_X6 hown hK hP 0 rfl rfl 3 (by decide) (hts _ kl_RX6_65) (fun _ h9 => h9) rfl dX6_readCell_62 ?_
      refine ty_kl (wr := [(rd, .inr (6, [.ref bt, .int ln, .ref tg, .int pl1_8, .int ws1_9, .int er1_10, .int ep1_11]))]) (wc := ([] ++ ws_7)) (va_runSN (As := [.ref bt, .int ws1_9, .int pl1_8]) (rest := [.ref a_90]) ⟨hx, hb, hml, hown, hts⟩ (t_X10_nameCode l D ct S ws_7 bt nb ws1_9 pl1_8 _ hT h_bt) (cm_SN 3 hts kc_X10_nameCode ki_RX10 kl_RX6_142 ks_X10_nameCode kd_X10_nameCode ⟨Nat.le_of_ble_eq_true rfl, Nat.le_of_ble_eq_true rfl⟩) (ty_preS (wr := [(rd, .inr (6, [.ref bt, .int ln, .ref tg, .int pl1_8, .int ws1_9, .int er1_10, .int ep1_11]))]) (wc := ([] ++ ws_7)) hP hK hD hS hA hX) rfl rfl hl.1 rfl (lv_room (Nat.le_of_ble_eq_true rfl)) dX6_readCell_65 ⟨Nat.le_of_ble_eq_true rfl, Nat.le_of_ble_eq_true rfl⟩) hP hD hS hA (fun r_92 u H locs hw_93 hP hD hS => ?_)
      obtain ⟨ws_94, rfl⟩ : ∃ z, z = u := ⟨_, rfl⟩
      have hT := hw_93
      have hP : va_P D vwCl ([(rd, .inr (6, [.ref bt, .int ln, .ref tg, .int pl1_8, .int ws1_9, .int er1_10, .int ep1_11]))] ++ ws_94) H := hP
      have hD : va_D A ([(rd, .inr (6, [.ref bt, .int ln, .ref tg, .int pl1_8, .int ws1_9, .int er1_10, .int ep1_11]))] ++ ws_94) := hD
      refine ty_ki (wr := [(rd, .inr (6, [.ref bt, .int ln, .ref tg, .int pl1_8, .int ws1_9, .int er1_10, .int ep1_11]))]) (wc := ([] ++ ws_94)) (va_runVN (As := [.long r_92]) (rest := []) ⟨hx, hb, hml, hown, hts⟩ (t_X2_find l D ct S ws_94 a_90 r_92 _ hT ha_91) (cm_VN 1 hts kc_X2_find ki_RX2 kl_RX6_146 kv_X2_find kx_X2_find kd_X2_find ⟨Nat.le_of_ble_eq_true rfl, Nat.le_of_ble_eq_true rfl⟩) (ty_preV (wr := [(rd, .inr (6, [.ref bt, .int ln, .ref tg, .int pl1_8, .int ws1_9, .int er1_10, .int ep1_11]))]) (E := []) (ws := ws_94) (ci := 2) hP hK hD hS hA hX hT rfl ha_91) rfl rfl hl.1 rfl (lv_room (Nat.le_of_ble_eq_true rfl)) dX6_readCell_68 ⟨Nat.le_of_ble_eq_true rfl, Nat.le_of_ble_eq_true rfl⟩) hP hD hS hA (fun r_95 u H locs hw_96 hP hD hS => ?_)
      obtain ⟨ws_97, rfl⟩ : ∃ z, z = u := ⟨_, rfl⟩
      have hT := hw_96
      have hP : va_P D vwCl ([(rd, .inr (6, [.ref bt, .int ln, .ref tg, .int pl1_8, .int ws1_9, .int er1_10, .int ep1_11]))] ++ ws_97) H := hP
      have hD : va_D A ([(rd, .inr (6, [.ref bt, .int ln, .ref tg, .int pl1_8, .int ws1_9, .int er1_10, .int ep1_11]))] ++ ws_97) := hD
      refine lv_istore_n (lv' := [(2, .int r_95), (1, .int 1), (0, .ref rd)]) hx hb dX6_readCell_71 rfl hl (by decide) rfl (fun ls hl => ?_)
      refine lv_iload_n hx hb dX6_readCell_72 rfl (lv_at hl 1 rfl) ?_
      refine lv_if_ne (tgt := 81) hx hb dX6_readCell_73 (by decide) (fun _ => ?_) (fun hc => absurd hc (by decide))
      refine lv_aload_n hx hb dX6_readCell_81 rfl (lv_at hl 2 rfl) ?_
      refine lv_iconst (v := 3) hx hb dX6_readCell_82 (by decide) ?_
      refine lv_aload_n hx hb dX6_readCell_83 rfl (lv_at hl 2 rfl) ?_
      refine va_get (v := .int ws1_9) (D := D) (ci := 6) (C := RX6) (T := TX6) (N := 7) hx hb hts in_X6 hown hK hP 0 rfl rfl 4 (by decide) (hts _ kl_RX6_130) (fun _ h9 => h9) rfl dX6_readCell_84 ?_
      refine ty_kv (wr := []) (wc := ([(rd, .inr (6, [.ref bt, .int ln, .ref tg, .int pl1_8, .int ws1_9, .int er1_10, .int ep1_11]))] ++ ws_97)) (va_runV (As := [.int 3, .int ws1_9]) (rest := []) ⟨hx, hb, hml, hown, hts⟩ (t_X6_fail l D ct S ws_97 rd bt tg nb ln pl1_8 ws1_9 er1_10 ep1_11 (3 : Int32) ws1_9 _ hT h_bt h_tg) (cm_V 2 hts kc_X6_fail ki_RX6 kl_RX6_68 kv_X6_fail kx_X6_fail kd_X6_fail ⟨Nat.le_of_ble_eq_true rfl, Nat.le_of_ble_eq_true rfl⟩) (ty_preE (wr := []) (wc := ([(rd, .inr (6, [.ref bt, .int ln, .ref tg, .int pl1_8, .int ws1_9, .int er1_10, .int ep1_11]))] ++ ws_97)) (ci := 6) (q0 := 0) hP hK hD hS hA hX rfl rfl) rfl rfl hl.1 rfl (lv_room (Nat.le_of_ble_eq_true rfl)) dX6_readCell_87 ⟨Nat.le_of_ble_eq_true rfl, Nat.le_of_ble_eq_true rfl⟩) hP hD hS hA (fun u H locs hw_99 hP hD hS => ?_)
      obtain ⟨ws_100, er1_101, ep1_102⟩ := u
      have hT := hw_99
      have hP : va_P D vwCl ([(rd, .inr (6, [.ref bt, .int ln, .ref tg, .int pl1_8, .int ws1_9, .int er1_101, .int ep1_102]))] ++ ws_100) H := hP
      have hD : va_D A ([(rd, .inr (6, [.ref bt, .int ln, .ref tg, .int pl1_8, .int ws1_9, .int er1_101, .int ep1_102]))] ++ ws_100) := hD
      exact W.vret hx hb hr (fun t ht hW => ⟨⟨(ws_100, pl1_8, ws1_9, er1_101, ep1_102), rfl, hT, by rw [ht]; exact hP, by rw [hAe]; exact hD⟩, hS.F ht⟩) hS.2.2 dX6_readCell_90
  · refine lv_aload_n hx hb dX6_readCell_12 rfl (lv_at hl 0 rfl) ?_
    refine lv_iconst (v := 4) hx hb dX6_readCell_13 (by decide) ?_
    refine lv_aload_n hx hb dX6_readCell_14 rfl (lv_at hl 0 rfl) ?_
    refine va_get (v := .int wst) (D := D) (ci := 6) (C := RX6) (T := TX6) (N := 7) hx hb hts in_X6 hown hK hP 0 rfl rfl 4 (by decide) (hts _ kl_RX6_130) (fun _ h9 => h9) rfl dX6_readCell_15 ?_
    refine ty_kv (wr := []) (wc := ([(rd, .inr (6, [.ref bt, .int ln, .ref tg, .int pl, .int wst, .int er, .int ep]))] ++ ws)) (va_runV (As := [.int 4, .int wst]) (rest := []) ⟨hx, hb, hml, hown, hts⟩ (t_X6_fail l D ct S ws rd bt tg nb ln pl wst er ep (4 : Int32) wst _ hT h_bt h_tg) (cm_V 2 hts kc_X6_fail ki_RX6 kl_RX6_68 kv_X6_fail kx_X6_fail kd_X6_fail ⟨Nat.le_of_ble_eq_true rfl, Nat.le_of_ble_eq_true rfl⟩) (ty_preE (wr := []) (wc := ([(rd, .inr (6, [.ref bt, .int ln, .ref tg, .int pl, .int wst, .int er, .int ep]))] ++ ws)) (ci := 6) (q0 := 0) hP hK hD hS hA hX rfl rfl) rfl rfl hl.1 rfl (lv_room (Nat.le_of_ble_eq_true rfl)) dX6_readCell_18 ⟨Nat.le_of_ble_eq_true rfl, Nat.le_of_ble_eq_true rfl⟩) hP hD hS hA (fun u H locs hw_104 hP hD hS => ?_)
    obtain ⟨ws_105, er1_106, ep1_107⟩ := u
    have hT := hw_104
    have hP : va_P D vwCl ([(rd, .inr (6, [.ref bt, .int ln, .ref tg, .int pl, .int wst, .int er1_106, .int ep1_107]))] ++ ws_105) H := hP
    have hD : va_D A ([(rd, .inr (6, [.ref bt, .int ln, .ref tg, .int pl, .int wst, .int er1_106, .int ep1_107]))] ++ ws_105) := hD
    exact W.vret hx hb hr (fun t ht hW => ⟨⟨(ws_105, pl, wst, er1_106, ep1_107), rfl, hT, by rw [ht]; exact hP, by rw [hAe]; exact hD⟩, hS.F ht⟩) hS.2.2 dX6_readCell_21
theorem dX6_readProgram_0 : decode cX6_readProgram 0 = .ok (.aload_n 0, 1) := by decide +kernel
theorem dX6_readProgram_1 : decode cX6_readProgram 1 = .ok (.getfield 19, 3) := by decide +kernel
theorem dX6_readProgram_4 : decode cX6_readProgram 4 = .ok (.getfield 193, 3) := by decide +kernel
theorem dX6_readProgram_7 : decode cX6_readProgram 7 = .ok (.astore_n 1, 1) := by decide +kernel
theorem dX6_readProgram_8 : decode cX6_readProgram 8 = .ok (.aload_n 1, 1) := by decide +kernel
theorem dX6_readProgram_9 : decode cX6_readProgram 9 = .ok (.getfield 197, 3) := by decide +kernel
theorem dX6_readProgram_12 : decode cX6_readProgram 12 = .ok (.iconst 4, 1) := by decide +kernel
theorem dX6_readProgram_13 : decode cX6_readProgram 13 = .ok (.if_icmp .lt 13, 3) := by decide +kernel
theorem dX6_readProgram_16 : decode cX6_readProgram 16 = .ok (.aload_n 0, 1) := by decide +kernel
theorem dX6_readProgram_17 : decode cX6_readProgram 17 = .ok (.iconst 4, 1) := by decide +kernel
theorem dX6_readProgram_18 : decode cX6_readProgram 18 = .ok (.aload_n 0, 1) := by decide +kernel
theorem dX6_readProgram_19 : decode cX6_readProgram 19 = .ok (.getfield 130, 3) := by decide +kernel
theorem dX6_readProgram_22 : decode cX6_readProgram 22 = .ok (.invokevirtual 68, 3) := by decide +kernel
theorem dX6_readProgram_25 : decode cX6_readProgram 25 = .ok (.return_, 1) := by decide +kernel
theorem dX6_readProgram_26 : decode cX6_readProgram 26 = .ok (.aload_n 1, 1) := by decide +kernel
theorem dX6_readProgram_27 : decode cX6_readProgram 27 = .ok (.invokevirtual 200, 3) := by decide +kernel
theorem dX6_readProgram_30 : decode cX6_readProgram 30 = .ok (.iconst 0, 1) := by decide +kernel
theorem dX6_readProgram_31 : decode cX6_readProgram 31 = .ok (.istore_n 2, 1) := by decide +kernel
theorem dX6_readProgram_32 : decode cX6_readProgram 32 = .ok (.iload_n 2, 1) := by decide +kernel
theorem dX6_readProgram_33 : decode cX6_readProgram 33 = .ok (.bipush 12, 2) := by decide +kernel
theorem dX6_readProgram_35 : decode cX6_readProgram 35 = .ok (.if_icmp .ge 46, 3) := by decide +kernel
theorem dX6_readProgram_38 : decode cX6_readProgram 38 = .ok (.aload_n 0, 1) := by decide +kernel
theorem dX6_readProgram_39 : decode cX6_readProgram 39 = .ok (.getfield 58, 3) := by decide +kernel
theorem dX6_readProgram_42 : decode cX6_readProgram 42 = .ok (.ifCond .ne 39, 3) := by decide +kernel
theorem dX6_readProgram_45 : decode cX6_readProgram 45 = .ok (.aload_n 0, 1) := by decide +kernel
theorem dX6_readProgram_46 : decode cX6_readProgram 46 = .ok (.invokevirtual 55, 3) := by decide +kernel
theorem dX6_readProgram_49 : decode cX6_readProgram 49 = .ok (.iload_n 2, 1) := by decide +kernel
theorem dX6_readProgram_50 : decode cX6_readProgram 50 = .ok (.iconst 1, 1) := by decide +kernel
theorem dX6_readProgram_51 : decode cX6_readProgram 51 = .ok (.if_icmp .lt 14, 3) := by decide +kernel
theorem dX6_readProgram_54 : decode cX6_readProgram 54 = .ok (.aload_n 0, 1) := by decide +kernel
theorem dX6_readProgram_55 : decode cX6_readProgram 55 = .ok (.invokevirtual 61, 3) := by decide +kernel
theorem dX6_readProgram_58 : decode cX6_readProgram 58 = .ok (.invokestatic 202, 3) := by decide +kernel
theorem dX6_readProgram_61 : decode cX6_readProgram 61 = .ok (.ifCond .ne 4, 3) := by decide +kernel
theorem dX6_readProgram_64 : decode cX6_readProgram 64 = .ok (.return_, 1) := by decide +kernel
theorem dX6_readProgram_65 : decode cX6_readProgram 65 = .ok (.aload_n 0, 1) := by decide +kernel
theorem dX6_readProgram_66 : decode cX6_readProgram 66 = .ok (.invokevirtual 23, 3) := by decide +kernel
theorem dX6_readProgram_69 : decode cX6_readProgram 69 = .ok (.aload_n 0, 1) := by decide +kernel
theorem dX6_readProgram_70 : decode cX6_readProgram 70 = .ok (.aload_n 1, 1) := by decide +kernel
theorem dX6_readProgram_71 : decode cX6_readProgram 71 = .ok (.iload_n 2, 1) := by decide +kernel
theorem dX6_readProgram_72 : decode cX6_readProgram 72 = .ok (.invokevirtual 205, 3) := by decide +kernel
theorem dX6_readProgram_75 : decode cX6_readProgram 75 = .ok (.iinc 2 1, 3) := by decide +kernel
theorem dX6_readProgram_78 : decode cX6_readProgram 78 = .ok (.goto (-46), 3) := by decide +kernel
theorem dX6_readProgram_81 : decode cX6_readProgram 81 = .ok (.return_, 1) := by decide +kernel
set_option maxRecDepth 100000 in
set_option maxHeartbeats 4000000 in
theorem t_X6_readProgram (l : Launch) (D : va_G) (ct : Nat → ClassId) (S : ty_S) (ws : va_W) (rd : Nat) (bt : Nat) (tg : Nat) (nb : Nat) (ln : Int32) (pl : Int32) (wst : Int32) (er : Int32) (ep : Int32) (sz : Nat) (hT : ty_W ct S ws) (h_bt : S bt = some (.inr (0, nb))) (h_tg : S tg = some (.inl 9)) : Met l yX6_readProgram (ws_ yX6_readProgram cX6_readProgram 3 none) ({ frames := 6, cells := 0, slots := 0, locals := 130 } : Room) (va_Pc [.ref rd] (cmP D ct sz ([(rd, .inr (6, [.ref bt, .int ln, .ref tg, .int pl, .int wst, .int er, .int ep]))] ++ ws))) (va_Qv (fun (u : va_W × Int32 × Int32 × Int32 × Int32) => match u with | (u9, pl1, ws1, er1, ep1) => ty_W ct S u9) (cmB D ([(rd, .inr (6, [.ref bt, .int ln, .ref tg, .int pl, .int wst, .int er, .int ep]))] ++ ws) sz (fun (u : va_W × Int32 × Int32 × Int32 × Int32) => match u with | (u9, pl1, ws1, er1, ep1) => ([(rd, .inr (6, [.ref bt, .int ln, .ref tg, .int pl1, .int ws1, .int er1, .int ep1]))] ++ u9))) (va_A ([(rd, .inr (6, [.ref bt, .int ln, .ref tg, .int pl, .int wst, .int er, .int ep]))] ++ ws) sz)) 0 0 (va_A ([(rd, .inr (6, [.ref bt, .int ln, .ref tg, .int pl, .int wst, .int er, .int ep]))] ++ ws) sz) := by
  refine Met.ofW (cc := cX6_readProgram) (maxL := 3) (ret := none) (by decide) rfl ?_
  intro p e s m args below meth c s₁ B hml hv
  obtain ⟨rfl, hsz, hP, hK, hD0, hX⟩ := hv
  have hx := B.exec
  have hb := B.bytes
  have hr := B.returns
  have hts := ws_all (atoms_spec (ws := ws_ yX6_readProgram cX6_readProgram 3 none) B.pre)
  have hown : s.vm.findClass RX6 = some m.cls := findClass_of_methodNamed B.named
  have hlocks := B.notSynchronized
  subst hsz
  have hD := hD0.self (sz := s.heap.size)
  generalize hAe : va_A ([(rd, .inr (6, [.ref bt, .int ln, .ref tg, .int pl, .int wst, .int er, .int ep]))] ++ ws) s.heap.size = A at hD hX ⊢
  have hA : ∀ q : Nat, s.heap.size ≤ q → A q := fun q h => by rw [← hAe]; exact Or.inr h
  have hS : va_S A s.heap s.heap [] := va_S.rf
  have hl := lv_entry ([.ref rd]) (n := 3) (Nat.le_of_ble_eq_true rfl)
  rw [lg_entry_eq]
  generalize (lg_sl ([.ref rd]) ++ List.replicate (3 - (lg_sl ([.ref rd])).length) Slot.unset).toArray = ls at hl ⊢
  have hl : lv_has ls 3 [(0, .ref rd)] := hl
  refine lv_aload_n hx hb dX6_readProgram_0 rfl (lv_at hl 0 rfl) ?_
  refine va_get (v := .ref tg) (D := D) (ci := 6) (C := RX6) (T := TX6) (N := 7) hx hb hts in_X6 hown hK hP 0 rfl rfl 2 (by decide) (hts _ kl_RX6_19) (fun _ h9 => h9) rfl dX6_readProgram_1 ?_
  refine ty_getN (E := [(rd, .inr (6, [.ref bt, .int ln, .ref tg, .int pl, .int wst, .int er, .int ep]))]) (ws := ws) (D := D) (ci := 9) (C := RX9) (T := TX9) (N := 8) hx hb hts in_X9 hown hK hP hT h_tg rfl 3 (by decide) (hts _ kl_RX6_193) (fun _ h9 => h9) rfl dX6_readProgram_4 (fun _ hv_1 hf_2 => ?_)
  obtain ⟨a_3, rfl, ha_4⟩ := hv_1
  refine lv_astore_n (lv' := [(1, .ref a_3), (0, .ref rd)]) hx hb dX6_readProgram_7 rfl hl (by decide) rfl (fun ls hl => ?_)
  refine lv_aload_n hx hb dX6_readProgram_8 rfl (lv_at hl 0 rfl) ?_
  refine ty_getN (E := [(rd, .inr (6, [.ref bt, .int ln, .ref tg, .int pl, .int wst, .int er, .int ep]))]) (ws := ws) (D := D) (ci := 5) (C := RX5) (T := TX5) (N := 5) hx hb hts in_X5 hown hK hP hT ha_4 rfl 0 (by decide) (hts _ kl_RX6_197) (fun _ h9 => h9) rfl dX6_readProgram_9 (fun _ hv_5 hf_6 => ?_)
  obtain ⟨x_7, rfl, hz_8⟩ := hv_5
  refine lv_iconst (v := 4) hx hb dX6_readProgram_12 (by decide) ?_
  refine lv_icmp_lt (tgt := 26) hx hb dX6_readProgram_13 (by decide) (fun hc_9 => ?_) (fun hc_9 => ?_)
  · refine lv_aload_n hx hb dX6_readProgram_26 rfl (lv_at hl 0 rfl) ?_
    refine ty_kv (wr := [(rd, .inr (6, [.ref bt, .int ln, .ref tg, .int pl, .int wst, .int er, .int ep]))]) (wc := ([] ++ ws)) (va_runVN (As := []) (rest := []) ⟨hx, hb, hml, hown, hts⟩ (t_X5_add l D ct S ws a_3 x_7 _ hT ha_4 hf_6 (ty_lt4 hz_8 hc_9)) (cm_VN 0 hts kc_X5_add ki_RX5 kl_RX6_200 kv_X5_add kx_X5_add kd_X5_add ⟨Nat.le_of_ble_eq_true rfl, Nat.le_of_ble_eq_true rfl⟩) (ty_preV (wr := [(rd, .inr (6, [.ref bt, .int ln, .ref tg, .int pl, .int wst, .int er, .int ep]))]) (E := []) (ws := ws) (ci := 5) hP hK hD hS hA hX hT rfl ha_4) rfl rfl hl.1 rfl (lv_room (Nat.le_of_ble_eq_true rfl)) dX6_readProgram_27 ⟨Nat.le_of_ble_eq_true rfl, Nat.le_of_ble_eq_true rfl⟩) hP hD hS hA (fun u H locs hw_11 hP hD hS => ?_)
    obtain ⟨ws_12, rfl⟩ : ∃ z, z = u := ⟨_, rfl⟩
    have hT := hw_11
    have hP : va_P D vwCl ([(rd, .inr (6, [.ref bt, .int ln, .ref tg, .int pl, .int wst, .int er, .int ep]))] ++ ws_12) H := hP
    have hD : va_D A ([(rd, .inr (6, [.ref bt, .int ln, .ref tg, .int pl, .int wst, .int er, .int ep]))] ++ ws_12) := hD
    refine lv_iconst (v := 0) hx hb dX6_readProgram_30 (by decide) ?_
    refine lv_istore_n (lv' := [(2, .int 0), (1, .ref a_3), (0, .ref rd)]) hx hb dX6_readProgram_31 rfl hl (by decide) rfl (fun ls hl => ?_)
    refine ty_loop (I := fun μ H locs ls => ∃ (ws : va_W) (y_13 : Int32) (y_14 : Int32) (y_15 : Int32) (y_16 : Int32) (y_17 : Int32), μ = (2147483648 - y_13.toInt).toNat ∧ ty_W ct S ws ∧ va_P D vwCl ([(rd, .inr (6, [.ref bt, .int ln, .ref tg, .int y_14, .int y_15, .int y_16, .int y_17]))] ++ ws) H ∧ va_D A ([(rd, .inr (6, [.ref bt, .int ln, .ref tg, .int y_14, .int y_15, .int y_16, .int y_17]))] ++ ws) ∧ va_S A s.heap H locs ∧ lv_has ls 3 [(2, .int y_13), (1, .ref a_3), (0, .ref rd)]) ⟨_, ws_12, (0 : Int32), pl, wst, er, ep, rfl, hT, hP, hD, hS, (lv_sub hl [0, 1, 2] rfl)⟩ (fun μ H locs ls hI ih_32 => ?_)
    obtain ⟨ws, y_13, y_14, y_15, y_16, y_17, rfl, hT, hP, hD, hS, hl⟩ := hI
    refine lv_iload_n hx hb dX6_readProgram_32 rfl (lv_at hl 0 rfl) ?_
    refine lv_bipush (v := 12) hx hb dX6_readProgram_33 (by decide) ?_
    refine lv_icmp_ge (tgt := 81) hx hb dX6_readProgram_35 (by decide) (fun hc_18 => ?_) (fun hc_18 => ?_)
    · exact W.vret hx hb hr (fun t ht hW => ⟨⟨(ws, y_14, y_15, y_16, y_17), rfl, hT, by rw [ht]; exact hP, by rw [hAe]; exact hD⟩, hS.F ht⟩) hS.2.2 dX6_readProgram_81
    · refine lv_aload_n hx hb dX6_readProgram_38 rfl (lv_at hl 2 rfl) ?_
      refine va_get (v := .int y_16) (D := D) (ci := 6) (C := RX6) (T := TX6) (N := 7) hx hb hts in_X6 hown hK hP 0 rfl rfl 5 (by decide) (hts _ kl_RX6_58) (fun _ h9 => h9) rfl dX6_readProgram_39 ?_
      refine lv_if_ne (tgt := 81) hx hb dX6_readProgram_42 (by decide) (fun hc_19 => ?_) (fun hc_19 => ?_)
      · exact W.vret hx hb hr (fun t ht hW => ⟨⟨(ws, y_14, y_15, y_16, y_17), rfl, hT, by rw [ht]; exact hP, by rw [hAe]; exact hD⟩, hS.F ht⟩) hS.2.2 dX6_readProgram_81
      · refine lv_aload_n hx hb dX6_readProgram_45 rfl (lv_at hl 2 rfl) ?_
        refine ty_kv (wr := []) (wc := ([(rd, .inr (6, [.ref bt, .int ln, .ref tg, .int y_14, .int y_15, .int y_16, .int y_17]))] ++ ws)) (va_runV (As := []) (rest := []) ⟨hx, hb, hml, hown, hts⟩ (t_X6_skipSpaces l D ct S ws rd bt tg nb ln y_14 y_15 y_16 y_17 _ hT h_bt h_tg) (cm_V 0 hts kc_X6_skipSpaces ki_RX6 kl_RX6_55 kv_X6_skipSpaces kx_X6_skipSpaces kd_X6_skipSpaces ⟨Nat.le_of_ble_eq_true rfl, Nat.le_of_ble_eq_true rfl⟩) (ty_preE (wr := []) (wc := ([(rd, .inr (6, [.ref bt, .int ln, .ref tg, .int y_14, .int y_15, .int y_16, .int y_17]))] ++ ws)) (ci := 6) (q0 := 0) hP hK hD hS hA hX rfl rfl) rfl rfl hl.1 rfl (lv_room (Nat.le_of_ble_eq_true rfl)) dX6_readProgram_46 ⟨Nat.le_of_ble_eq_true rfl, Nat.le_of_ble_eq_true rfl⟩) hP hD hS hA (fun u H locs hw_21 hP hD hS => ?_)
        obtain ⟨ws_22, pl1_23⟩ := u
        have hT := hw_21
        have hP : va_P D vwCl ([(rd, .inr (6, [.ref bt, .int ln, .ref tg, .int pl1_23, .int y_15, .int y_16, .int y_17]))] ++ ws_22) H := hP
        have hD : va_D A ([(rd, .inr (6, [.ref bt, .int ln, .ref tg, .int pl1_23, .int y_15, .int y_16, .int y_17]))] ++ ws_22) := hD
        refine lv_iload_n hx hb dX6_readProgram_49 rfl (lv_at hl 0 rfl) ?_
        refine lv_iconst (v := 1) hx hb dX6_readProgram_50 (by decide) ?_
        refine lv_icmp_lt (tgt := 65) hx hb dX6_readProgram_51 (by decide) (fun hc_24 => ?_) (fun hc_24 => ?_)
        · refine lv_aload_n hx hb dX6_readProgram_65 rfl (lv_at hl 2 rfl) ?_
          refine ty_kv (wr := []) (wc := ([(rd, .inr (6, [.ref bt, .int ln, .ref tg, .int pl1_23, .int y_15, .int y_16, .int y_17]))] ++ ws_22)) (va_runV (As := []) (rest := []) ⟨hx, hb, hml, hown, hts⟩ (t_X6_readWord l D ct S ws_22 rd bt tg nb ln pl1_23 y_15 y_16 y_17 _ hT h_bt h_tg) (cm_V 0 hts kc_X6_readWord ki_RX6 kl_RX6_23 kv_X6_readWord kx_X6_readWord kd_X6_readWord ⟨Nat.le_of_ble_eq_true rfl, Nat.le_of_ble_eq_true rfl⟩) (ty_preE (wr := []) (wc := ([(rd, .inr (6, [.ref bt, .int ln, .ref tg, .int pl1_23, .int y_15, .int y_16, .int y_17]))] ++ ws_22)) (ci := 6) (q0 := 0) hP hK hD hS hA hX rfl rfl) rfl rfl hl.1 rfl (lv_room (Nat.le_of_ble_eq_true rfl)) dX6_readProgram_66 ⟨Nat.le_of_ble_eq_true rfl, Nat.le_of_ble_eq_true rfl⟩) hP hD hS hA (fun u H locs hw_26 hP hD hS => ?_)
          obtain ⟨ws_27, pl1_28, ws1_29, er1_30, ep1_31⟩ := u
          have hT := hw_26
          have hP : va_P D vwCl ([(rd, .inr (6, [.ref bt, .int ln, .ref tg, .int pl1_28, .int ws1_29, .int er1_30, .int ep1_31]))] ++ ws_27) H := hP
          have hD : va_D A ([(rd, .inr (6, [.ref bt, .int ln, .ref tg, .int pl1_28, .int ws1_29, .int er1_30, .int ep1_31]))] ++ ws_27) := hD
          refine lv_aload_n hx hb dX6_readProgram_69 rfl (lv_at hl 2 rfl) ?_
          refine lv_aload_n hx hb dX6_readProgram_70 rfl (lv_at hl 1 rfl) ?_
          refine lv_iload_n hx hb dX6_readProgram_71 rfl (lv_at hl 0 rfl) ?_
          refine ty_kv (wr := []) (wc := ([(rd, .inr (6, [.ref bt, .int ln, .ref tg, .int pl1_28, .int ws1_29, .int er1_30, .int ep1_31]))] ++ ws_27)) (va_runV (As := [.ref a_3, .int y_13]) (rest := []) ⟨hx, hb, hml, hown, hts⟩ (t_X6_readStep l D ct S ws_27 rd bt tg nb ln pl1_28 ws1_29 er1_30 ep1_31 a_3 y_13 _ hT h_bt h_tg ha_4) (cm_V 2 hts kc_X6_readStep ki_RX6 kl_RX6_205 kv_X6_readStep kx_X6_readStep kd_X6_readStep ⟨Nat.le_of_ble_eq_true rfl, Nat.le_of_ble_eq_true rfl⟩) (ty_preE (wr := []) (wc := ([(rd, .inr (6, [.ref bt, .int ln, .ref tg, .int pl1_28, .int ws1_29, .int er1_30, .int ep1_31]))] ++ ws_27)) (ci := 6) (q0 := 0) hP hK hD hS hA hX rfl rfl) rfl rfl hl.1 rfl (lv_room (Nat.le_of_ble_eq_true rfl)) dX6_readProgram_72 ⟨Nat.le_of_ble_eq_true rfl, Nat.le_of_ble_eq_true rfl⟩) hP hD hS hA (fun u H locs hw_33 hP hD hS => ?_)
          obtain ⟨ws_34, pl1_35, ws1_36, er1_37, ep1_38⟩ := u
          have hT := hw_33
          have hP : va_P D vwCl ([(rd, .inr (6, [.ref bt, .int ln, .ref tg, .int pl1_35, .int ws1_36, .int er1_37, .int ep1_38]))] ++ ws_34) H := hP
          have hD : va_D A ([(rd, .inr (6, [.ref bt, .int ln, .ref tg, .int pl1_35, .int ws1_36, .int er1_37, .int ep1_38]))] ++ ws_34) := hD
          refine lv_iinc (v := (y_13 + Int32.ofInt 1)) (lv' := [(2, .int (y_13 + Int32.ofInt 1)), (1, .ref a_3), (0, .ref rd)]) hx hb dX6_readProgram_75 hl (k := 0) rfl rfl (by decide) rfl (fun ls hl => ?_)
          refine lv_goto (tgt := 32) hx hb dX6_readProgram_78 (by decide) ?_
          exact ih_32 _ _ _ _ (ty_inc (cm_lt hc_18)) ⟨ws_34, (y_13 + Int32.ofInt 1), pl1_35, ws1_36, er1_37, ep1_38, rfl, hT, hP, hD, hS, (lv_sub hl [0, 1, 2] rfl)⟩
        · refine lv_aload_n hx hb dX6_readProgram_54 rfl (lv_at hl 2 rfl) ?_
          refine ty_ki (wr := []) (wc := ([(rd, .inr (6, [.ref bt, .int ln, .ref tg, .int pl1_23, .int y_15, .int y_16, .int y_17]))] ++ ws_22)) (va_runV (As := []) (rest := []) ⟨hx, hb, hml, hown, hts⟩ (t_X6_next l D ct S ws_22 rd bt tg nb ln pl1_23 y_15 y_16 y_17 _ hT h_bt h_tg) (cm_V 0 hts kc_X6_next ki_RX6 kl_RX6_61 kv_X6_next kx_X6_next kd_X6_next ⟨Nat.le_of_ble_eq_true rfl, Nat.le_of_ble_eq_true rfl⟩) (ty_preE (wr := []) (wc := ([(rd, .inr (6, [.ref bt, .int ln, .ref tg, .int pl1_23, .int y_15, .int y_16, .int y_17]))] ++ ws_22)) (ci := 6) (q0 := 0) hP hK hD hS hA hX rfl rfl) rfl rfl hl.1 rfl (lv_room (Nat.le_of_ble_eq_true rfl)) dX6_readProgram_55 ⟨Nat.le_of_ble_eq_true rfl, Nat.le_of_ble_eq_true rfl⟩) hP hD hS hA (fun r_39 u H locs hw_40 hP hD hS => ?_)
          obtain ⟨ws_41, rfl⟩ : ∃ z, z = u := ⟨_, rfl⟩
          have hT := hw_40
          have hP : va_P D vwCl ([(rd, .inr (6, [.ref bt, .int ln, .ref tg, .int pl1_23, .int y_15, .int y_16, .int y_17]))] ++ ws_41) H := hP
          have hD : va_D A ([(rd, .inr (6, [.ref bt, .int ln, .ref tg, .int pl1_23, .int y_15, .int y_16, .int y_17]))] ++ ws_41) := hD
          refine ty_ki (wr := [(rd, .inr (6, [.ref bt, .int ln, .ref tg, .int pl1_23, .int y_15, .int y_16, .int y_17]))]) (wc := ([] ++ ws_41)) (va_runS (As := [.int r_39]) (rest := []) ⟨hx, hb, hml, hown, hts⟩ (t_X6_isLetter l D ct S ws_41 r_39 _ hT) (cm_S 1 hts kc_X6_isLetter ki_RX6 kl_RX6_202 ks_X6_isLetter kd_X6_isLetter ⟨Nat.le_of_ble_eq_true rfl, Nat.le_of_ble_eq_true rfl⟩) (ty_preS (wr := [(rd, .inr (6, [.ref bt, .int ln, .ref tg, .int pl1_23, .int y_15, .int y_16, .int y_17]))]) (wc := ([] ++ ws_41)) hP hK hD hS hA hX) rfl rfl hl.1 rfl (lv_room (Nat.le_of_ble_eq_true rfl)) dX6_readProgram_58 ⟨Nat.le_of_ble_eq_true rfl, Nat.le_of_ble_eq_true rfl⟩) hP hD hS hA (fun r_42 u H locs hw_43 hP hD hS => ?_)
          obtain ⟨ws_44, rfl⟩ : ∃ z, z = u := ⟨_, rfl⟩
          have hT := hw_43
          have hP : va_P D vwCl ([(rd, .inr (6, [.ref bt, .int ln, .ref tg, .int pl1_23, .int y_15, .int y_16, .int y_17]))] ++ ws_44) H := hP
          have hD : va_D A ([(rd, .inr (6, [.ref bt, .int ln, .ref tg, .int pl1_23, .int y_15, .int y_16, .int y_17]))] ++ ws_44) := hD
          refine lv_if_ne (tgt := 65) hx hb dX6_readProgram_61 (by decide) (fun hc_45 => ?_) (fun hc_45 => ?_)
          · refine lv_aload_n hx hb dX6_readProgram_65 rfl (lv_at hl 2 rfl) ?_
            refine ty_kv (wr := []) (wc := ([(rd, .inr (6, [.ref bt, .int ln, .ref tg, .int pl1_23, .int y_15, .int y_16, .int y_17]))] ++ ws_44)) (va_runV (As := []) (rest := []) ⟨hx, hb, hml, hown, hts⟩ (t_X6_readWord l D ct S ws_44 rd bt tg nb ln pl1_23 y_15 y_16 y_17 _ hT h_bt h_tg) (cm_V 0 hts kc_X6_readWord ki_RX6 kl_RX6_23 kv_X6_readWord kx_X6_readWord kd_X6_readWord ⟨Nat.le_of_ble_eq_true rfl, Nat.le_of_ble_eq_true rfl⟩) (ty_preE (wr := []) (wc := ([(rd, .inr (6, [.ref bt, .int ln, .ref tg, .int pl1_23, .int y_15, .int y_16, .int y_17]))] ++ ws_44)) (ci := 6) (q0 := 0) hP hK hD hS hA hX rfl rfl) rfl rfl hl.1 rfl (lv_room (Nat.le_of_ble_eq_true rfl)) dX6_readProgram_66 ⟨Nat.le_of_ble_eq_true rfl, Nat.le_of_ble_eq_true rfl⟩) hP hD hS hA (fun u H locs hw_47 hP hD hS => ?_)
            obtain ⟨ws_48, pl1_49, ws1_50, er1_51, ep1_52⟩ := u
            have hT := hw_47
            have hP : va_P D vwCl ([(rd, .inr (6, [.ref bt, .int ln, .ref tg, .int pl1_49, .int ws1_50, .int er1_51, .int ep1_52]))] ++ ws_48) H := hP
            have hD : va_D A ([(rd, .inr (6, [.ref bt, .int ln, .ref tg, .int pl1_49, .int ws1_50, .int er1_51, .int ep1_52]))] ++ ws_48) := hD
            refine lv_aload_n hx hb dX6_readProgram_69 rfl (lv_at hl 2 rfl) ?_
            refine lv_aload_n hx hb dX6_readProgram_70 rfl (lv_at hl 1 rfl) ?_
            refine lv_iload_n hx hb dX6_readProgram_71 rfl (lv_at hl 0 rfl) ?_
            refine ty_kv (wr := []) (wc := ([(rd, .inr (6, [.ref bt, .int ln, .ref tg, .int pl1_49, .int ws1_50, .int er1_51, .int ep1_52]))] ++ ws_48)) (va_runV (As := [.ref a_3, .int y_13]) (rest := []) ⟨hx, hb, hml, hown, hts⟩ (t_X6_readStep l D ct S ws_48 rd bt tg nb ln pl1_49 ws1_50 er1_51 ep1_52 a_3 y_13 _ hT h_bt h_tg ha_4) (cm_V 2 hts kc_X6_readStep ki_RX6 kl_RX6_205 kv_X6_readStep kx_X6_readStep kd_X6_readStep ⟨Nat.le_of_ble_eq_true rfl, Nat.le_of_ble_eq_true rfl⟩) (ty_preE (wr := []) (wc := ([(rd, .inr (6, [.ref bt, .int ln, .ref tg, .int pl1_49, .int ws1_50, .int er1_51, .int ep1_52]))] ++ ws_48)) (ci := 6) (q0 := 0) hP hK hD hS hA hX rfl rfl) rfl rfl hl.1 rfl (lv_room (Nat.le_of_ble_eq_true rfl)) dX6_readProgram_72 ⟨Nat.le_of_ble_eq_true rfl, Nat.le_of_ble_eq_true rfl⟩) hP hD hS hA (fun u H locs hw_54 hP hD hS => ?_)
            obtain ⟨ws_55, pl1_56, ws1_57, er1_58, ep1_59⟩ := u
            have hT := hw_54
            have hP : va_P D vwCl ([(rd, .inr (6, [.ref bt, .int ln, .ref tg, .int pl1_56, .int ws1_57, .int er1_58, .int ep1_59]))] ++ ws_55) H := hP
            have hD : va_D A ([(rd, .inr (6, [.ref bt, .int ln, .ref tg, .int pl1_56, .int ws1_57, .int er1_58, .int ep1_59]))] ++ ws_55) := hD
            refine lv_iinc (v := (y_13 + Int32.ofInt 1)) (lv' := [(2, .int (y_13 + Int32.ofInt 1)), (1, .ref a_3), (0, .ref rd)]) hx hb dX6_readProgram_75 hl (k := 0) rfl rfl (by decide) rfl (fun ls hl => ?_)
            refine lv_goto (tgt := 32) hx hb dX6_readProgram_78 (by decide) ?_
            exact ih_32 _ _ _ _ (ty_inc (cm_lt hc_18)) ⟨ws_55, (y_13 + Int32.ofInt 1), pl1_56, ws1_57, er1_58, ep1_59, rfl, hT, hP, hD, hS, (lv_sub hl [0, 1, 2] rfl)⟩
          · exact W.vret hx hb hr (fun t ht hW => ⟨⟨(ws_44, pl1_23, y_15, y_16, y_17), rfl, hT, by rw [ht]; exact hP, by rw [hAe]; exact hD⟩, hS.F ht⟩) hS.2.2 dX6_readProgram_64
  · refine lv_aload_n hx hb dX6_readProgram_16 rfl (lv_at hl 1 rfl) ?_
    refine lv_iconst (v := 4) hx hb dX6_readProgram_17 (by decide) ?_
    refine lv_aload_n hx hb dX6_readProgram_18 rfl (lv_at hl 1 rfl) ?_
    refine va_get (v := .int wst) (D := D) (ci := 6) (C := RX6) (T := TX6) (N := 7) hx hb hts in_X6 hown hK hP 0 rfl rfl 4 (by decide) (hts _ kl_RX6_130) (fun _ h9 => h9) rfl dX6_readProgram_19 ?_
    refine ty_kv (wr := []) (wc := ([(rd, .inr (6, [.ref bt, .int ln, .ref tg, .int pl, .int wst, .int er, .int ep]))] ++ ws)) (va_runV (As := [.int 4, .int wst]) (rest := []) ⟨hx, hb, hml, hown, hts⟩ (t_X6_fail l D ct S ws rd bt tg nb ln pl wst er ep (4 : Int32) wst _ hT h_bt h_tg) (cm_V 2 hts kc_X6_fail ki_RX6 kl_RX6_68 kv_X6_fail kx_X6_fail kd_X6_fail ⟨Nat.le_of_ble_eq_true rfl, Nat.le_of_ble_eq_true rfl⟩) (ty_preE (wr := []) (wc := ([(rd, .inr (6, [.ref bt, .int ln, .ref tg, .int pl, .int wst, .int er, .int ep]))] ++ ws)) (ci := 6) (q0 := 0) hP hK hD hS hA hX rfl rfl) rfl rfl hl.1 rfl (lv_room (Nat.le_of_ble_eq_true rfl)) dX6_readProgram_22 ⟨Nat.le_of_ble_eq_true rfl, Nat.le_of_ble_eq_true rfl⟩) hP hD hS hA (fun u H locs hw_61 hP hD hS => ?_)
    obtain ⟨ws_62, er1_63, ep1_64⟩ := u
    have hT := hw_61
    have hP : va_P D vwCl ([(rd, .inr (6, [.ref bt, .int ln, .ref tg, .int pl, .int wst, .int er1_63, .int ep1_64]))] ++ ws_62) H := hP
    have hD : va_D A ([(rd, .inr (6, [.ref bt, .int ln, .ref tg, .int pl, .int wst, .int er1_63, .int ep1_64]))] ++ ws_62) := hD
    exact W.vret hx hb hr (fun t ht hW => ⟨⟨(ws_62, pl, wst, er1_63, ep1_64), rfl, hT, by rw [ht]; exact hP, by rw [hAe]; exact hD⟩, hS.F ht⟩) hS.2.2 dX6_readProgram_25
theorem dX6_readText_0 : decode cX6_readText 0 = .ok (.iconst 0, 1) := by decide +kernel
theorem dX6_readText_1 : decode cX6_readText 1 = .ok (.istore_n 1, 1) := by decide +kernel
theorem dX6_readText_2 : decode cX6_readText 2 = .ok (.iload_n 1, 1) := by decide +kernel
theorem dX6_readText_3 : decode cX6_readText 3 = .ok (.aload_n 0, 1) := by decide +kernel
theorem dX6_readText_4 : decode cX6_readText 4 = .ok (.getfield 15, 3) := by decide +kernel
theorem dX6_readText_7 : decode cX6_readText 7 = .ok (.if_icmp .gt 105, 3) := by decide +kernel
theorem dX6_readText_10 : decode cX6_readText 10 = .ok (.aload_n 0, 1) := by decide +kernel
theorem dX6_readText_11 : decode cX6_readText 11 = .ok (.invokevirtual 23, 3) := by decide +kernel
theorem dX6_readText_14 : decode cX6_readText 14 = .ok (.aload_n 0, 1) := by decide +kernel
theorem dX6_readText_15 : decode cX6_readText 15 = .ok (.ldc 26, 2) := by decide +kernel
theorem dX6_readText_17 : decode cX6_readText 17 = .ok (.invokevirtual 28, 3) := by decide +kernel
theorem dX6_readText_20 : decode cX6_readText 20 = .ok (.ifCond .eq 10, 3) := by decide +kernel
theorem dX6_readText_23 : decode cX6_readText 23 = .ok (.aload_n 0, 1) := by decide +kernel
theorem dX6_readText_24 : decode cX6_readText 24 = .ok (.invokevirtual 32, 3) := by decide +kernel
theorem dX6_readText_27 : decode cX6_readText 27 = .ok (.goto 46, 3) := by decide +kernel
theorem dX6_readText_30 : decode cX6_readText 30 = .ok (.aload_n 0, 1) := by decide +kernel
theorem dX6_readText_31 : decode cX6_readText 31 = .ok (.ldc 35, 2) := by decide +kernel
theorem dX6_readText_33 : decode cX6_readText 33 = .ok (.invokevirtual 28, 3) := by decide +kernel
theorem dX6_readText_36 : decode cX6_readText 36 = .ok (.ifCond .eq 10, 3) := by decide +kernel
theorem dX6_readText_39 : decode cX6_readText 39 = .ok (.aload_n 0, 1) := by decide +kernel
theorem dX6_readText_40 : decode cX6_readText 40 = .ok (.invokevirtual 37, 3) := by decide +kernel
theorem dX6_readText_43 : decode cX6_readText 43 = .ok (.goto 30, 3) := by decide +kernel
theorem dX6_readText_46 : decode cX6_readText 46 = .ok (.aload_n 0, 1) := by decide +kernel
theorem dX6_readText_47 : decode cX6_readText 47 = .ok (.ldc 40, 2) := by decide +kernel
theorem dX6_readText_49 : decode cX6_readText 49 = .ok (.invokevirtual 28, 3) := by decide +kernel
theorem dX6_readText_52 : decode cX6_readText 52 = .ok (.ifCond .eq 10, 3) := by decide +kernel
theorem dX6_readText_55 : decode cX6_readText 55 = .ok (.aload_n 0, 1) := by decide +kernel
theorem dX6_readText_56 : decode cX6_readText 56 = .ok (.invokevirtual 42, 3) := by decide +kernel
theorem dX6_readText_59 : decode cX6_readText 59 = .ok (.goto 14, 3) := by decide +kernel
theorem dX6_readText_62 : decode cX6_readText 62 = .ok (.aload_n 0, 1) := by decide +kernel
theorem dX6_readText_63 : decode cX6_readText 63 = .ok (.aload_n 0, 1) := by decide +kernel
theorem dX6_readText_64 : decode cX6_readText 64 = .ok (.getfield 19, 3) := by decide +kernel
theorem dX6_readText_67 : decode cX6_readText 67 = .ok (.getfield 45, 3) := by decide +kernel
theorem dX6_readText_70 : decode cX6_readText 70 = .ok (.invokevirtual 51, 3) := by decide +kernel
theorem dX6_readText_73 : decode cX6_readText 73 = .ok (.aload_n 0, 1) := by decide +kernel
theorem dX6_readText_74 : decode cX6_readText 74 = .ok (.invokevirtual 55, 3) := by decide +kernel
theorem dX6_readText_77 : decode cX6_readText 77 = .ok (.aload_n 0, 1) := by decide +kernel
theorem dX6_readText_78 : decode cX6_readText 78 = .ok (.getfield 58, 3) := by decide +kernel
theorem dX6_readText_81 : decode cX6_readText 81 = .ok (.ifCond .ne 31, 3) := by decide +kernel
theorem dX6_readText_84 : decode cX6_readText 84 = .ok (.aload_n 0, 1) := by decide +kernel
theorem dX6_readText_85 : decode cX6_readText 85 = .ok (.invokevirtual 61, 3) := by decide +kernel
theorem dX6_readText_88 : decode cX6_readText 88 = .ok (.bipush 59, 2) := by decide +kernel
theorem dX6_readText_90 : decode cX6_readText 90 = .ok (.if_icmp .eq 6, 3) := by decide +kernel
theorem dX6_readText_93 : decode cX6_readText 93 = .ok (.goto 19, 3) := by decide +kernel
theorem dX6_readText_96 : decode cX6_readText 96 = .ok (.aload_n 0, 1) := by decide +kernel
theorem dX6_readText_97 : decode cX6_readText 97 = .ok (.dup, 1) := by decide +kernel
theorem dX6_readText_98 : decode cX6_readText 98 = .ok (.getfield 65, 3) := by decide +kernel
theorem dX6_readText_101 : decode cX6_readText 101 = .ok (.iconst 1, 1) := by decide +kernel
theorem dX6_readText_102 : decode cX6_readText 102 = .ok (.iadd, 1) := by decide +kernel
theorem dX6_readText_103 : decode cX6_readText 103 = .ok (.putfield 65, 3) := by decide +kernel
theorem dX6_readText_106 : decode cX6_readText 106 = .ok (.iinc 1 1, 3) := by decide +kernel
theorem dX6_readText_109 : decode cX6_readText 109 = .ok (.goto (-107), 3) := by decide +kernel
theorem dX6_readText_112 : decode cX6_readText 112 = .ok (.aload_n 0, 1) := by decide +kernel
theorem dX6_readText_113 : decode cX6_readText 113 = .ok (.getfield 65, 3) := by decide +kernel
theorem dX6_readText_116 : decode cX6_readText 116 = .ok (.aload_n 0, 1) := by decide +kernel
theorem dX6_readText_117 : decode cX6_readText 117 = .ok (.getfield 15, 3) := by decide +kernel
theorem dX6_readText_120 : decode cX6_readText 120 = .ok (.if_icmp .ge 12, 3) := by decide +kernel
theorem dX6_readText_123 : decode cX6_readText 123 = .ok (.aload_n 0, 1) := by decide +kernel
theorem dX6_readText_124 : decode cX6_readText 124 = .ok (.iconst 1, 1) := by decide +kernel
theorem dX6_readText_125 : decode cX6_readText 125 = .ok (.aload_n 0, 1) := by decide +kernel
theorem dX6_readText_126 : decode cX6_readText 126 = .ok (.getfield 65, 3) := by decide +kernel
theorem dX6_readText_129 : decode cX6_readText 129 = .ok (.invokevirtual 68, 3) := by decide +kernel
theorem dX6_readText_132 : decode cX6_readText 132 = .ok (.return_, 1) := by decide +kernel
set_option maxRecDepth 100000 in
set_option maxHeartbeats 4000000 in
theorem t_X6_readText (l : Launch) (D : va_G) (ct : Nat → ClassId) (S : ty_S) (ws : va_W) (rd : Nat) (bt : Nat) (tg : Nat) (nb : Nat) (ln : Int32) (pl : Int32) (wst : Int32) (er : Int32) (ep : Int32) (sz : Nat) (hT : ty_W ct S ws) (h_bt : S bt = some (.inr (0, nb))) (h_tg : S tg = some (.inl 9)) (hln : ln.toInt < 2147483647) : Met l yX6_readText (ws_ yX6_readText cX6_readText 2 none) ({ frames := 7, cells := 0, slots := 0, locals := 152 } : Room) (va_Pc [.ref rd] (cmP D ct sz ([(rd, .inr (6, [.ref bt, .int ln, .ref tg, .int pl, .int wst, .int er, .int ep]))] ++ ws))) (va_Qv (fun (u : va_W × Int32 × Int32 × Int32 × Int32) => match u with | (u9, pl1, ws1, er1, ep1) => ty_W ct S u9) (cmB D ([(rd, .inr (6, [.ref bt, .int ln, .ref tg, .int pl, .int wst, .int er, .int ep]))] ++ ws) sz (fun (u : va_W × Int32 × Int32 × Int32 × Int32) => match u with | (u9, pl1, ws1, er1, ep1) => ([(rd, .inr (6, [.ref bt, .int ln, .ref tg, .int pl1, .int ws1, .int er1, .int ep1]))] ++ u9))) (va_A ([(rd, .inr (6, [.ref bt, .int ln, .ref tg, .int pl, .int wst, .int er, .int ep]))] ++ ws) sz)) 0 0 (va_A ([(rd, .inr (6, [.ref bt, .int ln, .ref tg, .int pl, .int wst, .int er, .int ep]))] ++ ws) sz) := by
  refine Met.ofW (cc := cX6_readText) (maxL := 2) (ret := none) (by decide) rfl ?_
  intro p e s m args below meth c s₁ B hml hv
  obtain ⟨rfl, hsz, hP, hK, hD0, hX⟩ := hv
  have hx := B.exec
  have hb := B.bytes
  have hr := B.returns
  have hts := ws_all (atoms_spec (ws := ws_ yX6_readText cX6_readText 2 none) B.pre)
  have hown : s.vm.findClass RX6 = some m.cls := findClass_of_methodNamed B.named
  have hlocks := B.notSynchronized
  subst hsz
  have hD := hD0.self (sz := s.heap.size)
  generalize hAe : va_A ([(rd, .inr (6, [.ref bt, .int ln, .ref tg, .int pl, .int wst, .int er, .int ep]))] ++ ws) s.heap.size = A at hD hX ⊢
  have hA : ∀ q : Nat, s.heap.size ≤ q → A q := fun q h => by rw [← hAe]; exact Or.inr h
  have hS : va_S A s.heap s.heap [] := va_S.rf
  have hl := lv_entry ([.ref rd]) (n := 2) (Nat.le_of_ble_eq_true rfl)
  rw [lg_entry_eq]
  generalize (lg_sl ([.ref rd]) ++ List.replicate (2 - (lg_sl ([.ref rd])).length) Slot.unset).toArray = ls at hl ⊢
  have hl : lv_has ls 2 [(0, .ref rd)] := hl
  refine lv_iconst (v := 0) hx hb dX6_readText_0 (by decide) ?_
  refine lv_istore_n (lv' := [(1, .int 0), (0, .ref rd)]) hx hb dX6_readText_1 rfl hl (by decide) rfl (fun ls hl => ?_)
  refine ty_loop (I := fun μ H locs ls => ∃ (ws : va_W) (y_1 : Int32) (y_2 : Int32) (y_3 : Int32) (y_4 : Int32) (y_5 : Int32), μ = (2147483648 - y_1.toInt).toNat ∧ ty_W ct S ws ∧ va_P D vwCl ([(rd, .inr (6, [.ref bt, .int ln, .ref tg, .int y_2, .int y_3, .int y_4, .int y_5]))] ++ ws) H ∧ va_D A ([(rd, .inr (6, [.ref bt, .int ln, .ref tg, .int y_2, .int y_3, .int y_4, .int y_5]))] ++ ws) ∧ va_S A s.heap H locs ∧ lv_has ls 2 [(1, .int y_1), (0, .ref rd)]) ⟨_, ws, (0 : Int32), pl, wst, er, ep, rfl, hT, hP, hD, hS, (lv_sub hl [0, 1] rfl)⟩ (fun μ H locs ls hI ih_2 => ?_)
  obtain ⟨ws, y_1, y_2, y_3, y_4, y_5, rfl, hT, hP, hD, hS, hl⟩ := hI
  refine lv_iload_n hx hb dX6_readText_2 rfl (lv_at hl 0 rfl) ?_
  refine lv_aload_n hx hb dX6_readText_3 rfl (lv_at hl 1 rfl) ?_
  refine va_get (v := .int ln) (D := D) (ci := 6) (C := RX6) (T := TX6) (N := 7) hx hb hts in_X6 hown hK hP 0 rfl rfl 1 (by decide) (hts _ kl_RX6_15) (fun _ h9 => h9) rfl dX6_readText_4 ?_
  refine lv_icmp_gt (tgt := 112) hx hb dX6_readText_7 (by decide) (fun hc_6 => ?_) (fun hc_6 => ?_)
  · refine lv_aload_n hx hb dX6_readText_112 rfl (lv_at hl 1 rfl) ?_
    refine va_get (v := .int y_2) (D := D) (ci := 6) (C := RX6) (T := TX6) (N := 7) hx hb hts in_X6 hown hK hP 0 rfl rfl 3 (by decide) (hts _ kl_RX6_65) (fun _ h9 => h9) rfl dX6_readText_113 ?_
    refine lv_aload_n hx hb dX6_readText_116 rfl (lv_at hl 1 rfl) ?_
    refine va_get (v := .int ln) (D := D) (ci := 6) (C := RX6) (T := TX6) (N := 7) hx hb hts in_X6 hown hK hP 0 rfl rfl 1 (by decide) (hts _ kl_RX6_15) (fun _ h9 => h9) rfl dX6_readText_117 ?_
    refine lv_icmp_ge (tgt := 132) hx hb dX6_readText_120 (by decide) (fun hc_7 => ?_) (fun hc_7 => ?_)
    · exact W.vret hx hb hr (fun t ht hW => ⟨⟨(ws, y_2, y_3, y_4, y_5), rfl, hT, by rw [ht]; exact hP, by rw [hAe]; exact hD⟩, hS.F ht⟩) hS.2.2 dX6_readText_132
    · refine lv_aload_n hx hb dX6_readText_123 rfl (lv_at hl 1 rfl) ?_
      refine lv_iconst (v := 1) hx hb dX6_readText_124 (by decide) ?_
      refine lv_aload_n hx hb dX6_readText_125 rfl (lv_at hl 1 rfl) ?_
      refine va_get (v := .int y_2) (D := D) (ci := 6) (C := RX6) (T := TX6) (N := 7) hx hb hts in_X6 hown hK hP 0 rfl rfl 3 (by decide) (hts _ kl_RX6_65) (fun _ h9 => h9) rfl dX6_readText_126 ?_
      refine ty_kv (wr := []) (wc := ([(rd, .inr (6, [.ref bt, .int ln, .ref tg, .int y_2, .int y_3, .int y_4, .int y_5]))] ++ ws)) (va_runV (As := [.int 1, .int y_2]) (rest := []) ⟨hx, hb, hml, hown, hts⟩ (t_X6_fail l D ct S ws rd bt tg nb ln y_2 y_3 y_4 y_5 (1 : Int32) y_2 _ hT h_bt h_tg) (cm_V 2 hts kc_X6_fail ki_RX6 kl_RX6_68 kv_X6_fail kx_X6_fail kd_X6_fail ⟨Nat.le_of_ble_eq_true rfl, Nat.le_of_ble_eq_true rfl⟩) (ty_preE (wr := []) (wc := ([(rd, .inr (6, [.ref bt, .int ln, .ref tg, .int y_2, .int y_3, .int y_4, .int y_5]))] ++ ws)) (ci := 6) (q0 := 0) hP hK hD hS hA hX rfl rfl) rfl rfl hl.1 rfl (lv_room (Nat.le_of_ble_eq_true rfl)) dX6_readText_129 ⟨Nat.le_of_ble_eq_true rfl, Nat.le_of_ble_eq_true rfl⟩) hP hD hS hA (fun u H locs hw_9 hP hD hS => ?_)
      obtain ⟨ws_10, er1_11, ep1_12⟩ := u
      have hT := hw_9
      have hP : va_P D vwCl ([(rd, .inr (6, [.ref bt, .int ln, .ref tg, .int y_2, .int y_3, .int er1_11, .int ep1_12]))] ++ ws_10) H := hP
      have hD : va_D A ([(rd, .inr (6, [.ref bt, .int ln, .ref tg, .int y_2, .int y_3, .int er1_11, .int ep1_12]))] ++ ws_10) := hD
      exact W.vret hx hb hr (fun t ht hW => ⟨⟨(ws_10, y_2, y_3, er1_11, ep1_12), rfl, hT, by rw [ht]; exact hP, by rw [hAe]; exact hD⟩, hS.F ht⟩) hS.2.2 dX6_readText_132
  · refine lv_aload_n hx hb dX6_readText_10 rfl (lv_at hl 1 rfl) ?_
    refine ty_kv (wr := []) (wc := ([(rd, .inr (6, [.ref bt, .int ln, .ref tg, .int y_2, .int y_3, .int y_4, .int y_5]))] ++ ws)) (va_runV (As := []) (rest := []) ⟨hx, hb, hml, hown, hts⟩ (t_X6_readWord l D ct S ws rd bt tg nb ln y_2 y_3 y_4 y_5 _ hT h_bt h_tg) (cm_V 0 hts kc_X6_readWord ki_RX6 kl_RX6_23 kv_X6_readWord kx_X6_readWord kd_X6_readWord ⟨Nat.le_of_ble_eq_true rfl, Nat.le_of_ble_eq_true rfl⟩) (ty_preE (wr := []) (wc := ([(rd, .inr (6, [.ref bt, .int ln, .ref tg, .int y_2, .int y_3, .int y_4, .int y_5]))] ++ ws)) (ci := 6) (q0 := 0) hP hK hD hS hA hX rfl rfl) rfl rfl hl.1 rfl (lv_room (Nat.le_of_ble_eq_true rfl)) dX6_readText_11 ⟨Nat.le_of_ble_eq_true rfl, Nat.le_of_ble_eq_true rfl⟩) hP hD hS hA (fun u H locs hw_14 hP hD hS => ?_)
    obtain ⟨ws_15, pl1_16, ws1_17, er1_18, ep1_19⟩ := u
    have hT := hw_14
    have hP : va_P D vwCl ([(rd, .inr (6, [.ref bt, .int ln, .ref tg, .int pl1_16, .int ws1_17, .int er1_18, .int ep1_19]))] ++ ws_15) H := hP
    have hD : va_D A ([(rd, .inr (6, [.ref bt, .int ln, .ref tg, .int pl1_16, .int ws1_17, .int er1_18, .int ep1_19]))] ++ ws_15) := hD
    refine lv_aload_n hx hb dX6_readText_14 rfl (lv_at hl 1 rfl) ?_
    obtain ⟨sa_20, sv_21, hsr_22, hss_23⟩ := hX.2.2.2.1 ("CellCycler$Reader", 26, "curve", [99, 117, 114, 118, 101]) (by decide +kernel)
    refine va_ldcS hx hb hown hsr_22 dX6_readText_15 ?_
    refine ty_ki (wr := []) (wc := ([(rd, .inr (6, [.ref bt, .int ln, .ref tg, .int pl1_16, .int ws1_17, .int er1_18, .int ep1_19]))] ++ ws_15)) (va_runV (As := [.ref sa_20]) (rest := []) ⟨hx, hb, hml, hown, hts⟩ (t_X6_wordIs l D ct S ws_15 rd bt tg nb ln pl1_16 ws1_17 er1_18 ep1_19 sa_20 ("CellCycler$Reader", 26, "curve", [99, 117, 114, 118, 101]) _ hT h_bt h_tg (by decide +kernel)) (cm_V 1 hts kc_X6_wordIs ki_RX6 kl_RX6_28 kv_X6_wordIs kx_X6_wordIs kd_X6_wordIs ⟨Nat.le_of_ble_eq_true rfl, Nat.le_of_ble_eq_true rfl⟩) (cm_preVs (ty_preE (wr := []) (wc := ([(rd, .inr (6, [.ref bt, .int ln, .ref tg, .int pl1_16, .int ws1_17, .int er1_18, .int ep1_19]))] ++ ws_15)) (ci := 6) (q0 := 0) hP hK hD hS hA hX rfl rfl) hsr_22) rfl rfl hl.1 rfl (lv_room (Nat.le_of_ble_eq_true rfl)) dX6_readText_17 ⟨Nat.le_of_ble_eq_true rfl, Nat.le_of_ble_eq_true rfl⟩) hP hD hS hA (fun r_24 u H locs hw_25 hP hD hS => ?_)
    obtain ⟨ws_26, rfl⟩ : ∃ z, z = u := ⟨_, rfl⟩
    have hT := hw_25
    have hP : va_P D vwCl ([(rd, .inr (6, [.ref bt, .int ln, .ref tg, .int pl1_16, .int ws1_17, .int er1_18, .int ep1_19]))] ++ ws_26) H := hP
    have hD : va_D A ([(rd, .inr (6, [.ref bt, .int ln, .ref tg, .int pl1_16, .int ws1_17, .int er1_18, .int ep1_19]))] ++ ws_26) := hD
    refine lv_if_eq (tgt := 30) hx hb dX6_readText_20 (by decide) (fun hc_27 => ?_) (fun hc_27 => ?_)
    · refine lv_aload_n hx hb dX6_readText_30 rfl (lv_at hl 1 rfl) ?_
      obtain ⟨sa_28, sv_29, hsr_30, hss_31⟩ := hX.2.2.2.1 ("CellCycler$Reader", 35, "cell", [99, 101, 108, 108]) (by decide +kernel)
      refine va_ldcS hx hb hown hsr_30 dX6_readText_31 ?_
      refine ty_ki (wr := []) (wc := ([(rd, .inr (6, [.ref bt, .int ln, .ref tg, .int pl1_16, .int ws1_17, .int er1_18, .int ep1_19]))] ++ ws_26)) (va_runV (As := [.ref sa_28]) (rest := []) ⟨hx, hb, hml, hown, hts⟩ (t_X6_wordIs l D ct S ws_26 rd bt tg nb ln pl1_16 ws1_17 er1_18 ep1_19 sa_28 ("CellCycler$Reader", 35, "cell", [99, 101, 108, 108]) _ hT h_bt h_tg (by decide +kernel)) (cm_V 1 hts kc_X6_wordIs ki_RX6 kl_RX6_28 kv_X6_wordIs kx_X6_wordIs kd_X6_wordIs ⟨Nat.le_of_ble_eq_true rfl, Nat.le_of_ble_eq_true rfl⟩) (cm_preVs (ty_preE (wr := []) (wc := ([(rd, .inr (6, [.ref bt, .int ln, .ref tg, .int pl1_16, .int ws1_17, .int er1_18, .int ep1_19]))] ++ ws_26)) (ci := 6) (q0 := 0) hP hK hD hS hA hX rfl rfl) hsr_30) rfl rfl hl.1 rfl (lv_room (Nat.le_of_ble_eq_true rfl)) dX6_readText_33 ⟨Nat.le_of_ble_eq_true rfl, Nat.le_of_ble_eq_true rfl⟩) hP hD hS hA (fun r_32 u H locs hw_33 hP hD hS => ?_)
      obtain ⟨ws_34, rfl⟩ : ∃ z, z = u := ⟨_, rfl⟩
      have hT := hw_33
      have hP : va_P D vwCl ([(rd, .inr (6, [.ref bt, .int ln, .ref tg, .int pl1_16, .int ws1_17, .int er1_18, .int ep1_19]))] ++ ws_34) H := hP
      have hD : va_D A ([(rd, .inr (6, [.ref bt, .int ln, .ref tg, .int pl1_16, .int ws1_17, .int er1_18, .int ep1_19]))] ++ ws_34) := hD
      refine lv_if_eq (tgt := 46) hx hb dX6_readText_36 (by decide) (fun hc_35 => ?_) (fun hc_35 => ?_)
      · refine lv_aload_n hx hb dX6_readText_46 rfl (lv_at hl 1 rfl) ?_
        obtain ⟨sa_36, sv_37, hsr_38, hss_39⟩ := hX.2.2.2.1 ("CellCycler$Reader", 40, "program", [112, 114, 111, 103, 114, 97, 109]) (by decide +kernel)
        refine va_ldcS hx hb hown hsr_38 dX6_readText_47 ?_
        refine ty_ki (wr := []) (wc := ([(rd, .inr (6, [.ref bt, .int ln, .ref tg, .int pl1_16, .int ws1_17, .int er1_18, .int ep1_19]))] ++ ws_34)) (va_runV (As := [.ref sa_36]) (rest := []) ⟨hx, hb, hml, hown, hts⟩ (t_X6_wordIs l D ct S ws_34 rd bt tg nb ln pl1_16 ws1_17 er1_18 ep1_19 sa_36 ("CellCycler$Reader", 40, "program", [112, 114, 111, 103, 114, 97, 109]) _ hT h_bt h_tg (by decide +kernel)) (cm_V 1 hts kc_X6_wordIs ki_RX6 kl_RX6_28 kv_X6_wordIs kx_X6_wordIs kd_X6_wordIs ⟨Nat.le_of_ble_eq_true rfl, Nat.le_of_ble_eq_true rfl⟩) (cm_preVs (ty_preE (wr := []) (wc := ([(rd, .inr (6, [.ref bt, .int ln, .ref tg, .int pl1_16, .int ws1_17, .int er1_18, .int ep1_19]))] ++ ws_34)) (ci := 6) (q0 := 0) hP hK hD hS hA hX rfl rfl) hsr_38) rfl rfl hl.1 rfl (lv_room (Nat.le_of_ble_eq_true rfl)) dX6_readText_49 ⟨Nat.le_of_ble_eq_true rfl, Nat.le_of_ble_eq_true rfl⟩) hP hD hS hA (fun r_40 u H locs hw_41 hP hD hS => ?_)
        obtain ⟨ws_42, rfl⟩ : ∃ z, z = u := ⟨_, rfl⟩
        have hT := hw_41
        have hP : va_P D vwCl ([(rd, .inr (6, [.ref bt, .int ln, .ref tg, .int pl1_16, .int ws1_17, .int er1_18, .int ep1_19]))] ++ ws_42) H := hP
        have hD : va_D A ([(rd, .inr (6, [.ref bt, .int ln, .ref tg, .int pl1_16, .int ws1_17, .int er1_18, .int ep1_19]))] ++ ws_42) := hD
        refine lv_if_eq (tgt := 62) hx hb dX6_readText_52 (by decide) (fun hc_43 => ?_) (fun hc_43 => ?_)
        · refine lv_aload_n hx hb dX6_readText_62 rfl (lv_at hl 1 rfl) ?_
          refine lv_aload_n hx hb dX6_readText_63 rfl (lv_at hl 1 rfl) ?_
          refine va_get (v := .ref tg) (D := D) (ci := 6) (C := RX6) (T := TX6) (N := 7) hx hb hts in_X6 hown hK hP 0 rfl rfl 2 (by decide) (hts _ kl_RX6_19) (fun _ h9 => h9) rfl dX6_readText_64 ?_
          refine ty_getN (E := [(rd, .inr (6, [.ref bt, .int ln, .ref tg, .int pl1_16, .int ws1_17, .int er1_18, .int ep1_19]))]) (ws := ws_42) (D := D) (ci := 9) (C := RX9) (T := TX9) (N := 8) hx hb hts in_X9 hown hK hP hT h_tg rfl 1 (by decide) (hts _ kl_RX6_45) (fun _ h9 => h9) rfl dX6_readText_67 (fun _ hv_44 hf_45 => ?_)
          obtain ⟨a_46, rfl, ha_47⟩ := hv_44
          refine ty_kv (wr := []) (wc := ([(rd, .inr (6, [.ref bt, .int ln, .ref tg, .int pl1_16, .int ws1_17, .int er1_18, .int ep1_19]))] ++ ws_42)) (va_runV (As := [.ref a_46]) (rest := []) ⟨hx, hb, hml, hown, hts⟩ (t_X6_readSetting l D ct S ws_42 rd bt tg nb ln pl1_16 ws1_17 er1_18 ep1_19 a_46 _ hT h_bt h_tg ha_47) (cm_V 1 hts kc_X6_readSetting ki_RX6 kl_RX6_51 kv_X6_readSetting kx_X6_readSetting kd_X6_readSetting ⟨Nat.le_of_ble_eq_true rfl, Nat.le_of_ble_eq_true rfl⟩) (ty_preE (wr := []) (wc := ([(rd, .inr (6, [.ref bt, .int ln, .ref tg, .int pl1_16, .int ws1_17, .int er1_18, .int ep1_19]))] ++ ws_42)) (ci := 6) (q0 := 0) hP hK hD hS hA hX rfl rfl) rfl rfl hl.1 rfl (lv_room (Nat.le_of_ble_eq_true rfl)) dX6_readText_70 ⟨Nat.le_of_ble_eq_true rfl, Nat.le_of_ble_eq_true rfl⟩) hP hD hS hA (fun u H locs hw_49 hP hD hS => ?_)
          obtain ⟨ws_50, pl1_51, ws1_52, er1_53, ep1_54⟩ := u
          have hT := hw_49
          have hP : va_P D vwCl ([(rd, .inr (6, [.ref bt, .int ln, .ref tg, .int pl1_51, .int ws1_52, .int er1_53, .int ep1_54]))] ++ ws_50) H := hP
          have hD : va_D A ([(rd, .inr (6, [.ref bt, .int ln, .ref tg, .int pl1_51, .int ws1_52, .int er1_53, .int ep1_54]))] ++ ws_50) := hD
          refine lv_aload_n hx hb dX6_readText_73 rfl (lv_at hl 1 rfl) ?_
          refine ty_kv (wr := []) (wc := ([(rd, .inr (6, [.ref bt, .int ln, .ref tg, .int pl1_51, .int ws1_52, .int er1_53, .int ep1_54]))] ++ ws_50)) (va_runV (As := []) (rest := []) ⟨hx, hb, hml, hown, hts⟩ (t_X6_skipSpaces l D ct S ws_50 rd bt tg nb ln pl1_51 ws1_52 er1_53 ep1_54 _ hT h_bt h_tg) (cm_V 0 hts kc_X6_skipSpaces ki_RX6 kl_RX6_55 kv_X6_skipSpaces kx_X6_skipSpaces kd_X6_skipSpaces ⟨Nat.le_of_ble_eq_true rfl, Nat.le_of_ble_eq_true rfl⟩) (ty_preE (wr := []) (wc := ([(rd, .inr (6, [.ref bt, .int ln, .ref tg, .int pl1_51, .int ws1_52, .int er1_53, .int ep1_54]))] ++ ws_50)) (ci := 6) (q0 := 0) hP hK hD hS hA hX rfl rfl) rfl rfl hl.1 rfl (lv_room (Nat.le_of_ble_eq_true rfl)) dX6_readText_74 ⟨Nat.le_of_ble_eq_true rfl, Nat.le_of_ble_eq_true rfl⟩) hP hD hS hA (fun u H locs hw_56 hP hD hS => ?_)
          obtain ⟨ws_57, pl1_58⟩ := u
          have hT := hw_56
          have hP : va_P D vwCl ([(rd, .inr (6, [.ref bt, .int ln, .ref tg, .int pl1_58, .int ws1_52, .int er1_53, .int ep1_54]))] ++ ws_57) H := hP
          have hD : va_D A ([(rd, .inr (6, [.ref bt, .int ln, .ref tg, .int pl1_58, .int ws1_52, .int er1_53, .int ep1_54]))] ++ ws_57) := hD
          refine lv_aload_n hx hb dX6_readText_77 rfl (lv_at hl 1 rfl) ?_
          refine va_get (v := .int er1_53) (D := D) (ci := 6) (C := RX6) (T := TX6) (N := 7) hx hb hts in_X6 hown hK hP 0 rfl rfl 5 (by decide) (hts _ kl_RX6_58) (fun _ h9 => h9) rfl dX6_readText_78 ?_
          refine lv_if_ne (tgt := 112) hx hb dX6_readText_81 (by decide) (fun hc_59 => ?_) (fun hc_59 => ?_)
          · refine lv_aload_n hx hb dX6_readText_112 rfl (lv_at hl 1 rfl) ?_
            refine va_get (v := .int pl1_58) (D := D) (ci := 6) (C := RX6) (T := TX6) (N := 7) hx hb hts in_X6 hown hK hP 0 rfl rfl 3 (by decide) (hts _ kl_RX6_65) (fun _ h9 => h9) rfl dX6_readText_113 ?_
            refine lv_aload_n hx hb dX6_readText_116 rfl (lv_at hl 1 rfl) ?_
            refine va_get (v := .int ln) (D := D) (ci := 6) (C := RX6) (T := TX6) (N := 7) hx hb hts in_X6 hown hK hP 0 rfl rfl 1 (by decide) (hts _ kl_RX6_15) (fun _ h9 => h9) rfl dX6_readText_117 ?_
            refine lv_icmp_ge (tgt := 132) hx hb dX6_readText_120 (by decide) (fun hc_60 => ?_) (fun hc_60 => ?_)
            · exact W.vret hx hb hr (fun t ht hW => ⟨⟨(ws_57, pl1_58, ws1_52, er1_53, ep1_54), rfl, hT, by rw [ht]; exact hP, by rw [hAe]; exact hD⟩, hS.F ht⟩) hS.2.2 dX6_readText_132
            · refine lv_aload_n hx hb dX6_readText_123 rfl (lv_at hl 1 rfl) ?_
              refine lv_iconst (v := 1) hx hb dX6_readText_124 (by decide) ?_
              refine lv_aload_n hx hb dX6_readText_125 rfl (lv_at hl 1 rfl) ?_
              refine va_get (v := .int pl1_58) (D := D) (ci := 6) (C := RX6) (T := TX6) (N := 7) hx hb hts in_X6 hown hK hP 0 rfl rfl 3 (by decide) (hts _ kl_RX6_65) (fun _ h9 => h9) rfl dX6_readText_126 ?_
              refine ty_kv (wr := []) (wc := ([(rd, .inr (6, [.ref bt, .int ln, .ref tg, .int pl1_58, .int ws1_52, .int er1_53, .int ep1_54]))] ++ ws_57)) (va_runV (As := [.int 1, .int pl1_58]) (rest := []) ⟨hx, hb, hml, hown, hts⟩ (t_X6_fail l D ct S ws_57 rd bt tg nb ln pl1_58 ws1_52 er1_53 ep1_54 (1 : Int32) pl1_58 _ hT h_bt h_tg) (cm_V 2 hts kc_X6_fail ki_RX6 kl_RX6_68 kv_X6_fail kx_X6_fail kd_X6_fail ⟨Nat.le_of_ble_eq_true rfl, Nat.le_of_ble_eq_true rfl⟩) (ty_preE (wr := []) (wc := ([(rd, .inr (6, [.ref bt, .int ln, .ref tg, .int pl1_58, .int ws1_52, .int er1_53, .int ep1_54]))] ++ ws_57)) (ci := 6) (q0 := 0) hP hK hD hS hA hX rfl rfl) rfl rfl hl.1 rfl (lv_room (Nat.le_of_ble_eq_true rfl)) dX6_readText_129 ⟨Nat.le_of_ble_eq_true rfl, Nat.le_of_ble_eq_true rfl⟩) hP hD hS hA (fun u H locs hw_62 hP hD hS => ?_)
              obtain ⟨ws_63, er1_64, ep1_65⟩ := u
              have hT := hw_62
              have hP : va_P D vwCl ([(rd, .inr (6, [.ref bt, .int ln, .ref tg, .int pl1_58, .int ws1_52, .int er1_64, .int ep1_65]))] ++ ws_63) H := hP
              have hD : va_D A ([(rd, .inr (6, [.ref bt, .int ln, .ref tg, .int pl1_58, .int ws1_52, .int er1_64, .int ep1_65]))] ++ ws_63) := hD
              exact W.vret hx hb hr (fun t ht hW => ⟨⟨(ws_63, pl1_58, ws1_52, er1_64, ep1_65), rfl, hT, by rw [ht]; exact hP, by rw [hAe]; exact hD⟩, hS.F ht⟩) hS.2.2 dX6_readText_132
          · refine lv_aload_n hx hb dX6_readText_84 rfl (lv_at hl 1 rfl) ?_
            refine ty_ki (wr := []) (wc := ([(rd, .inr (6, [.ref bt, .int ln, .ref tg, .int pl1_58, .int ws1_52, .int er1_53, .int ep1_54]))] ++ ws_57)) (va_runV (As := []) (rest := []) ⟨hx, hb, hml, hown, hts⟩ (t_X6_next l D ct S ws_57 rd bt tg nb ln pl1_58 ws1_52 er1_53 ep1_54 _ hT h_bt h_tg) (cm_V 0 hts kc_X6_next ki_RX6 kl_RX6_61 kv_X6_next kx_X6_next kd_X6_next ⟨Nat.le_of_ble_eq_true rfl, Nat.le_of_ble_eq_true rfl⟩) (ty_preE (wr := []) (wc := ([(rd, .inr (6, [.ref bt, .int ln, .ref tg, .int pl1_58, .int ws1_52, .int er1_53, .int ep1_54]))] ++ ws_57)) (ci := 6) (q0 := 0) hP hK hD hS hA hX rfl rfl) rfl rfl hl.1 rfl (lv_room (Nat.le_of_ble_eq_true rfl)) dX6_readText_85 ⟨Nat.le_of_ble_eq_true rfl, Nat.le_of_ble_eq_true rfl⟩) hP hD hS hA (fun r_66 u H locs hw_67 hP hD hS => ?_)
            obtain ⟨ws_68, rfl⟩ : ∃ z, z = u := ⟨_, rfl⟩
            have hT := hw_67
            have hP : va_P D vwCl ([(rd, .inr (6, [.ref bt, .int ln, .ref tg, .int pl1_58, .int ws1_52, .int er1_53, .int ep1_54]))] ++ ws_68) H := hP
            have hD : va_D A ([(rd, .inr (6, [.ref bt, .int ln, .ref tg, .int pl1_58, .int ws1_52, .int er1_53, .int ep1_54]))] ++ ws_68) := hD
            refine lv_bipush (v := 59) hx hb dX6_readText_88 (by decide) ?_
            refine lv_icmp_eq (tgt := 96) hx hb dX6_readText_90 (by decide) (fun hc_69 => ?_) (fun hc_69 => ?_)
            · refine lv_aload_n hx hb dX6_readText_96 rfl (lv_at hl 1 rfl) ?_
              refine lv_dup hx hb dX6_readText_97 rfl ?_
              refine va_get (v := .int pl1_58) (D := D) (ci := 6) (C := RX6) (T := TX6) (N := 7) hx hb hts in_X6 hown hK hP 0 rfl rfl 3 (by decide) (hts _ kl_RX6_65) (fun _ h9 => h9) rfl dX6_readText_98 ?_
              refine lv_iconst (v := 1) hx hb dX6_readText_101 (by decide) ?_
              refine lv_iadd hx hb dX6_readText_102 ?_
              refine lv_topi (fun x_70 _ => ?_)
              refine va_put (v := .int x_70) (ty := .int) (D := D) (ci := 6) (C := RX6) (T := TX6) (N := 7) hx hb hts in_X6 tyX6 tyX6_ok nmX6 hown hK hP hD hS 0 rfl rfl 3 (by decide) (hts _ kl_RX6_65) (fun _ h9 => h9) rfl (by decide +kernel) rfl rfl (Nat.le_of_ble_eq_true rfl) dX6_readText_103 (fun H locs hP hD hS => ?_)
              have hP : va_P D vwCl ([(rd, .inr (6, [.ref bt, .int ln, .ref tg, .int x_70, .int ws1_52, .int er1_53, .int ep1_54]))] ++ ws_68) H := hP
              have hD : va_D A ([(rd, .inr (6, [.ref bt, .int ln, .ref tg, .int x_70, .int ws1_52, .int er1_53, .int ep1_54]))] ++ ws_68) := hD
              refine lv_iinc (v := (y_1 + Int32.ofInt 1)) (lv' := [(1, .int (y_1 + Int32.ofInt 1)), (0, .ref rd)]) hx hb dX6_readText_106 hl (k := 0) rfl rfl (by decide) rfl (fun ls hl => ?_)
              refine lv_goto (tgt := 2) hx hb dX6_readText_109 (by decide) ?_
              exact ih_2 _ _ _ _ (ty_incle hc_6 hln) ⟨ws_68, (y_1 + Int32.ofInt 1), x_70, ws1_52, er1_53, ep1_54, rfl, hT, hP, hD, hS, (lv_sub hl [0, 1] rfl)⟩
            · refine lv_goto (tgt := 112) hx hb dX6_readText_93 (by decide) ?_
              refine lv_aload_n hx hb dX6_readText_112 rfl (lv_at hl 1 rfl) ?_
              refine va_get (v := .int pl1_58) (D := D) (ci := 6) (C := RX6) (T := TX6) (N := 7) hx hb hts in_X6 hown hK hP 0 rfl rfl 3 (by decide) (hts _ kl_RX6_65) (fun _ h9 => h9) rfl dX6_readText_113 ?_
              refine lv_aload_n hx hb dX6_readText_116 rfl (lv_at hl 1 rfl) ?_
              refine va_get (v := .int ln) (D := D) (ci := 6) (C := RX6) (T := TX6) (N := 7) hx hb hts in_X6 hown hK hP 0 rfl rfl 1 (by decide) (hts _ kl_RX6_15) (fun _ h9 => h9) rfl dX6_readText_117 ?_
              refine lv_icmp_ge (tgt := 132) hx hb dX6_readText_120 (by decide) (fun hc_71 => ?_) (fun hc_71 => ?_)
              · exact W.vret hx hb hr (fun t ht hW => ⟨⟨(ws_68, pl1_58, ws1_52, er1_53, ep1_54), rfl, hT, by rw [ht]; exact hP, by rw [hAe]; exact hD⟩, hS.F ht⟩) hS.2.2 dX6_readText_132
              · refine lv_aload_n hx hb dX6_readText_123 rfl (lv_at hl 1 rfl) ?_
                refine lv_iconst (v := 1) hx hb dX6_readText_124 (by decide) ?_
                refine lv_aload_n hx hb dX6_readText_125 rfl (lv_at hl 1 rfl) ?_
                refine va_get (v := .int pl1_58) (D := D) (ci := 6) (C := RX6) (T := TX6) (N := 7) hx hb hts in_X6 hown hK hP 0 rfl rfl 3 (by decide) (hts _ kl_RX6_65) (fun _ h9 => h9) rfl dX6_readText_126 ?_
                refine ty_kv (wr := []) (wc := ([(rd, .inr (6, [.ref bt, .int ln, .ref tg, .int pl1_58, .int ws1_52, .int er1_53, .int ep1_54]))] ++ ws_68)) (va_runV (As := [.int 1, .int pl1_58]) (rest := []) ⟨hx, hb, hml, hown, hts⟩ (t_X6_fail l D ct S ws_68 rd bt tg nb ln pl1_58 ws1_52 er1_53 ep1_54 (1 : Int32) pl1_58 _ hT h_bt h_tg) (cm_V 2 hts kc_X6_fail ki_RX6 kl_RX6_68 kv_X6_fail kx_X6_fail kd_X6_fail ⟨Nat.le_of_ble_eq_true rfl, Nat.le_of_ble_eq_true rfl⟩) (ty_preE (wr := []) (wc := ([(rd, .inr (6, [.ref bt, .int ln, .ref tg, .int pl1_58, .int ws1_52, .int er1_53, .int ep1_54]))] ++ ws_68)) (ci := 6) (q0 := 0) hP hK hD hS hA hX rfl rfl) rfl rfl hl.1 rfl (lv_room (Nat.le_of_ble_eq_true rfl)) dX6_readText_129 ⟨Nat.le_of_ble_eq_true rfl, Nat.le_of_ble_eq_true rfl⟩) hP hD hS hA (fun u H locs hw_73 hP hD hS => ?_)
                obtain ⟨ws_74, er1_75, ep1_76⟩ := u
                have hT := hw_73
                have hP : va_P D vwCl ([(rd, .inr (6, [.ref bt, .int ln, .ref tg, .int pl1_58, .int ws1_52, .int er1_75, .int ep1_76]))] ++ ws_74) H := hP
                have hD : va_D A ([(rd, .inr (6, [.ref bt, .int ln, .ref tg, .int pl1_58, .int ws1_52, .int er1_75, .int ep1_76]))] ++ ws_74) := hD
                exact W.vret hx hb hr (fun t ht hW => ⟨⟨(ws_74, pl1_58, ws1_52, er1_75, ep1_76), rfl, hT, by rw [ht]; exact hP, by rw [hAe]; exact hD⟩, hS.F ht⟩) hS.2.2 dX6_readText_132
        · refine lv_aload_n hx hb dX6_readText_55 rfl (lv_at hl 1 rfl) ?_
          refine ty_kv (wr := []) (wc := ([(rd, .inr (6, [.ref bt, .int ln, .ref tg, .int pl1_16, .int ws1_17, .int er1_18, .int ep1_19]))] ++ ws_42)) (va_runV (As := []) (rest := []) ⟨hx, hb, hml, hown, hts⟩ (t_X6_readProgram l D ct S ws_42 rd bt tg nb ln pl1_16 ws1_17 er1_18 ep1_19 _ hT h_bt h_tg) (cm_V 0 hts kc_X6_readProgram ki_RX6 kl_RX6_42 kv_X6_readProgram kx_X6_readProgram kd_X6_readProgram ⟨Nat.le_of_ble_eq_true rfl, Nat.le_of_ble_eq_true rfl⟩) (ty_preE (wr := []) (wc := ([(rd, .inr (6, [.ref bt, .int ln, .ref tg, .int pl1_16, .int ws1_17, .int er1_18, .int ep1_19]))] ++ ws_42)) (ci := 6) (q0 := 0) hP hK hD hS hA hX rfl rfl) rfl rfl hl.1 rfl (lv_room (Nat.le_of_ble_eq_true rfl)) dX6_readText_56 ⟨Nat.le_of_ble_eq_true rfl, Nat.le_of_ble_eq_true rfl⟩) hP hD hS hA (fun u H locs hw_78 hP hD hS => ?_)
          obtain ⟨ws_79, pl1_80, ws1_81, er1_82, ep1_83⟩ := u
          have hT := hw_78
          have hP : va_P D vwCl ([(rd, .inr (6, [.ref bt, .int ln, .ref tg, .int pl1_80, .int ws1_81, .int er1_82, .int ep1_83]))] ++ ws_79) H := hP
          have hD : va_D A ([(rd, .inr (6, [.ref bt, .int ln, .ref tg, .int pl1_80, .int ws1_81, .int er1_82, .int ep1_83]))] ++ ws_79) := hD
          refine lv_goto (tgt := 73) hx hb dX6_readText_59 (by decide) ?_
          refine lv_aload_n hx hb dX6_readText_73 rfl (lv_at hl 1 rfl) ?_
          refine ty_kv (wr := []) (wc := ([(rd, .inr (6, [.ref bt, .int ln, .ref tg, .int pl1_80, .int ws1_81, .int er1_82, .int ep1_83]))] ++ ws_79)) (va_runV (As := []) (rest := []) ⟨hx, hb, hml, hown, hts⟩ (t_X6_skipSpaces l D ct S ws_79 rd bt tg nb ln pl1_80 ws1_81 er1_82 ep1_83 _ hT h_bt h_tg) (cm_V 0 hts kc_X6_skipSpaces ki_RX6 kl_RX6_55 kv_X6_skipSpaces kx_X6_skipSpaces kd_X6_skipSpaces ⟨Nat.le_of_ble_eq_true rfl, Nat.le_of_ble_eq_true rfl⟩) (ty_preE (wr := []) (wc := ([(rd, .inr (6, [.ref bt, .int ln, .ref tg, .int pl1_80, .int ws1_81, .int er1_82, .int ep1_83]))] ++ ws_79)) (ci := 6) (q0 := 0) hP hK hD hS hA hX rfl rfl) rfl rfl hl.1 rfl (lv_room (Nat.le_of_ble_eq_true rfl)) dX6_readText_74 ⟨Nat.le_of_ble_eq_true rfl, Nat.le_of_ble_eq_true rfl⟩) hP hD hS hA (fun u H locs hw_85 hP hD hS => ?_)
          obtain ⟨ws_86, pl1_87⟩ := u
          have hT := hw_85
          have hP : va_P D vwCl ([(rd, .inr (6, [.ref bt, .int ln, .ref tg, .int pl1_87, .int ws1_81, .int er1_82, .int ep1_83]))] ++ ws_86) H := hP
          have hD : va_D A ([(rd, .inr (6, [.ref bt, .int ln, .ref tg, .int pl1_87, .int ws1_81, .int er1_82, .int ep1_83]))] ++ ws_86) := hD
          refine lv_aload_n hx hb dX6_readText_77 rfl (lv_at hl 1 rfl) ?_
          refine va_get (v := .int er1_82) (D := D) (ci := 6) (C := RX6) (T := TX6) (N := 7) hx hb hts in_X6 hown hK hP 0 rfl rfl 5 (by decide) (hts _ kl_RX6_58) (fun _ h9 => h9) rfl dX6_readText_78 ?_
          refine lv_if_ne (tgt := 112) hx hb dX6_readText_81 (by decide) (fun hc_88 => ?_) (fun hc_88 => ?_)
          · refine lv_aload_n hx hb dX6_readText_112 rfl (lv_at hl 1 rfl) ?_
            refine va_get (v := .int pl1_87) (D := D) (ci := 6) (C := RX6) (T := TX6) (N := 7) hx hb hts in_X6 hown hK hP 0 rfl rfl 3 (by decide) (hts _ kl_RX6_65) (fun _ h9 => h9) rfl dX6_readText_113 ?_
            refine lv_aload_n hx hb dX6_readText_116 rfl (lv_at hl 1 rfl) ?_
            refine va_get (v := .int ln) (D := D) (ci := 6) (C := RX6) (T := TX6) (N := 7) hx hb hts in_X6 hown hK hP 0 rfl rfl 1 (by decide) (hts _ kl_RX6_15) (fun _ h9 => h9) rfl dX6_readText_117 ?_
            refine lv_icmp_ge (tgt := 132) hx hb dX6_readText_120 (by decide) (fun hc_89 => ?_) (fun hc_89 => ?_)
            · exact W.vret hx hb hr (fun t ht hW => ⟨⟨(ws_86, pl1_87, ws1_81, er1_82, ep1_83), rfl, hT, by rw [ht]; exact hP, by rw [hAe]; exact hD⟩, hS.F ht⟩) hS.2.2 dX6_readText_132
            · refine lv_aload_n hx hb dX6_readText_123 rfl (lv_at hl 1 rfl) ?_
              refine lv_iconst (v := 1) hx hb dX6_readText_124 (by decide) ?_
              refine lv_aload_n hx hb dX6_readText_125 rfl (lv_at hl 1 rfl) ?_
              refine va_get (v := .int pl1_87) (D := D) (ci := 6) (C := RX6) (T := TX6) (N := 7) hx hb hts in_X6 hown hK hP 0 rfl rfl 3 (by decide) (hts _ kl_RX6_65) (fun _ h9 => h9) rfl dX6_readText_126 ?_
              refine ty_kv (wr := []) (wc := ([(rd, .inr (6, [.ref bt, .int ln, .ref tg, .int pl1_87, .int ws1_81, .int er1_82, .int ep1_83]))] ++ ws_86)) (va_runV (As := [.int 1, .int pl1_87]) (rest := []) ⟨hx, hb, hml, hown, hts⟩ (t_X6_fail l D ct S ws_86 rd bt tg nb ln pl1_87 ws1_81 er1_82 ep1_83 (1 : Int32) pl1_87 _ hT h_bt h_tg) (cm_V 2 hts kc_X6_fail ki_RX6 kl_RX6_68 kv_X6_fail kx_X6_fail kd_X6_fail ⟨Nat.le_of_ble_eq_true rfl, Nat.le_of_ble_eq_true rfl⟩) (ty_preE (wr := []) (wc := ([(rd, .inr (6, [.ref bt, .int ln, .ref tg, .int pl1_87, .int ws1_81, .int er1_82, .int ep1_83]))] ++ ws_86)) (ci := 6) (q0 := 0) hP hK hD hS hA hX rfl rfl) rfl rfl hl.1 rfl (lv_room (Nat.le_of_ble_eq_true rfl)) dX6_readText_129 ⟨Nat.le_of_ble_eq_true rfl, Nat.le_of_ble_eq_true rfl⟩) hP hD hS hA (fun u H locs hw_91 hP hD hS => ?_)
              obtain ⟨ws_92, er1_93, ep1_94⟩ := u
              have hT := hw_91
              have hP : va_P D vwCl ([(rd, .inr (6, [.ref bt, .int ln, .ref tg, .int pl1_87, .int ws1_81, .int er1_93, .int ep1_94]))] ++ ws_92) H := hP
              have hD : va_D A ([(rd, .inr (6, [.ref bt, .int ln, .ref tg, .int pl1_87, .int ws1_81, .int er1_93, .int ep1_94]))] ++ ws_92) := hD
              exact W.vret hx hb hr (fun t ht hW => ⟨⟨(ws_92, pl1_87, ws1_81, er1_93, ep1_94), rfl, hT, by rw [ht]; exact hP, by rw [hAe]; exact hD⟩, hS.F ht⟩) hS.2.2 dX6_readText_132
          · refine lv_aload_n hx hb dX6_readText_84 rfl (lv_at hl 1 rfl) ?_
            refine ty_ki (wr := []) (wc := ([(rd, .inr (6, [.ref bt, .int ln, .ref tg, .int pl1_87, .int ws1_81, .int er1_82, .int ep1_83]))] ++ ws_86)) (va_runV (As := []) (rest := []) ⟨hx, hb, hml, hown, hts⟩ (t_X6_next l D ct S ws_86 rd bt tg nb ln pl1_87 ws1_81 er1_82 ep1_83 _ hT h_bt h_tg) (cm_V 0 hts kc_X6_next ki_RX6 kl_RX6_61 kv_X6_next kx_X6_next kd_X6_next ⟨Nat.le_of_ble_eq_true rfl, Nat.le_of_ble_eq_true rfl⟩) (ty_preE (wr := []) (wc := ([(rd, .inr (6, [.ref bt, .int ln, .ref tg, .int pl1_87, .int ws1_81, .int er1_82, .int ep1_83]))] ++ ws_86)) (ci := 6) (q0 := 0) hP hK hD hS hA hX rfl rfl) rfl rfl hl.1 rfl (lv_room (Nat.le_of_ble_eq_true rfl)) dX6_readText_85 ⟨Nat.le_of_ble_eq_true rfl, Nat.le_of_ble_eq_true rfl⟩) hP hD hS hA (fun r_95 u H locs hw_96 hP hD hS => ?_)
            obtain ⟨ws_97, rfl⟩ : ∃ z, z = u := ⟨_, rfl⟩
            have hT := hw_96
            have hP : va_P D vwCl ([(rd, .inr (6, [.ref bt, .int ln, .ref tg, .int pl1_87, .int ws1_81, .int er1_82, .int ep1_83]))] ++ ws_97) H := hP
            have hD : va_D A ([(rd, .inr (6, [.ref bt, .int ln, .ref tg, .int pl1_87, .int ws1_81, .int er1_82, .int ep1_83]))] ++ ws_97) := hD
            refine lv_bipush (v := 59) hx hb dX6_readText_88 (by decide) ?_
            refine lv_icmp_eq (tgt := 96) hx hb dX6_readText_90 (by decide) (fun hc_98 => ?_) (fun hc_98 => ?_)
            · refine lv_aload_n hx hb dX6_readText_96 rfl (lv_at hl 1 rfl) ?_
              refine lv_dup hx hb dX6_readText_97 rfl ?_
              refine va_get (v := .int pl1_87) (D := D) (ci := 6) (C := RX6) (T := TX6) (N := 7) hx hb hts in_X6 hown hK hP 0 rfl rfl 3 (by decide) (hts _ kl_RX6_65) (fun _ h9 => h9) rfl dX6_readText_98 ?_
              refine lv_iconst (v := 1) hx hb dX6_readText_101 (by decide) ?_
              refine lv_iadd hx hb dX6_readText_102 ?_
              refine lv_topi (fun x_99 _ => ?_)
              refine va_put (v := .int x_99) (ty := .int) (D := D) (ci := 6) (C := RX6) (T := TX6) (N := 7) hx hb hts in_X6 tyX6 tyX6_ok nmX6 hown hK hP hD hS 0 rfl rfl 3 (by decide) (hts _ kl_RX6_65) (fun _ h9 => h9) rfl (by decide +kernel) rfl rfl (Nat.le_of_ble_eq_true rfl) dX6_readText_103 (fun H locs hP hD hS => ?_)
              have hP : va_P D vwCl ([(rd, .inr (6, [.ref bt, .int ln, .ref tg, .int x_99, .int ws1_81, .int er1_82, .int ep1_83]))] ++ ws_97) H := hP
              have hD : va_D A ([(rd, .inr (6, [.ref bt, .int ln, .ref tg, .int x_99, .int ws1_81, .int er1_82, .int ep1_83]))] ++ ws_97) := hD
              refine lv_iinc (v := (y_1 + Int32.ofInt 1)) (lv' := [(1, .int (y_1 + Int32.ofInt 1)), (0, .ref rd)]) hx hb dX6_readText_106 hl (k := 0) rfl rfl (by decide) rfl (fun ls hl => ?_)
              refine lv_goto (tgt := 2) hx hb dX6_readText_109 (by decide) ?_
              exact ih_2 _ _ _ _ (ty_incle hc_6 hln) ⟨ws_97, (y_1 + Int32.ofInt 1), x_99, ws1_81, er1_82, ep1_83, rfl, hT, hP, hD, hS, (lv_sub hl [0, 1] rfl)⟩
            · refine lv_goto (tgt := 112) hx hb dX6_readText_93 (by decide) ?_
              refine lv_aload_n hx hb dX6_readText_112 rfl (lv_at hl 1 rfl) ?_
              refine va_get (v := .int pl1_87) (D := D) (ci := 6) (C := RX6) (T := TX6) (N := 7) hx hb hts in_X6 hown hK hP 0 rfl rfl 3 (by decide) (hts _ kl_RX6_65) (fun _ h9 => h9) rfl dX6_readText_113 ?_
              refine lv_aload_n hx hb dX6_readText_116 rfl (lv_at hl 1 rfl) ?_
              refine va_get (v := .int ln) (D := D) (ci := 6) (C := RX6) (T := TX6) (N := 7) hx hb hts in_X6 hown hK hP 0 rfl rfl 1 (by decide) (hts _ kl_RX6_15) (fun _ h9 => h9) rfl dX6_readText_117 ?_
              refine lv_icmp_ge (tgt := 132) hx hb dX6_readText_120 (by decide) (fun hc_100 => ?_) (fun hc_100 => ?_)
              · exact W.vret hx hb hr (fun t ht hW => ⟨⟨(ws_97, pl1_87, ws1_81, er1_82, ep1_83), rfl, hT, by rw [ht]; exact hP, by rw [hAe]; exact hD⟩, hS.F ht⟩) hS.2.2 dX6_readText_132
              · refine lv_aload_n hx hb dX6_readText_123 rfl (lv_at hl 1 rfl) ?_
                refine lv_iconst (v := 1) hx hb dX6_readText_124 (by decide) ?_
                refine lv_aload_n hx hb dX6_readText_125 rfl (lv_at hl 1 rfl) ?_
                refine va_get (v := .int pl1_87) (D := D) (ci := 6) (C := RX6) (T := TX6) (N := 7) hx hb hts in_X6 hown hK hP 0 rfl rfl 3 (by decide) (hts _ kl_RX6_65) (fun _ h9 => h9) rfl dX6_readText_126 ?_
                refine ty_kv (wr := []) (wc := ([(rd, .inr (6, [.ref bt, .int ln, .ref tg, .int pl1_87, .int ws1_81, .int er1_82, .int ep1_83]))] ++ ws_97)) (va_runV (As := [.int 1, .int pl1_87]) (rest := []) ⟨hx, hb, hml, hown, hts⟩ (t_X6_fail l D ct S ws_97 rd bt tg nb ln pl1_87 ws1_81 er1_82 ep1_83 (1 : Int32) pl1_87 _ hT h_bt h_tg) (cm_V 2 hts kc_X6_fail ki_RX6 kl_RX6_68 kv_X6_fail kx_X6_fail kd_X6_fail ⟨Nat.le_of_ble_eq_true rfl, Nat.le_of_ble_eq_true rfl⟩) (ty_preE (wr := []) (wc := ([(rd, .inr (6, [.ref bt, .int ln, .ref tg, .int pl1_87, .int ws1_81, .int er1_82, .int ep1_83]))] ++ ws_97)) (ci := 6) (q0 := 0) hP hK hD hS hA hX rfl rfl) rfl rfl hl.1 rfl (lv_room (Nat.le_of_ble_eq_true rfl)) dX6_readText_129 ⟨Nat.le_of_ble_eq_true rfl, Nat.le_of_ble_eq_true rfl⟩) hP hD hS hA (fun u H locs hw_102 hP hD hS => ?_)
                obtain ⟨ws_103, er1_104, ep1_105⟩ := u
                have hT := hw_102
                have hP : va_P D vwCl ([(rd, .inr (6, [.ref bt, .int ln, .ref tg, .int pl1_87, .int ws1_81, .int er1_104, .int ep1_105]))] ++ ws_103) H := hP
                have hD : va_D A ([(rd, .inr (6, [.ref bt, .int ln, .ref tg, .int pl1_87, .int ws1_81, .int er1_104, .int ep1_105]))] ++ ws_103) := hD
                exact W.vret hx hb hr (fun t ht hW => ⟨⟨(ws_103, pl1_87, ws1_81, er1_104, ep1_105), rfl, hT, by rw [ht]; exact hP, by rw [hAe]; exact hD⟩, hS.F ht⟩) hS.2.2 dX6_readText_132
      · refine lv_aload_n hx hb dX6_readText_39 rfl (lv_at hl 1 rfl) ?_
        refine ty_kv (wr := []) (wc := ([(rd, .inr (6, [.ref bt, .int ln, .ref tg, .int pl1_16, .int ws1_17, .int er1_18, .int ep1_19]))] ++ ws_34)) (va_runV (As := []) (rest := []) ⟨hx, hb, hml, hown, hts⟩ (t_X6_readCell l D ct S ws_34 rd bt tg nb ln pl1_16 ws1_17 er1_18 ep1_19 _ hT h_bt h_tg) (cm_V 0 hts kc_X6_readCell ki_RX6 kl_RX6_37 kv_X6_readCell kx_X6_readCell kd_X6_readCell ⟨Nat.le_of_ble_eq_true rfl, Nat.le_of_ble_eq_true rfl⟩) (ty_preE (wr := []) (wc := ([(rd, .inr (6, [.ref bt, .int ln, .ref tg, .int pl1_16, .int ws1_17, .int er1_18, .int ep1_19]))] ++ ws_34)) (ci := 6) (q0 := 0) hP hK hD hS hA hX rfl rfl) rfl rfl hl.1 rfl (lv_room (Nat.le_of_ble_eq_true rfl)) dX6_readText_40 ⟨Nat.le_of_ble_eq_true rfl, Nat.le_of_ble_eq_true rfl⟩) hP hD hS hA (fun u H locs hw_107 hP hD hS => ?_)
        obtain ⟨ws_108, pl1_109, ws1_110, er1_111, ep1_112⟩ := u
        have hT := hw_107
        have hP : va_P D vwCl ([(rd, .inr (6, [.ref bt, .int ln, .ref tg, .int pl1_109, .int ws1_110, .int er1_111, .int ep1_112]))] ++ ws_108) H := hP
        have hD : va_D A ([(rd, .inr (6, [.ref bt, .int ln, .ref tg, .int pl1_109, .int ws1_110, .int er1_111, .int ep1_112]))] ++ ws_108) := hD
        refine lv_goto (tgt := 73) hx hb dX6_readText_43 (by decide) ?_
        refine lv_aload_n hx hb dX6_readText_73 rfl (lv_at hl 1 rfl) ?_
        refine ty_kv (wr := []) (wc := ([(rd, .inr (6, [.ref bt, .int ln, .ref tg, .int pl1_109, .int ws1_110, .int er1_111, .int ep1_112]))] ++ ws_108)) (va_runV (As := []) (rest := []) ⟨hx, hb, hml, hown, hts⟩ (t_X6_skipSpaces l D ct S ws_108 rd bt tg nb ln pl1_109 ws1_110 er1_111 ep1_112 _ hT h_bt h_tg) (cm_V 0 hts kc_X6_skipSpaces ki_RX6 kl_RX6_55 kv_X6_skipSpaces kx_X6_skipSpaces kd_X6_skipSpaces ⟨Nat.le_of_ble_eq_true rfl, Nat.le_of_ble_eq_true rfl⟩) (ty_preE (wr := []) (wc := ([(rd, .inr (6, [.ref bt, .int ln, .ref tg, .int pl1_109, .int ws1_110, .int er1_111, .int ep1_112]))] ++ ws_108)) (ci := 6) (q0 := 0) hP hK hD hS hA hX rfl rfl) rfl rfl hl.1 rfl (lv_room (Nat.le_of_ble_eq_true rfl)) dX6_readText_74 ⟨Nat.le_of_ble_eq_true rfl, Nat.le_of_ble_eq_true rfl⟩) hP hD hS hA (fun u H locs hw_114 hP hD hS => ?_)
        obtain ⟨ws_115, pl1_116⟩ := u
        have hT := hw_114
        have hP : va_P D vwCl ([(rd, .inr (6, [.ref bt, .int ln, .ref tg, .int pl1_116, .int ws1_110, .int er1_111, .int ep1_112]))] ++ ws_115) H := hP
        have hD : va_D A ([(rd, .inr (6, [.ref bt, .int ln, .ref tg, .int pl1_116, .int ws1_110, .int er1_111, .int ep1_112]))] ++ ws_115) := hD
        refine lv_aload_n hx hb dX6_readText_77 rfl (lv_at hl 1 rfl) ?_
        refine va_get (v := .int er1_111) (D := D) (ci := 6) (C := RX6) (T := TX6) (N := 7) hx hb hts in_X6 hown hK hP 0 rfl rfl 5 (by decide) (hts _ kl_RX6_58) (fun _ h9 => h9) rfl dX6_readText_78 ?_
        refine lv_if_ne (tgt := 112) hx hb dX6_readText_81 (by decide) (fun hc_117 => ?_) (fun hc_117 => ?_)
        · refine lv_aload_n hx hb dX6_readText_112 rfl (lv_at hl 1 rfl) ?_
          refine va_get (v := .int pl1_116) (D := D) (ci := 6) (C := RX6) (T := TX6) (N := 7) hx hb hts in_X6 hown hK hP 0 rfl rfl 3 (by decide) (hts _ kl_RX6_65) (fun _ h9 => h9) rfl dX6_readText_113 ?_
          refine lv_aload_n hx hb dX6_readText_116 rfl (lv_at hl 1 rfl) ?_
          refine va_get (v := .int ln) (D := D) (ci := 6) (C := RX6) (T := TX6) (N := 7) hx hb hts in_X6 hown hK hP 0 rfl rfl 1 (by decide) (hts _ kl_RX6_15) (fun _ h9 => h9) rfl dX6_readText_117 ?_
          refine lv_icmp_ge (tgt := 132) hx hb dX6_readText_120 (by decide) (fun hc_118 => ?_) (fun hc_118 => ?_)
          · exact W.vret hx hb hr (fun t ht hW => ⟨⟨(ws_115, pl1_116, ws1_110, er1_111, ep1_112), rfl, hT, by rw [ht]; exact hP, by rw [hAe]; exact hD⟩, hS.F ht⟩) hS.2.2 dX6_readText_132
          · refine lv_aload_n hx hb dX6_readText_123 rfl (lv_at hl 1 rfl) ?_
            refine lv_iconst (v := 1) hx hb dX6_readText_124 (by decide) ?_
            refine lv_aload_n hx hb dX6_readText_125 rfl (lv_at hl 1 rfl) ?_
            refine va_get (v := .int pl1_116) (D := D) (ci := 6) (C := RX6) (T := TX6) (N := 7) hx hb hts in_X6 hown hK hP 0 rfl rfl 3 (by decide) (hts _ kl_RX6_65) (fun _ h9 => h9) rfl dX6_readText_126 ?_
            refine ty_kv (wr := []) (wc := ([(rd, .inr (6, [.ref bt, .int ln, .ref tg, .int pl1_116, .int ws1_110, .int er1_111, .int ep1_112]))] ++ ws_115)) (va_runV (As := [.int 1, .int pl1_116]) (rest := []) ⟨hx, hb, hml, hown, hts⟩ (t_X6_fail l D ct S ws_115 rd bt tg nb ln pl1_116 ws1_110 er1_111 ep1_112 (1 : Int32) pl1_116 _ hT h_bt h_tg) (cm_V 2 hts kc_X6_fail ki_RX6 kl_RX6_68 kv_X6_fail kx_X6_fail kd_X6_fail ⟨Nat.le_of_ble_eq_true rfl, Nat.le_of_ble_eq_true rfl⟩) (ty_preE (wr := []) (wc := ([(rd, .inr (6, [.ref bt, .int ln, .ref tg, .int pl1_116, .int ws1_110, .int er1_111, .int ep1_112]))] ++ ws_115)) (ci := 6) (q0 := 0) hP hK hD hS hA hX rfl rfl) rfl rfl hl.1 rfl (lv_room (Nat.le_of_ble_eq_true rfl)) dX6_readText_129 ⟨Nat.le_of_ble_eq_true rfl, Nat.le_of_ble_eq_true rfl⟩) hP hD hS hA (fun u H locs hw_120 hP hD hS => ?_)
            obtain ⟨ws_121, er1_122, ep1_123⟩ := u
            have hT := hw_120
            have hP : va_P D vwCl ([(rd, .inr (6, [.ref bt, .int ln, .ref tg, .int pl1_116, .int ws1_110, .int er1_122, .int ep1_123]))] ++ ws_121) H := hP
            have hD : va_D A ([(rd, .inr (6, [.ref bt, .int ln, .ref tg, .int pl1_116, .int ws1_110, .int er1_122, .int ep1_123]))] ++ ws_121) := hD
            exact W.vret hx hb hr (fun t ht hW => ⟨⟨(ws_121, pl1_116, ws1_110, er1_122, ep1_123), rfl, hT, by rw [ht]; exact hP, by rw [hAe]; exact hD⟩, hS.F ht⟩) hS.2.2 dX6_readText_132
        · refine lv_aload_n hx hb dX6_readText_84 rfl (lv_at hl 1 rfl) ?_
          refine ty_ki (wr := []) (wc := ([(rd, .inr (6, [.ref bt, .int ln, .ref tg, .int pl1_116, .int ws1_110, .int er1_111, .int ep1_112]))] ++ ws_115)) (va_runV (As := []) (rest := []) ⟨hx, hb, hml, hown, hts⟩ (t_X6_next l D ct S ws_115 rd bt tg nb ln pl1_116 ws1_110 er1_111 ep1_112 _ hT h_bt h_tg) (cm_V 0 hts kc_X6_next ki_RX6 kl_RX6_61 kv_X6_next kx_X6_next kd_X6_next ⟨Nat.le_of_ble_eq_true rfl, Nat.le_of_ble_eq_true rfl⟩) (ty_preE (wr := []) (wc := ([(rd, .inr (6, [.ref bt, .int ln, .ref tg, .int pl1_116, .int ws1_110, .int er1_111, .int ep1_112]))] ++ ws_115)) (ci := 6) (q0 := 0) hP hK hD hS hA hX rfl rfl) rfl rfl hl.1 rfl (lv_room (Nat.le_of_ble_eq_true rfl)) dX6_readText_85 ⟨Nat.le_of_ble_eq_true rfl, Nat.le_of_ble_eq_true rfl⟩) hP hD hS hA (fun r_124 u H locs hw_125 hP hD hS => ?_)
          obtain ⟨ws_126, rfl⟩ : ∃ z, z = u := ⟨_, rfl⟩
          have hT := hw_125
          have hP : va_P D vwCl ([(rd, .inr (6, [.ref bt, .int ln, .ref tg, .int pl1_116, .int ws1_110, .int er1_111, .int ep1_112]))] ++ ws_126) H := hP
          have hD : va_D A ([(rd, .inr (6, [.ref bt, .int ln, .ref tg, .int pl1_116, .int ws1_110, .int er1_111, .int ep1_112]))] ++ ws_126) := hD
          refine lv_bipush (v := 59) hx hb dX6_readText_88 (by decide) ?_
          refine lv_icmp_eq (tgt := 96) hx hb dX6_readText_90 (by decide) (fun hc_127 => ?_) (fun hc_127 => ?_)
          · refine lv_aload_n hx hb dX6_readText_96 rfl (lv_at hl 1 rfl) ?_
            refine lv_dup hx hb dX6_readText_97 rfl ?_
            refine va_get (v := .int pl1_116) (D := D) (ci := 6) (C := RX6) (T := TX6) (N := 7) hx hb hts in_X6 hown hK hP 0 rfl rfl 3 (by decide) (hts _ kl_RX6_65) (fun _ h9 => h9) rfl dX6_readText_98 ?_
            refine lv_iconst (v := 1) hx hb dX6_readText_101 (by decide) ?_
            refine lv_iadd hx hb dX6_readText_102 ?_
            refine lv_topi (fun x_128 _ => ?_)
            refine va_put (v := .int x_128) (ty := .int) (D := D) (ci := 6) (C := RX6) (T := TX6) (N := 7) hx hb hts in_X6 tyX6 tyX6_ok nmX6 hown hK hP hD hS 0 rfl rfl 3 (by decide) (hts _ kl_RX6_65) (fun _ h9 => h9) rfl (by decide +kernel) rfl rfl (Nat.le_of_ble_eq_true rfl) dX6_readText_103 (fun H locs hP hD hS => ?_)
            have hP : va_P D vwCl ([(rd, .inr (6, [.ref bt, .int ln, .ref tg, .int x_128, .int ws1_110, .int er1_111, .int ep1_112]))] ++ ws_126) H := hP
            have hD : va_D A ([(rd, .inr (6, [.ref bt, .int ln, .ref tg, .int x_128, .int ws1_110, .int er1_111, .int ep1_112]))] ++ ws_126) := hD
            refine lv_iinc (v := (y_1 + Int32.ofInt 1)) (lv' := [(1, .int (y_1 + Int32.ofInt 1)), (0, .ref rd)]) hx hb dX6_readText_106 hl (k := 0) rfl rfl (by decide) rfl (fun ls hl => ?_)
            refine lv_goto (tgt := 2) hx hb dX6_readText_109 (by decide) ?_
            exact ih_2 _ _ _ _ (ty_incle hc_6 hln) ⟨ws_126, (y_1 + Int32.ofInt 1), x_128, ws1_110, er1_111, ep1_112, rfl, hT, hP, hD, hS, (lv_sub hl [0, 1] rfl)⟩
          · refine lv_goto (tgt := 112) hx hb dX6_readText_93 (by decide) ?_
            refine lv_aload_n hx hb dX6_readText_112 rfl (lv_at hl 1 rfl) ?_
            refine va_get (v := .int pl1_116) (D := D) (ci := 6) (C := RX6) (T := TX6) (N := 7) hx hb hts in_X6 hown hK hP 0 rfl rfl 3 (by decide) (hts _ kl_RX6_65) (fun _ h9 => h9) rfl dX6_readText_113 ?_
            refine lv_aload_n hx hb dX6_readText_116 rfl (lv_at hl 1 rfl) ?_
            refine va_get (v := .int ln) (D := D) (ci := 6) (C := RX6) (T := TX6) (N := 7) hx hb hts in_X6 hown hK hP 0 rfl rfl 1 (by decide) (hts _ kl_RX6_15) (fun _ h9 => h9) rfl dX6_readText_117 ?_
            refine lv_icmp_ge (tgt := 132) hx hb dX6_readText_120 (by decide) (fun hc_129 => ?_) (fun hc_129 => ?_)
            · exact W.vret hx hb hr (fun t ht hW => ⟨⟨(ws_126, pl1_116, ws1_110, er1_111, ep1_112), rfl, hT, by rw [ht]; exact hP, by rw [hAe]; exact hD⟩, hS.F ht⟩) hS.2.2 dX6_readText_132
            · refine lv_aload_n hx hb dX6_readText_123 rfl (lv_at hl 1 rfl) ?_
              refine lv_iconst (v := 1) hx hb dX6_readText_124 (by decide) ?_
              refine lv_aload_n hx hb dX6_readText_125 rfl (lv_at hl 1 rfl) ?_
              refine va_get (v := .int pl1_116) (D := D) (ci := 6) (C := RX6) (T := TX6) (N := 7) hx hb hts in_X6 hown hK hP 0 rfl rfl 3 (by decide) (hts _ kl_RX6_65) (fun _ h9 => h9) rfl dX6_readText_126 ?_
              refine ty_kv (wr := []) (wc := ([(rd, .inr (6, [.ref bt, .int ln, .ref tg, .int pl1_116, .int ws1_110, .int er1_111, .int ep1_112]))] ++ ws_126)) (va_runV (As := [.int 1, .int pl1_116]) (rest := []) ⟨hx, hb, hml, hown, hts⟩ (t_X6_fail l D ct S ws_126 rd bt tg nb ln pl1_116 ws1_110 er1_111 ep1_112 (1 : Int32) pl1_116 _ hT h_bt h_tg) (cm_V 2 hts kc_X6_fail ki_RX6 kl_RX6_68 kv_X6_fail kx_X6_fail kd_X6_fail ⟨Nat.le_of_ble_eq_true rfl, Nat.le_of_ble_eq_true rfl⟩) (ty_preE (wr := []) (wc := ([(rd, .inr (6, [.ref bt, .int ln, .ref tg, .int pl1_116, .int ws1_110, .int er1_111, .int ep1_112]))] ++ ws_126)) (ci := 6) (q0 := 0) hP hK hD hS hA hX rfl rfl) rfl rfl hl.1 rfl (lv_room (Nat.le_of_ble_eq_true rfl)) dX6_readText_129 ⟨Nat.le_of_ble_eq_true rfl, Nat.le_of_ble_eq_true rfl⟩) hP hD hS hA (fun u H locs hw_131 hP hD hS => ?_)
              obtain ⟨ws_132, er1_133, ep1_134⟩ := u
              have hT := hw_131
              have hP : va_P D vwCl ([(rd, .inr (6, [.ref bt, .int ln, .ref tg, .int pl1_116, .int ws1_110, .int er1_133, .int ep1_134]))] ++ ws_132) H := hP
              have hD : va_D A ([(rd, .inr (6, [.ref bt, .int ln, .ref tg, .int pl1_116, .int ws1_110, .int er1_133, .int ep1_134]))] ++ ws_132) := hD
              exact W.vret hx hb hr (fun t ht hW => ⟨⟨(ws_132, pl1_116, ws1_110, er1_133, ep1_134), rfl, hT, by rw [ht]; exact hP, by rw [hAe]; exact hD⟩, hS.F ht⟩) hS.2.2 dX6_readText_132
    · refine lv_aload_n hx hb dX6_readText_23 rfl (lv_at hl 1 rfl) ?_
      refine ty_kv (wr := []) (wc := ([(rd, .inr (6, [.ref bt, .int ln, .ref tg, .int pl1_16, .int ws1_17, .int er1_18, .int ep1_19]))] ++ ws_26)) (va_runV (As := []) (rest := []) ⟨hx, hb, hml, hown, hts⟩ (t_X6_readCurve l D ct S ws_26 rd bt tg nb ln pl1_16 ws1_17 er1_18 ep1_19 _ hT h_bt h_tg) (cm_V 0 hts kc_X6_readCurve ki_RX6 kl_RX6_32 kv_X6_readCurve kx_X6_readCurve kd_X6_readCurve ⟨Nat.le_of_ble_eq_true rfl, Nat.le_of_ble_eq_true rfl⟩) (ty_preE (wr := []) (wc := ([(rd, .inr (6, [.ref bt, .int ln, .ref tg, .int pl1_16, .int ws1_17, .int er1_18, .int ep1_19]))] ++ ws_26)) (ci := 6) (q0 := 0) hP hK hD hS hA hX rfl rfl) rfl rfl hl.1 rfl (lv_room (Nat.le_of_ble_eq_true rfl)) dX6_readText_24 ⟨Nat.le_of_ble_eq_true rfl, Nat.le_of_ble_eq_true rfl⟩) hP hD hS hA (fun u H locs hw_136 hP hD hS => ?_)
      obtain ⟨ws_137, pl1_138, ws1_139, er1_140, ep1_141⟩ := u
      have hT := hw_136
      have hP : va_P D vwCl ([(rd, .inr (6, [.ref bt, .int ln, .ref tg, .int pl1_138, .int ws1_139, .int er1_140, .int ep1_141]))] ++ ws_137) H := hP
      have hD : va_D A ([(rd, .inr (6, [.ref bt, .int ln, .ref tg, .int pl1_138, .int ws1_139, .int er1_140, .int ep1_141]))] ++ ws_137) := hD
      refine lv_goto (tgt := 73) hx hb dX6_readText_27 (by decide) ?_
      refine lv_aload_n hx hb dX6_readText_73 rfl (lv_at hl 1 rfl) ?_
      refine ty_kv (wr := []) (wc := ([(rd, .inr (6, [.ref bt, .int ln, .ref tg, .int pl1_138, .int ws1_139, .int er1_140, .int ep1_141]))] ++ ws_137)) (va_runV (As := []) (rest := []) ⟨hx, hb, hml, hown, hts⟩ (t_X6_skipSpaces l D ct S ws_137 rd bt tg nb ln pl1_138 ws1_139 er1_140 ep1_141 _ hT h_bt h_tg) (cm_V 0 hts kc_X6_skipSpaces ki_RX6 kl_RX6_55 kv_X6_skipSpaces kx_X6_skipSpaces kd_X6_skipSpaces ⟨Nat.le_of_ble_eq_true rfl, Nat.le_of_ble_eq_true rfl⟩) (ty_preE (wr := []) (wc := ([(rd, .inr (6, [.ref bt, .int ln, .ref tg, .int pl1_138, .int ws1_139, .int er1_140, .int ep1_141]))] ++ ws_137)) (ci := 6) (q0 := 0) hP hK hD hS hA hX rfl rfl) rfl rfl hl.1 rfl (lv_room (Nat.le_of_ble_eq_true rfl)) dX6_readText_74 ⟨Nat.le_of_ble_eq_true rfl, Nat.le_of_ble_eq_true rfl⟩) hP hD hS hA (fun u H locs hw_143 hP hD hS => ?_)
      obtain ⟨ws_144, pl1_145⟩ := u
      have hT := hw_143
      have hP : va_P D vwCl ([(rd, .inr (6, [.ref bt, .int ln, .ref tg, .int pl1_145, .int ws1_139, .int er1_140, .int ep1_141]))] ++ ws_144) H := hP
      have hD : va_D A ([(rd, .inr (6, [.ref bt, .int ln, .ref tg, .int pl1_145, .int ws1_139, .int er1_140, .int ep1_141]))] ++ ws_144) := hD
      refine lv_aload_n hx hb dX6_readText_77 rfl (lv_at hl 1 rfl) ?_
      refine va_get (v := .int er1_140) (D := D) (ci := 6) (C := RX6) (T := TX6) (N := 7) hx hb hts in_X6 hown hK hP 0 rfl rfl 5 (by decide) (hts _ kl_RX6_58) (fun _ h9 => h9) rfl dX6_readText_78 ?_
      refine lv_if_ne (tgt := 112) hx hb dX6_readText_81 (by decide) (fun hc_146 => ?_) (fun hc_146 => ?_)
      · refine lv_aload_n hx hb dX6_readText_112 rfl (lv_at hl 1 rfl) ?_
        refine va_get (v := .int pl1_145) (D := D) (ci := 6) (C := RX6) (T := TX6) (N := 7) hx hb hts in_X6 hown hK hP 0 rfl rfl 3 (by decide) (hts _ kl_RX6_65) (fun _ h9 => h9) rfl dX6_readText_113 ?_
        refine lv_aload_n hx hb dX6_readText_116 rfl (lv_at hl 1 rfl) ?_
        refine va_get (v := .int ln) (D := D) (ci := 6) (C := RX6) (T := TX6) (N := 7) hx hb hts in_X6 hown hK hP 0 rfl rfl 1 (by decide) (hts _ kl_RX6_15) (fun _ h9 => h9) rfl dX6_readText_117 ?_
        refine lv_icmp_ge (tgt := 132) hx hb dX6_readText_120 (by decide) (fun hc_147 => ?_) (fun hc_147 => ?_)
        · exact W.vret hx hb hr (fun t ht hW => ⟨⟨(ws_144, pl1_145, ws1_139, er1_140, ep1_141), rfl, hT, by rw [ht]; exact hP, by rw [hAe]; exact hD⟩, hS.F ht⟩) hS.2.2 dX6_readText_132
        · refine lv_aload_n hx hb dX6_readText_123 rfl (lv_at hl 1 rfl) ?_
          refine lv_iconst (v := 1) hx hb dX6_readText_124 (by decide) ?_
          refine lv_aload_n hx hb dX6_readText_125 rfl (lv_at hl 1 rfl) ?_
          refine va_get (v := .int pl1_145) (D := D) (ci := 6) (C := RX6) (T := TX6) (N := 7) hx hb hts in_X6 hown hK hP 0 rfl rfl 3 (by decide) (hts _ kl_RX6_65) (fun _ h9 => h9) rfl dX6_readText_126 ?_
          refine ty_kv (wr := []) (wc := ([(rd, .inr (6, [.ref bt, .int ln, .ref tg, .int pl1_145, .int ws1_139, .int er1_140, .int ep1_141]))] ++ ws_144)) (va_runV (As := [.int 1, .int pl1_145]) (rest := []) ⟨hx, hb, hml, hown, hts⟩ (t_X6_fail l D ct S ws_144 rd bt tg nb ln pl1_145 ws1_139 er1_140 ep1_141 (1 : Int32) pl1_145 _ hT h_bt h_tg) (cm_V 2 hts kc_X6_fail ki_RX6 kl_RX6_68 kv_X6_fail kx_X6_fail kd_X6_fail ⟨Nat.le_of_ble_eq_true rfl, Nat.le_of_ble_eq_true rfl⟩) (ty_preE (wr := []) (wc := ([(rd, .inr (6, [.ref bt, .int ln, .ref tg, .int pl1_145, .int ws1_139, .int er1_140, .int ep1_141]))] ++ ws_144)) (ci := 6) (q0 := 0) hP hK hD hS hA hX rfl rfl) rfl rfl hl.1 rfl (lv_room (Nat.le_of_ble_eq_true rfl)) dX6_readText_129 ⟨Nat.le_of_ble_eq_true rfl, Nat.le_of_ble_eq_true rfl⟩) hP hD hS hA (fun u H locs hw_149 hP hD hS => ?_)
          obtain ⟨ws_150, er1_151, ep1_152⟩ := u
          have hT := hw_149
          have hP : va_P D vwCl ([(rd, .inr (6, [.ref bt, .int ln, .ref tg, .int pl1_145, .int ws1_139, .int er1_151, .int ep1_152]))] ++ ws_150) H := hP
          have hD : va_D A ([(rd, .inr (6, [.ref bt, .int ln, .ref tg, .int pl1_145, .int ws1_139, .int er1_151, .int ep1_152]))] ++ ws_150) := hD
          exact W.vret hx hb hr (fun t ht hW => ⟨⟨(ws_150, pl1_145, ws1_139, er1_151, ep1_152), rfl, hT, by rw [ht]; exact hP, by rw [hAe]; exact hD⟩, hS.F ht⟩) hS.2.2 dX6_readText_132
      · refine lv_aload_n hx hb dX6_readText_84 rfl (lv_at hl 1 rfl) ?_
        refine ty_ki (wr := []) (wc := ([(rd, .inr (6, [.ref bt, .int ln, .ref tg, .int pl1_145, .int ws1_139, .int er1_140, .int ep1_141]))] ++ ws_144)) (va_runV (As := []) (rest := []) ⟨hx, hb, hml, hown, hts⟩ (t_X6_next l D ct S ws_144 rd bt tg nb ln pl1_145 ws1_139 er1_140 ep1_141 _ hT h_bt h_tg) (cm_V 0 hts kc_X6_next ki_RX6 kl_RX6_61 kv_X6_next kx_X6_next kd_X6_next ⟨Nat.le_of_ble_eq_true rfl, Nat.le_of_ble_eq_true rfl⟩) (ty_preE (wr := []) (wc := ([(rd, .inr (6, [.ref bt, .int ln, .ref tg, .int pl1_145, .int ws1_139, .int er1_140, .int ep1_141]))] ++ ws_144)) (ci := 6) (q0 := 0) hP hK hD hS hA hX rfl rfl) rfl rfl hl.1 rfl (lv_room (Nat.le_of_ble_eq_true rfl)) dX6_readText_85 ⟨Nat.le_of_ble_eq_true rfl, Nat.le_of_ble_eq_true rfl⟩) hP hD hS hA (fun r_153 u H locs hw_154 hP hD hS => ?_)
        obtain ⟨ws_155, rfl⟩ : ∃ z, z = u := ⟨_, rfl⟩
        have hT := hw_154
        have hP : va_P D vwCl ([(rd, .inr (6, [.ref bt, .int ln, .ref tg, .int pl1_145, .int ws1_139, .int er1_140, .int ep1_141]))] ++ ws_155) H := hP
        have hD : va_D A ([(rd, .inr (6, [.ref bt, .int ln, .ref tg, .int pl1_145, .int ws1_139, .int er1_140, .int ep1_141]))] ++ ws_155) := hD
        refine lv_bipush (v := 59) hx hb dX6_readText_88 (by decide) ?_
        refine lv_icmp_eq (tgt := 96) hx hb dX6_readText_90 (by decide) (fun hc_156 => ?_) (fun hc_156 => ?_)
        · refine lv_aload_n hx hb dX6_readText_96 rfl (lv_at hl 1 rfl) ?_
          refine lv_dup hx hb dX6_readText_97 rfl ?_
          refine va_get (v := .int pl1_145) (D := D) (ci := 6) (C := RX6) (T := TX6) (N := 7) hx hb hts in_X6 hown hK hP 0 rfl rfl 3 (by decide) (hts _ kl_RX6_65) (fun _ h9 => h9) rfl dX6_readText_98 ?_
          refine lv_iconst (v := 1) hx hb dX6_readText_101 (by decide) ?_
          refine lv_iadd hx hb dX6_readText_102 ?_
          refine lv_topi (fun x_157 _ => ?_)
          refine va_put (v := .int x_157) (ty := .int) (D := D) (ci := 6) (C := RX6) (T := TX6) (N := 7) hx hb hts in_X6 tyX6 tyX6_ok nmX6 hown hK hP hD hS 0 rfl rfl 3 (by decide) (hts _ kl_RX6_65) (fun _ h9 => h9) rfl (by decide +kernel) rfl rfl (Nat.le_of_ble_eq_true rfl) dX6_readText_103 (fun H locs hP hD hS => ?_)
          have hP : va_P D vwCl ([(rd, .inr (6, [.ref bt, .int ln, .ref tg, .int x_157, .int ws1_139, .int er1_140, .int ep1_141]))] ++ ws_155) H := hP
          have hD : va_D A ([(rd, .inr (6, [.ref bt, .int ln, .ref tg, .int x_157, .int ws1_139, .int er1_140, .int ep1_141]))] ++ ws_155) := hD
          refine lv_iinc (v := (y_1 + Int32.ofInt 1)) (lv' := [(1, .int (y_1 + Int32.ofInt 1)), (0, .ref rd)]) hx hb dX6_readText_106 hl (k := 0) rfl rfl (by decide) rfl (fun ls hl => ?_)
          refine lv_goto (tgt := 2) hx hb dX6_readText_109 (by decide) ?_
          exact ih_2 _ _ _ _ (ty_incle hc_6 hln) ⟨ws_155, (y_1 + Int32.ofInt 1), x_157, ws1_139, er1_140, ep1_141, rfl, hT, hP, hD, hS, (lv_sub hl [0, 1] rfl)⟩
        · refine lv_goto (tgt := 112) hx hb dX6_readText_93 (by decide) ?_
          refine lv_aload_n hx hb dX6_readText_112 rfl (lv_at hl 1 rfl) ?_
          refine va_get (v := .int pl1_145) (D := D) (ci := 6) (C := RX6) (T := TX6) (N := 7) hx hb hts in_X6 hown hK hP 0 rfl rfl 3 (by decide) (hts _ kl_RX6_65) (fun _ h9 => h9) rfl dX6_readText_113 ?_
          refine lv_aload_n hx hb dX6_readText_116 rfl (lv_at hl 1 rfl) ?_
          refine va_get (v := .int ln) (D := D) (ci := 6) (C := RX6) (T := TX6) (N := 7) hx hb hts in_X6 hown hK hP 0 rfl rfl 1 (by decide) (hts _ kl_RX6_15) (fun _ h9 => h9) rfl dX6_readText_117 ?_
          refine lv_icmp_ge (tgt := 132) hx hb dX6_readText_120 (by decide) (fun hc_158 => ?_) (fun hc_158 => ?_)
          · exact W.vret hx hb hr (fun t ht hW => ⟨⟨(ws_155, pl1_145, ws1_139, er1_140, ep1_141), rfl, hT, by rw [ht]; exact hP, by rw [hAe]; exact hD⟩, hS.F ht⟩) hS.2.2 dX6_readText_132
          · refine lv_aload_n hx hb dX6_readText_123 rfl (lv_at hl 1 rfl) ?_
            refine lv_iconst (v := 1) hx hb dX6_readText_124 (by decide) ?_
            refine lv_aload_n hx hb dX6_readText_125 rfl (lv_at hl 1 rfl) ?_
            refine va_get (v := .int pl1_145) (D := D) (ci := 6) (C := RX6) (T := TX6) (N := 7) hx hb hts in_X6 hown hK hP 0 rfl rfl 3 (by decide) (hts _ kl_RX6_65) (fun _ h9 => h9) rfl dX6_readText_126 ?_
            refine ty_kv (wr := []) (wc := ([(rd, .inr (6, [.ref bt, .int ln, .ref tg, .int pl1_145, .int ws1_139, .int er1_140, .int ep1_141]))] ++ ws_155)) (va_runV (As := [.int 1, .int pl1_145]) (rest := []) ⟨hx, hb, hml, hown, hts⟩ (t_X6_fail l D ct S ws_155 rd bt tg nb ln pl1_145 ws1_139 er1_140 ep1_141 (1 : Int32) pl1_145 _ hT h_bt h_tg) (cm_V 2 hts kc_X6_fail ki_RX6 kl_RX6_68 kv_X6_fail kx_X6_fail kd_X6_fail ⟨Nat.le_of_ble_eq_true rfl, Nat.le_of_ble_eq_true rfl⟩) (ty_preE (wr := []) (wc := ([(rd, .inr (6, [.ref bt, .int ln, .ref tg, .int pl1_145, .int ws1_139, .int er1_140, .int ep1_141]))] ++ ws_155)) (ci := 6) (q0 := 0) hP hK hD hS hA hX rfl rfl) rfl rfl hl.1 rfl (lv_room (Nat.le_of_ble_eq_true rfl)) dX6_readText_129 ⟨Nat.le_of_ble_eq_true rfl, Nat.le_of_ble_eq_true rfl⟩) hP hD hS hA (fun u H locs hw_160 hP hD hS => ?_)
            obtain ⟨ws_161, er1_162, ep1_163⟩ := u
            have hT := hw_160
            have hP : va_P D vwCl ([(rd, .inr (6, [.ref bt, .int ln, .ref tg, .int pl1_145, .int ws1_139, .int er1_162, .int ep1_163]))] ++ ws_161) H := hP
            have hD : va_D A ([(rd, .inr (6, [.ref bt, .int ln, .ref tg, .int pl1_145, .int ws1_139, .int er1_162, .int ep1_163]))] ++ ws_161) := hD
            exact W.vret hx hb hr (fun t ht hW => ⟨⟨(ws_161, pl1_145, ws1_139, er1_162, ep1_163), rfl, hT, by rw [ht]; exact hP, by rw [hAe]; exact hD⟩, hS.F ht⟩) hS.2.2 dX6_readText_132
