set_option maxRecDepth 100000 in
set_option maxHeartbeats 4000000 in
theorem r_put (l : Launch) (D : va_G) (ct : Nat → ClassId) (S : ty_S) (ws : va_W) (ph : va_W → Prop) (xx : Nat → Nat → Nat → Prop) (p1 : Nat) (p2 : Int32) (p3 : Int32) (b : Nat → Int32) (sz : Nat) (hT : ty_V ct S ph ws) (hph : ty_C ph xx) (hy1 : ty_y1 xx) (hix : 0 ≤ p2.toInt ∧ p2.toInt < 800) : Met l yX10_put (ws_ yX10_put cX10_put 3 none) ({ frames := 0, cells := 0, slots := 0, locals := 0 } : Room) (va_Pc [.ref p1, .int p2, .int p3] (cmP D ct sz ([(rf_RW ct 0 p1 800 b)] ++ ws))) (va_Qv (fun (u : va_W × (Nat → Int32)) => match u with | (u9, b1) => ty_V ct S ph u9 ∧ b1 = (upd b p2.toNatClampNeg p3)) (cmB D ([(rf_RW ct 0 p1 800 b)] ++ ws) sz (fun (u : va_W × (Nat → Int32)) => match u with | (u9, b1) => ([(rf_RW ct 0 p1 800 b1)] ++ u9))) (va_A ([(rf_RW ct 0 p1 800 b)] ++ ws) sz)) 0 0 (va_A ([(rf_RW ct 0 p1 800 b)] ++ ws) sz) := by
  refine Met.ofW (cc := cX10_put) (maxL := 3) (ret := none) (by decide) rfl ?_
  intro p e s m args below meth c s₁ B hml hv
  obtain ⟨rfl, hsz, hP, hK, hD0, hX⟩ := hv
  have hx := B.exec
  have hb := B.bytes
  have hr := B.returns
  have hts := ws_all (atoms_spec (ws := ws_ yX10_put cX10_put 3 none) B.pre)
  have hown : s.vm.findClass RX10 = some m.cls := findClass_of_methodNamed B.named
  have hlocks := B.notSynchronized
  subst hsz
  have hD := hD0.self (sz := s.heap.size)
  generalize hAe : va_A ([(rf_RW ct 0 p1 800 b)] ++ ws) s.heap.size = A at hD hX ⊢
  have hA : ∀ q : Nat, s.heap.size ≤ q → A q := fun q h => by rw [← hAe]; exact Or.inr h
  have hS : va_S A s.heap s.heap [] := va_S.rf
  have hl := lv_entry ([.ref p1, .int p2, .int p3]) (n := 3) (Nat.le_of_ble_eq_true rfl)
  rw [lg_entry_eq]
  generalize (lg_sl ([.ref p1, .int p2, .int p3]) ++ List.replicate (3 - (lg_sl ([.ref p1, .int p2, .int p3])).length) Slot.unset).toArray = ls at hl ⊢
  have hl : lv_has ls 3 [(0, .ref p1), (1, .int p2), (2, .int p3)] := hl
  refine lv_iload_n hx hb dX10_put_0 rfl (lv_at hl 1 rfl) ?_
  refine lv_if_lt (tgt := 14) hx hb dX10_put_1 (by decide) (fun hc => absurd hc (ty_nneg hix.1)) (fun _ => ?_)
  refine lv_iload_n hx hb dX10_put_4 rfl (lv_at hl 1 rfl) ?_
  refine lv_aload_n hx hb dX10_put_5 rfl (lv_at hl 0 rfl) ?_
  refine va_alen hx hb hK hP 0 0 rfl rfl (v := 800) (show Int32.ofNat 800 = (800 : Int32) from by decide) dX10_put_6 ?_
  refine lv_icmp_ge (tgt := 14) hx hb dX10_put_7 (by decide) (fun hc => absurd hc (fun q => rp_big q hix.2)) (fun _ => ?_)
  refine lv_aload_n hx hb dX10_put_10 rfl (lv_at hl 0 rfl) ?_
  refine lv_iload_n hx hb dX10_put_11 rfl (lv_at hl 1 rfl) ?_
  refine lv_iload_n hx hb dX10_put_12 rfl (lv_at hl 2 rfl) ?_
  refine va_iast hx hb hK hP hD hS 0 0 rfl rfl (rp_vin hix) dX10_put_13 (fun H locs hP hD hS => ?_)
  have hP : va_P D vwCl ([(rf_RW ct 0 p1 800 (upd b p2.toNatClampNeg p3))] ++ ws) H := hP
  have hD : va_D A ([(rf_RW ct 0 p1 800 (upd b p2.toNatClampNeg p3))] ++ ws) := hD
  exact W.vret hx hb hr (fun t ht hW => ⟨⟨(ws, (upd b p2.toNatClampNeg p3)), rfl, ⟨hT, rfl⟩, by rw [ht]; exact hP, by rw [hAe]; exact hD⟩, hS.F ht⟩) hS.2.2 dX10_put_14
theorem dX10_append_0 : decode cX10_append 0 = .ok (.iconst 0, 1) := by decide +kernel
theorem dX10_append_1 : decode cX10_append 1 = .ok (.istore_n 3, 1) := by decide +kernel
theorem dX10_append_2 : decode cX10_append 2 = .ok (.bipush 56, 2) := by decide +kernel
theorem dX10_append_4 : decode cX10_append 4 = .ok (.istore 4, 2) := by decide +kernel
theorem dX10_append_6 : decode cX10_append 6 = .ok (.iload 4, 2) := by decide +kernel
theorem dX10_append_8 : decode cX10_append 8 = .ok (.ifCond .lt 25, 3) := by decide +kernel
theorem dX10_append_11 : decode cX10_append 11 = .ok (.lload_n 1, 1) := by decide +kernel
theorem dX10_append_12 : decode cX10_append 12 = .ok (.iload 4, 2) := by decide +kernel
theorem dX10_append_14 : decode cX10_append 14 = .ok (.lushr, 1) := by decide +kernel
theorem dX10_append_15 : decode cX10_append 15 = .ok (.ldc2_w 34, 3) := by decide +kernel
theorem dX10_append_18 : decode cX10_append 18 = .ok (.land, 1) := by decide +kernel
theorem dX10_append_19 : decode cX10_append 19 = .ok (.lconst 0, 1) := by decide +kernel
theorem dX10_append_20 : decode cX10_append 20 = .ok (.lcmp, 1) := by decide +kernel
theorem dX10_append_21 : decode cX10_append 21 = .ok (.ifCond .eq 6, 3) := by decide +kernel
theorem dX10_append_24 : decode cX10_append 24 = .ok (.iinc 3 1, 3) := by decide +kernel
theorem dX10_append_27 : decode cX10_append 27 = .ok (.iinc 4 (-8), 3) := by decide +kernel
theorem dX10_append_30 : decode cX10_append 30 = .ok (.goto (-24), 3) := by decide +kernel
theorem dX10_append_33 : decode cX10_append 33 = .ok (.aload_n 0, 1) := by decide +kernel
theorem dX10_append_34 : decode cX10_append 34 = .ok (.getfield 27, 3) := by decide +kernel
theorem dX10_append_37 : decode cX10_append 37 = .ok (.iload_n 3, 1) := by decide +kernel
theorem dX10_append_38 : decode cX10_append 38 = .ok (.iadd, 1) := by decide +kernel
theorem dX10_append_39 : decode cX10_append 39 = .ok (.sipush 800, 3) := by decide +kernel
theorem dX10_append_42 : decode cX10_append 42 = .ok (.if_icmp .le 6, 3) := by decide +kernel
theorem dX10_append_45 : decode cX10_append 45 = .ok (.bipush (-2), 2) := by decide +kernel
theorem dX10_append_47 : decode cX10_append 47 = .ok (.ireturn, 1) := by decide +kernel
theorem dX10_append_48 : decode cX10_append 48 = .ok (.bipush 56, 2) := by decide +kernel
theorem dX10_append_50 : decode cX10_append 50 = .ok (.istore 4, 2) := by decide +kernel
theorem dX10_append_52 : decode cX10_append 52 = .ok (.iload 4, 2) := by decide +kernel
theorem dX10_append_54 : decode cX10_append 54 = .ok (.ifCond .lt 48, 3) := by decide +kernel
theorem dX10_append_57 : decode cX10_append 57 = .ok (.lload_n 1, 1) := by decide +kernel
theorem dX10_append_58 : decode cX10_append 58 = .ok (.iload 4, 2) := by decide +kernel
theorem dX10_append_60 : decode cX10_append 60 = .ok (.lushr, 1) := by decide +kernel
theorem dX10_append_61 : decode cX10_append 61 = .ok (.ldc2_w 34, 3) := by decide +kernel
theorem dX10_append_64 : decode cX10_append 64 = .ok (.land, 1) := by decide +kernel
theorem dX10_append_65 : decode cX10_append 65 = .ok (.l2i, 1) := by decide +kernel
theorem dX10_append_66 : decode cX10_append 66 = .ok (.istore 5, 2) := by decide +kernel
theorem dX10_append_68 : decode cX10_append 68 = .ok (.iload 5, 2) := by decide +kernel
theorem dX10_append_70 : decode cX10_append 70 = .ok (.ifCond .eq 26, 3) := by decide +kernel
theorem dX10_append_73 : decode cX10_append 73 = .ok (.aload_n 0, 1) := by decide +kernel
theorem dX10_append_74 : decode cX10_append 74 = .ok (.getfield 23, 3) := by decide +kernel
theorem dX10_append_77 : decode cX10_append 77 = .ok (.aload_n 0, 1) := by decide +kernel
theorem dX10_append_78 : decode cX10_append 78 = .ok (.getfield 27, 3) := by decide +kernel
theorem dX10_append_81 : decode cX10_append 81 = .ok (.iload 5, 2) := by decide +kernel
theorem dX10_append_83 : decode cX10_append 83 = .ok (.invokestatic 36, 3) := by decide +kernel
theorem dX10_append_86 : decode cX10_append 86 = .ok (.aload_n 0, 1) := by decide +kernel
theorem dX10_append_87 : decode cX10_append 87 = .ok (.dup, 1) := by decide +kernel
theorem dX10_append_88 : decode cX10_append 88 = .ok (.getfield 27, 3) := by decide +kernel
theorem dX10_append_91 : decode cX10_append 91 = .ok (.iconst 1, 1) := by decide +kernel
theorem dX10_append_92 : decode cX10_append 92 = .ok (.iadd, 1) := by decide +kernel
theorem dX10_append_93 : decode cX10_append 93 = .ok (.putfield 27, 3) := by decide +kernel
theorem dX10_append_96 : decode cX10_append 96 = .ok (.iinc 4 (-8), 3) := by decide +kernel
theorem dX10_append_99 : decode cX10_append 99 = .ok (.goto (-47), 3) := by decide +kernel
theorem dX10_append_102 : decode cX10_append 102 = .ok (.aload_n 0, 1) := by decide +kernel
theorem dX10_append_103 : decode cX10_append 103 = .ok (.getfield 27, 3) := by decide +kernel
theorem dX10_append_106 : decode cX10_append 106 = .ok (.ireturn, 1) := by decide +kernel
set_option maxRecDepth 100000 in
set_option maxHeartbeats 4000000 in
theorem r_append (l : Launch) (D : va_G) (ct : Nat → ClassId) (S : ty_S) (ws : va_W) (ph : va_W → Prop) (xx : Nat → Nat → Nat → Prop) (x : Nat) (w : Nat) (sp : Nat) (sv : Nat) (bu : Nat) (bl : Int32) (le : Int32) (b : Nat → Int32) (p1 : Int64) (sz : Nat) (hT : ty_V ct S ph ws) (hph : ty_C ph xx) (hy1 : ty_y1 xx) (hbl : 0 ≤ bl.toInt ∧ bl.toInt ≤ 800) : Met l yX10_append (ws_ yX10_append cX10_append 6 (some .int)) ({ frames := 1, cells := 0, slots := 0, locals := 22 } : Room) (va_Pc [.ref x, .long p1] (cmP D ct sz ([(ty_XO x w sp sv bu bl le), (rf_RW ct 0 bu 800 b)] ++ ws))) (va_Qi (fun (r : Int32) (u : va_W × Int32 × (Nat → Int32)) => match u with | (u9, bl1, b1) => ty_V ct S ph u9 ∧ r = ty_apr bl p1 ∧ bl1 = ty_apb bl p1 ∧ b1 = ap_f b bl p1) (cmB D ([(ty_XO x w sp sv bu bl le), (rf_RW ct 0 bu 800 b)] ++ ws) sz (fun (u : va_W × Int32 × (Nat → Int32)) => match u with | (u9, bl1, b1) => ([(ty_XO x w sp sv bu bl1 le), (rf_RW ct 0 bu 800 b1)] ++ u9))) (va_A ([(ty_XO x w sp sv bu bl le), (rf_RW ct 0 bu 800 b)] ++ ws) sz)) 0 0 (va_A ([(ty_XO x w sp sv bu bl le), (rf_RW ct 0 bu 800 b)] ++ ws) sz) := by
  refine Met.ofW (cc := cX10_append) (maxL := 6) (ret := (some .int)) (by decide) rfl ?_
  intro p e s m args below meth c s₁ B hml hv
  obtain ⟨rfl, hsz, hP, hK, hD0, hX⟩ := hv
  have hx := B.exec
  have hb := B.bytes
  have hr := B.returns
  have hts := ws_all (atoms_spec (ws := ws_ yX10_append cX10_append 6 (some .int)) B.pre)
  have hown : s.vm.findClass RX10 = some m.cls := findClass_of_methodNamed B.named
  have hlocks := B.notSynchronized
  subst hsz
  have hD := hD0.self (sz := s.heap.size)
  generalize hAe : va_A ([(ty_XO x w sp sv bu bl le), (rf_RW ct 0 bu 800 b)] ++ ws) s.heap.size = A at hD hX ⊢
  have hA : ∀ q : Nat, s.heap.size ≤ q → A q := fun q h => by rw [← hAe]; exact Or.inr h
  have hS : va_S A s.heap s.heap [] := va_S.rf
  have hl := lv_entry ([.ref x, .long p1]) (n := 6) (Nat.le_of_ble_eq_true rfl)
  rw [lg_entry_eq]
  generalize (lg_sl ([.ref x, .long p1]) ++ List.replicate (6 - (lg_sl ([.ref x, .long p1])).length) Slot.unset).toArray = ls at hl ⊢
  have hl : lv_has ls 6 [(0, .ref x), (1, .long p1)] := hl
  refine lv_iconst (v := 0) hx hb dX10_append_0 (by decide) ?_
  refine lv_istore_n (lv' := [(3, .int 0), (0, .ref x), (1, .long p1)]) hx hb dX10_append_1 rfl hl (by decide) rfl (fun ls hl => ?_)
  refine lv_bipush (v := 56) hx hb dX10_append_2 (by decide) ?_
  refine lv_istore (lv' := [(4, .int 56), (3, .int 0), (0, .ref x), (1, .long p1)]) hx hb dX10_append_4 hl (by decide) rfl (fun ls hl => ?_)
  refine ty_loop (I := fun μ H locs ls => ∃ (ws : va_W) (y_1 : Int32) (y_2 : Int32), μ = (y_2.toInt + 2147483648).toNat ∧ ty_V ct S ph ws ∧ va_P D vwCl ([(ty_XO x w sp sv bu bl le), (rf_RW ct 0 bu 800 b)] ++ ws) H ∧ va_D A ([(ty_XO x w sp sv bu bl le), (rf_RW ct 0 bu 800 b)] ++ ws) ∧ va_S A s.heap H locs ∧ lv_has ls 6 [(0, .ref x), (1, .long p1), (3, .int y_1), (4, .int y_2)] ∧ ∃ i9 : Nat, i9 ≤ 8 ∧ y_2 = cm_sh i9 ∧ y_1 = cm_cnt p1 i9) ⟨_, ws, (0 : Int32), (56 : Int32), rfl, hT, hP, hD, hS, (lv_sub hl [2, 3, 1, 0] rfl), ⟨0, by decide, rfl, rfl⟩⟩ (fun μ H locs ls hI ih_6 => ?_)
  obtain ⟨ws, y_1, y_2, rfl, hT, hP, hD, hS, hl, hex_6⟩ := hI
  refine lv_iload hx hb dX10_append_6 (lv_at hl 3 rfl) ?_
  refine lv_if_lt (tgt := 33) hx hb dX10_append_8 (by decide) (fun hc_3 => ?_) (fun hc_3 => ?_)
  · obtain rfl := ty_ap3 hex_6 hc_3
    have hl : lv_has ls 6 [(0, .ref x), (1, .long p1), (3, .int (cm_cnt p1 8)), (4, .int y_2)] := hl
    refine lv_aload_n hx hb dX10_append_33 rfl (lv_at hl 0 rfl) ?_
    refine va_get (v := .int bl) (D := D) (ci := 10) (C := RX10) (T := TX10) (N := 6) hx hb hts in_X10 hown hK hP 0 rfl rfl 4 (by decide) (hts _ kl_RX10_27) (fun _ h9 => h9) rfl dX10_append_34 ?_
    refine lv_iload_n hx hb dX10_append_37 rfl (lv_at hl 2 rfl) ?_
    refine lv_iadd hx hb dX10_append_38 ?_
    refine lv_sipush (v := 800) hx hb dX10_append_39 (by decide) ?_
    refine lv_icmp_le (tgt := 48) hx hb dX10_append_42 (by decide) (fun hc_4 => ?_) (fun hc_4 => ?_)
    · refine lv_bipush (v := 56) hx hb dX10_append_48 (by decide) ?_
      refine lv_istore (lv' := [(4, .int 56), (0, .ref x), (1, .long p1), (3, .int (cm_cnt p1 8))]) hx hb dX10_append_50 hl (by decide) rfl (fun ls hl => ?_)
      refine ty_loop (I := fun μ H locs ls => ∃ (ws : va_W) (y_5 : Int32) (y_6 : Int32) (g_7 : Nat → Int32), μ = (y_5.toInt + 2147483648).toNat ∧ ty_V ct S ph ws ∧ va_P D vwCl ([(ty_XO x w sp sv bu y_6 le), (rf_RW ct 0 bu 800 g_7)] ++ ws) H ∧ va_D A ([(ty_XO x w sp sv bu y_6 le), (rf_RW ct 0 bu 800 g_7)] ++ ws) ∧ va_S A s.heap H locs ∧ lv_has ls 6 [(0, .ref x), (1, .long p1), (3, .int (cm_cnt p1 8)), (4, .int y_5)] ∧ ∃ i9 : Nat, i9 ≤ 8 ∧ y_5 = cm_sh i9 ∧ y_6 = bl + cm_cn2 p1 i9 ∧ g_7 = cm_bu b bl p1 i9) ⟨_, ws, (56 : Int32), bl, b, rfl, hT, hP, hD, hS, (lv_sub hl [1, 2, 3, 0] rfl), ⟨0, by decide, rfl, (Int32.add_zero _).symm, rfl⟩⟩ (fun μ H locs ls hI ih_52 => ?_)
      obtain ⟨ws, y_5, y_6, g_7, rfl, hT, hP, hD, hS, hl, hex_52⟩ := hI
      refine lv_iload hx hb dX10_append_52 (lv_at hl 3 rfl) ?_
      refine lv_if_lt (tgt := 102) hx hb dX10_append_54 (by decide) (fun hc_8 => ?_) (fun hc_8 => ?_)
      · obtain ⟨rfl, rfl⟩ := ap_6 hex_52 hc_8
        have hP : va_P D vwCl ([(ty_XO x w sp sv bu (bl + cm_cn2 p1 8) le), (rf_RW ct 0 bu 800 (cm_bu b bl p1 8))] ++ ws) H := hP
        have hD : va_D A ([(ty_XO x w sp sv bu (bl + cm_cn2 p1 8) le), (rf_RW ct 0 bu 800 (cm_bu b bl p1 8))] ++ ws) := hD
        refine lv_aload_n hx hb dX10_append_102 rfl (lv_at hl 0 rfl) ?_
        refine va_get (v := .int (bl + cm_cn2 p1 8)) (D := D) (ci := 10) (C := RX10) (T := TX10) (N := 6) hx hb hts in_X10 hown hK hP 0 rfl rfl 4 (by decide) (hts _ kl_RX10_27) (fun _ h9 => h9) rfl dX10_append_103 ?_
        exact W.iret (v := (bl + cm_cn2 p1 8)) hx hb hr (fun t ht hW => ⟨⟨(bl + cm_cn2 p1 8), (ws, (bl + cm_cn2 p1 8), (cm_bu b bl p1 8)), rfl, ⟨hT, ⟨(ty_ap7 hc_4).1, (ty_ap7 hc_4).2, ap_7 hc_4⟩⟩, by rw [ht]; exact hP, by rw [hAe]; exact hD⟩, hS.F ht⟩) hS.2.2 dX10_append_106
      · refine lv_lload_n hx hb dX10_append_57 rfl (lv_at hl 1 rfl) ?_
        refine lv_iload hx hb dX10_append_58 (lv_at hl 3 rfl) ?_
        refine lv_lushr (v := (p1.toUInt64 >>> (y_5.toInt64.toUInt64 &&& Int64.toUInt64 63)).toInt64) hx hb dX10_append_60 rfl ?_
        refine lv_ldc2 hx hb hown (hts _ kl_RX10_34) dX10_append_61 ?_
        refine lv_land hx hb dX10_append_64 ?_
        refine cm_cstl (y := (cm_byte p1 y_5)) rfl ?_
        refine lv_l2i hx hb dX10_append_65 rfl ?_
        refine lv_istore (lv' := [(5, .int ((cm_byte p1 y_5).toInt32)), (0, .ref x), (1, .long p1), (3, .int (cm_cnt p1 8)), (4, .int y_5)]) hx hb dX10_append_66 hl (by decide) rfl (fun ls hl => ?_)
        refine lv_iload hx hb dX10_append_68 (lv_at hl 0 rfl) ?_
        refine lv_if_eq (tgt := 96) hx hb dX10_append_70 (by decide) (fun hc_9 => ?_) (fun hc_9 => ?_)
        · refine lv_iinc (v := (y_5 + Int32.ofInt (-8))) (lv' := [(4, .int (y_5 + Int32.ofInt (-8))), (5, .int ((cm_byte p1 y_5).toInt32)), (0, .ref x), (1, .long p1), (3, .int (cm_cnt p1 8))]) hx hb dX10_append_96 hl (k := 4) rfl rfl (by decide) rfl (fun ls hl => ?_)
          refine lv_goto (tgt := 52) hx hb dX10_append_99 (by decide) ?_
          exact ih_52 _ _ _ _ (ty_decn hc_8) ⟨ws, (y_5 + Int32.ofInt (-8)), y_6, g_7, rfl, hT, hP, hD, hS, (lv_sub hl [2, 3, 4, 0] rfl), (ap_4 hex_52 hc_8 hc_9)⟩
        · refine lv_aload_n hx hb dX10_append_73 rfl (lv_at hl 1 rfl) ?_
          refine va_get (v := .ref bu) (D := D) (ci := 10) (C := RX10) (T := TX10) (N := 6) hx hb hts in_X10 hown hK hP 0 rfl rfl 3 (by decide) (hts _ kl_RX10_23) (fun _ h9 => h9) rfl dX10_append_74 ?_
          refine lv_aload_n hx hb dX10_append_77 rfl (lv_at hl 1 rfl) ?_
          refine va_get (v := .int y_6) (D := D) (ci := 10) (C := RX10) (T := TX10) (N := 6) hx hb hts in_X10 hown hK hP 0 rfl rfl 4 (by decide) (hts _ kl_RX10_27) (fun _ h9 => h9) rfl dX10_append_78 ?_
          refine lv_iload hx hb dX10_append_81 (lv_at hl 0 rfl) ?_
          have hP : va_P D vwCl (([(ty_XO x w sp sv bu y_6 le)] ++ ws) ++ ([(rf_RW ct 0 bu 800 g_7)] ++ ([] : va_W))) H := ty_permP (w1 := (([(ty_XO x w sp sv bu y_6 le)] ++ [(rf_RW ct 0 bu 800 g_7)]) ++ ws)) hP ty_mv2
          have hD : va_D A (([(ty_XO x w sp sv bu y_6 le)] ++ ws) ++ ([(rf_RW ct 0 bu 800 g_7)] ++ ([] : va_W))) := ty_permD (w1 := (([(ty_XO x w sp sv bu y_6 le)] ++ [(rf_RW ct 0 bu 800 g_7)]) ++ ws)) hD ty_mv2
          refine ty_kv (wr := ([(ty_XO x w sp sv bu y_6 le)] ++ ws)) (wc := ([(rf_RW ct 0 bu 800 g_7)] ++ ([] : va_W))) (va_runS (As := [.ref bu, .int y_6, .int ((cm_byte p1 y_5).toInt32)]) (rest := []) ⟨hx, hb, hml, hown, hts⟩ (r_put l D ct (fun _ => none) [] (fun _ => True) (fun _ _ _ => True) bu y_6 ((cm_byte p1 y_5).toInt32) g_7 _ ty_V0 ty_C0 ty_y10 (ap_r (rf_api hbl hc_4 (ap_x hex_52) hc_8 hc_9))) (cm_S 3 hts kc_X10_put ki_RX10 kl_RX10_36 ks_X10_put kd_X10_put ⟨Nat.le_of_ble_eq_true rfl, Nat.le_of_ble_eq_true rfl⟩) (ty_preS (wr := ([(ty_XO x w sp sv bu y_6 le)] ++ ws)) (wc := ([(rf_RW ct 0 bu 800 g_7)] ++ ([] : va_W))) hP hK hD hS hA hX) rfl rfl hl.1 rfl (lv_room (Nat.le_of_ble_eq_true rfl)) dX10_append_83 ⟨Nat.le_of_ble_eq_true rfl, Nat.le_of_ble_eq_true rfl⟩) hP hD hS hA (fun u H locs hw_11 hP hD hS => ?_)
          obtain ⟨ws_12, b1_13⟩ := u
          obtain ⟨hT9_14, hp_15⟩ := hw_11
          have hp_15 : b1_13 = (upd g_7 y_6.toNatClampNeg ((cm_byte p1 y_5).toInt32)) := hp_15
          have hP : va_P D vwCl ([(ty_XO x w sp sv bu y_6 le), (rf_RW ct 0 bu 800 b1_13)] ++ ws) H := ty_bkP hP
          have hD : va_D A ([(ty_XO x w sp sv bu y_6 le), (rf_RW ct 0 bu 800 b1_13)] ++ ws) := ty_bkD hD
          obtain rfl := hp_15
          refine lv_aload_n hx hb dX10_append_86 rfl (lv_at hl 1 rfl) ?_
          refine lv_dup hx hb dX10_append_87 rfl ?_
          refine va_get (v := .int y_6) (D := D) (ci := 10) (C := RX10) (T := TX10) (N := 6) hx hb hts in_X10 hown hK hP 0 rfl rfl 4 (by decide) (hts _ kl_RX10_27) (fun _ h9 => h9) rfl dX10_append_88 ?_
          refine lv_iconst (v := 1) hx hb dX10_append_91 (by decide) ?_
          refine lv_iadd hx hb dX10_append_92 ?_
          refine va_put (v := .int (y_6 + 1)) (ty := .int) (D := D) (ci := 10) (C := RX10) (T := TX10) (N := 6) hx hb hts in_X10 tyX10 tyX10_ok nmX10 hown hK hP hD hS 0 rfl rfl 4 (by decide) (hts _ kl_RX10_27) (fun _ h9 => h9) rfl (by decide +kernel) rfl rfl (Nat.le_of_ble_eq_true rfl) dX10_append_93 (fun H locs hP hD hS => ?_)
          have hP : va_P D vwCl ([(ty_XO x w sp sv bu (y_6 + 1) le), (rf_RW ct 0 bu 800 (upd g_7 y_6.toNatClampNeg ((cm_byte p1 y_5).toInt32)))] ++ ws) H := hP
          have hD : va_D A ([(ty_XO x w sp sv bu (y_6 + 1) le), (rf_RW ct 0 bu 800 (upd g_7 y_6.toNatClampNeg ((cm_byte p1 y_5).toInt32)))] ++ ws) := hD
          refine lv_iinc (v := (y_5 + Int32.ofInt (-8))) (lv' := [(4, .int (y_5 + Int32.ofInt (-8))), (5, .int ((cm_byte p1 y_5).toInt32)), (0, .ref x), (1, .long p1), (3, .int (cm_cnt p1 8))]) hx hb dX10_append_96 hl (k := 4) rfl rfl (by decide) rfl (fun ls hl => ?_)
          refine lv_goto (tgt := 52) hx hb dX10_append_99 (by decide) ?_
          exact ih_52 _ _ _ _ (ty_decn hc_8) ⟨ws, (y_5 + Int32.ofInt (-8)), (y_6 + 1), (upd g_7 y_6.toNatClampNeg ((cm_byte p1 y_5).toInt32)), rfl, hT, hP, hD, hS, (lv_sub hl [2, 3, 4, 0] rfl), (ap_5 hex_52 hc_8 hc_9)⟩
    · refine lv_bipush (v := (-2)) hx hb dX10_append_45 (by decide) ?_
      exact W.iret (v := (-2)) hx hb hr (fun t ht hW => ⟨⟨(-2), (ws, bl, b), rfl, ⟨hT, ⟨(ty_ap8 hc_4).1, (ty_ap8 hc_4).2, ap_8 hc_4⟩⟩, by rw [ht]; exact hP, by rw [hAe]; exact hD⟩, hS.F ht⟩) hS.2.2 dX10_append_47
  · refine lv_lload_n hx hb dX10_append_11 rfl (lv_at hl 1 rfl) ?_
    refine lv_iload hx hb dX10_append_12 (lv_at hl 3 rfl) ?_
    refine lv_lushr (v := (p1.toUInt64 >>> (y_2.toInt64.toUInt64 &&& Int64.toUInt64 63)).toInt64) hx hb dX10_append_14 rfl ?_
    refine lv_ldc2 hx hb hown (hts _ kl_RX10_34) dX10_append_15 ?_
    refine lv_land hx hb dX10_append_18 ?_
    refine cm_cstl (y := (cm_byte p1 y_2)) rfl ?_
    refine lv_lconst (v := 0) hx hb dX10_append_19 (by decide) ?_
    refine W.lcmp hx hb dX10_append_20 ?_
    refine lv_if_eq (tgt := 27) hx hb dX10_append_21 (by decide) (fun hc_17 => ?_) (fun hc_17 => ?_)
    · refine lv_iinc (v := (y_2 + Int32.ofInt (-8))) (lv' := [(4, .int (y_2 + Int32.ofInt (-8))), (0, .ref x), (1, .long p1), (3, .int y_1)]) hx hb dX10_append_27 hl (k := 3) rfl rfl (by decide) rfl (fun ls hl => ?_)
      refine lv_goto (tgt := 6) hx hb dX10_append_30 (by decide) ?_
      exact ih_6 _ _ _ _ (ty_decn hc_3) ⟨ws, y_1, (y_2 + Int32.ofInt (-8)), rfl, hT, hP, hD, hS, (lv_sub hl [1, 2, 3, 0] rfl), (ty_ap1 hex_6 hc_3 hc_17)⟩
    · refine lv_iinc (v := (y_1 + Int32.ofInt 1)) (lv' := [(3, .int (y_1 + Int32.ofInt 1)), (0, .ref x), (1, .long p1), (4, .int y_2)]) hx hb dX10_append_24 hl (k := 2) rfl rfl (by decide) rfl (fun ls hl => ?_)
      refine lv_iinc (v := (y_2 + Int32.ofInt (-8))) (lv' := [(4, .int (y_2 + Int32.ofInt (-8))), (3, .int (y_1 + Int32.ofInt 1)), (0, .ref x), (1, .long p1)]) hx hb dX10_append_27 hl (k := 3) rfl rfl (by decide) rfl (fun ls hl => ?_)
      refine lv_goto (tgt := 6) hx hb dX10_append_30 (by decide) ?_
      exact ih_6 _ _ _ _ (ty_decn hc_3) ⟨ws, (y_1 + Int32.ofInt 1), (y_2 + Int32.ofInt (-8)), rfl, hT, hP, hD, hS, (lv_sub hl [2, 3, 1, 0] rfl), (ty_ap2 hex_6 hc_3 hc_17)⟩
theorem dX10_curveNamed_0 : decode cX10_curveNamed 0 = .ok (.aload_n 0, 1) := by decide +kernel
theorem dX10_curveNamed_1 : decode cX10_curveNamed 1 = .ok (.getfield 27, 3) := by decide +kernel
theorem dX10_curveNamed_4 : decode cX10_curveNamed 4 = .ok (.istore_n 1, 1) := by decide +kernel
theorem dX10_curveNamed_5 : decode cX10_curveNamed 5 = .ok (.aload_n 0, 1) := by decide +kernel
theorem dX10_curveNamed_6 : decode cX10_curveNamed 6 = .ok (.iconst 0, 1) := by decide +kernel
theorem dX10_curveNamed_7 : decode cX10_curveNamed 7 = .ok (.putfield 27, 3) := by decide +kernel
theorem dX10_curveNamed_10 : decode cX10_curveNamed 10 = .ok (.iload_n 1, 1) := by decide +kernel
theorem dX10_curveNamed_11 : decode cX10_curveNamed 11 = .ok (.iconst 1, 1) := by decide +kernel
theorem dX10_curveNamed_12 : decode cX10_curveNamed 12 = .ok (.if_icmp .lt 9, 3) := by decide +kernel
theorem dX10_curveNamed_15 : decode cX10_curveNamed 15 = .ok (.iload_n 1, 1) := by decide +kernel
theorem dX10_curveNamed_16 : decode cX10_curveNamed 16 = .ok (.bipush 6, 2) := by decide +kernel
theorem dX10_curveNamed_18 : decode cX10_curveNamed 18 = .ok (.if_icmp .le 5, 3) := by decide +kernel
theorem dX10_curveNamed_21 : decode cX10_curveNamed 21 = .ok (.iconst (-1), 1) := by decide +kernel
theorem dX10_curveNamed_22 : decode cX10_curveNamed 22 = .ok (.ireturn, 1) := by decide +kernel
theorem dX10_curveNamed_23 : decode cX10_curveNamed 23 = .ok (.aload_n 0, 1) := by decide +kernel
theorem dX10_curveNamed_24 : decode cX10_curveNamed 24 = .ok (.getfield 10, 3) := by decide +kernel
theorem dX10_curveNamed_27 : decode cX10_curveNamed 27 = .ok (.getfield 67, 3) := by decide +kernel
theorem dX10_curveNamed_30 : decode cX10_curveNamed 30 = .ok (.aload_n 0, 1) := by decide +kernel
theorem dX10_curveNamed_31 : decode cX10_curveNamed 31 = .ok (.getfield 23, 3) := by decide +kernel
theorem dX10_curveNamed_34 : decode cX10_curveNamed 34 = .ok (.iconst 0, 1) := by decide +kernel
theorem dX10_curveNamed_35 : decode cX10_curveNamed 35 = .ok (.iload_n 1, 1) := by decide +kernel
theorem dX10_curveNamed_36 : decode cX10_curveNamed 36 = .ok (.invokestatic 71, 3) := by decide +kernel
theorem dX10_curveNamed_39 : decode cX10_curveNamed 39 = .ok (.invokevirtual 75, 3) := by decide +kernel
theorem dX10_curveNamed_42 : decode cX10_curveNamed 42 = .ok (.ireturn, 1) := by decide +kernel
set_option maxRecDepth 100000 in
set_option maxHeartbeats 4000000 in
theorem r_curveNamed (l : Launch) (D : va_G) (ct : Nat → ClassId) (S : ty_S) (ws : va_W) (ph : va_W → Prop) (xx : Nat → Nat → Nat → Prop) (x : Nat) (w : Nat) (sp : Nat) (sv : Nat) (bu : Nat) (bl : Int32) (le : Int32) (b : Nat → Int32) (ns : Nat) (sz : Nat) (hT : ty_V ct S ph ws) (h_w : S w = some (.inl 9)) (h_sp : S sp = some (.inl 9)) (h_sv : S sv = some (.inr (4, ns))) (hph : ty_C ph xx) (hy1 : ty_y1 xx) (hbl : 0 ≤ bl.toInt ∧ bl.toInt ≤ 800) : Met l yX10_curveNamed (ws_ yX10_curveNamed cX10_curveNamed 2 (some .int)) ({ frames := 2, cells := 0, slots := 0, locals := 46 } : Room) (va_Pc [.ref x] (cmP D ct sz ([(ty_XO x w sp sv bu bl le), (rf_RW ct 0 bu 800 b)] ++ ws))) (va_Qi (fun (r : Int32) (u9 : va_W) => ty_V ct S ph u9) (cmB D ([(ty_XO x w sp sv bu bl le), (rf_RW ct 0 bu 800 b)] ++ ws) sz (fun (u9 : va_W) => ([(ty_XO x w sp sv bu (0) le), (rf_RW ct 0 bu 800 b)] ++ u9))) (va_A ([(ty_XO x w sp sv bu bl le), (rf_RW ct 0 bu 800 b)] ++ ws) sz)) 0 0 (va_A ([(ty_XO x w sp sv bu bl le), (rf_RW ct 0 bu 800 b)] ++ ws) sz) := by
  refine Met.ofW (cc := cX10_curveNamed) (maxL := 2) (ret := (some .int)) (by decide) rfl ?_
  intro p e s m args below meth c s₁ B hml hv
  obtain ⟨rfl, hsz, hP, hK, hD0, hX⟩ := hv
  have hx := B.exec
  have hb := B.bytes
  have hr := B.returns
  have hts := ws_all (atoms_spec (ws := ws_ yX10_curveNamed cX10_curveNamed 2 (some .int)) B.pre)
  have hown : s.vm.findClass RX10 = some m.cls := findClass_of_methodNamed B.named
  have hlocks := B.notSynchronized
  subst hsz
  have hD := hD0.self (sz := s.heap.size)
  generalize hAe : va_A ([(ty_XO x w sp sv bu bl le), (rf_RW ct 0 bu 800 b)] ++ ws) s.heap.size = A at hD hX ⊢
  have hA : ∀ q : Nat, s.heap.size ≤ q → A q := fun q h => by rw [← hAe]; exact Or.inr h
  have hS : va_S A s.heap s.heap [] := va_S.rf
  have hl := lv_entry ([.ref x]) (n := 2) (Nat.le_of_ble_eq_true rfl)
  rw [lg_entry_eq]
  generalize (lg_sl ([.ref x]) ++ List.replicate (2 - (lg_sl ([.ref x])).length) Slot.unset).toArray = ls at hl ⊢
  have hl : lv_has ls 2 [(0, .ref x)] := hl
  refine lv_aload_n hx hb dX10_curveNamed_0 rfl (lv_at hl 0 rfl) ?_
  refine va_get (v := .int bl) (D := D) (ci := 10) (C := RX10) (T := TX10) (N := 6) hx hb hts in_X10 hown hK hP 0 rfl rfl 4 (by decide) (hts _ kl_RX10_27) (fun _ h9 => h9) rfl dX10_curveNamed_1 ?_
  refine lv_istore_n (lv' := [(1, .int bl), (0, .ref x)]) hx hb dX10_curveNamed_4 rfl hl (by decide) rfl (fun ls hl => ?_)
  refine lv_aload_n hx hb dX10_curveNamed_5 rfl (lv_at hl 1 rfl) ?_
  refine lv_iconst (v := 0) hx hb dX10_curveNamed_6 (by decide) ?_
  refine va_put (v := .int 0) (ty := .int) (D := D) (ci := 10) (C := RX10) (T := TX10) (N := 6) hx hb hts in_X10 tyX10 tyX10_ok nmX10 hown hK hP hD hS 0 rfl rfl 4 (by decide) (hts _ kl_RX10_27) (fun _ h9 => h9) rfl (by decide +kernel) rfl rfl (Nat.le_of_ble_eq_true rfl) dX10_curveNamed_7 (fun H locs hP hD hS => ?_)
  have hP : va_P D vwCl ([(ty_XO x w sp sv bu (0) le), (rf_RW ct 0 bu 800 b)] ++ ws) H := hP
  have hD : va_D A ([(ty_XO x w sp sv bu (0) le), (rf_RW ct 0 bu 800 b)] ++ ws) := hD
  refine lv_iload_n hx hb dX10_curveNamed_10 rfl (lv_at hl 0 rfl) ?_
  refine lv_iconst (v := 1) hx hb dX10_curveNamed_11 (by decide) ?_
  refine lv_icmp_lt (tgt := 21) hx hb dX10_curveNamed_12 (by decide) (fun hc_1 => ?_) (fun hc_1 => ?_)
  · refine lv_iconst (v := (-1)) hx hb dX10_curveNamed_21 (by decide) ?_
    exact W.iret (v := (-1)) hx hb hr (fun t ht hW => ⟨⟨(-1), ws, rfl, hT, by rw [ht]; exact hP, by rw [hAe]; exact hD⟩, hS.F ht⟩) hS.2.2 dX10_curveNamed_22
  · refine lv_iload_n hx hb dX10_curveNamed_15 rfl (lv_at hl 0 rfl) ?_
    refine lv_bipush (v := 6) hx hb dX10_curveNamed_16 (by decide) ?_
    refine lv_icmp_le (tgt := 23) hx hb dX10_curveNamed_18 (by decide) (fun hc_2 => ?_) (fun hc_2 => ?_)
    · refine lv_aload_n hx hb dX10_curveNamed_23 rfl (lv_at hl 1 rfl) ?_
      refine va_get (v := .ref w) (D := D) (ci := 10) (C := RX10) (T := TX10) (N := 6) hx hb hts in_X10 hown hK hP 0 rfl rfl 0 (by decide) (hts _ kl_RX10_10) (fun _ h9 => h9) rfl dX10_curveNamed_24 ?_
      refine ty_getN (E := [(ty_XO x w sp sv bu (0) le), (rf_RW ct 0 bu 800 b)]) (ws := ws) (D := D) (ci := 9) (C := RX9) (T := TX9) (N := 8) hx hb hts in_X9 hown hK hP hT h_w rfl 2 (by decide) (hts _ kl_RX10_67) (fun _ h9 => h9) rfl dX10_curveNamed_27 (fun _ hv_3 hf_4 => ?_)
      obtain ⟨a_5, rfl, ha_6⟩ := hv_3
      refine lv_aload_n hx hb dX10_curveNamed_30 rfl (lv_at hl 1 rfl) ?_
      refine va_get (v := .ref bu) (D := D) (ci := 10) (C := RX10) (T := TX10) (N := 6) hx hb hts in_X10 hown hK hP 0 rfl rfl 3 (by decide) (hts _ kl_RX10_23) (fun _ h9 => h9) rfl dX10_curveNamed_31 ?_
      refine lv_iconst (v := 0) hx hb dX10_curveNamed_34 (by decide) ?_
      refine lv_iload_n hx hb dX10_curveNamed_35 rfl (lv_at hl 0 rfl) ?_
      have hP : va_P D vwCl (([(ty_XO x w sp sv bu (0) le)] ++ ws) ++ ([(rf_RW ct 0 bu 800 b)] ++ ([] : va_W))) H := ty_permP (w1 := (([(ty_XO x w sp sv bu (0) le)] ++ [(rf_RW ct 0 bu 800 b)]) ++ ws)) hP ty_mv2
      have hD : va_D A (([(ty_XO x w sp sv bu (0) le)] ++ ws) ++ ([(rf_RW ct 0 bu 800 b)] ++ ([] : va_W))) := ty_permD (w1 := (([(ty_XO x w sp sv bu (0) le)] ++ [(rf_RW ct 0 bu 800 b)]) ++ ws)) hD ty_mv2
      refine ty_kl (wr := ([(ty_XO x w sp sv bu (0) le)] ++ ws)) (wc := ([(rf_RW ct 0 bu 800 b)] ++ ([] : va_W))) (va_runS (As := [.ref bu, .int 0, .int bl]) (rest := [.ref a_5]) ⟨hx, hb, hml, hown, hts⟩ (r_nameCode l D ct (fun _ => none) [] (fun _ => True) (fun _ _ _ => True) bu (0 : Int32) bl b _ ty_V0 ty_C0 ty_y10 (by have z : (0 : Int32).toInt = 0 := (by decide); omega)) (cm_S 3 hts kc_X10_nameCode ki_RX10 kl_RX10_71 ks_X10_nameCode kd_X10_nameCode ⟨Nat.le_of_ble_eq_true rfl, Nat.le_of_ble_eq_true rfl⟩) (ty_preS (wr := ([(ty_XO x w sp sv bu (0) le)] ++ ws)) (wc := ([(rf_RW ct 0 bu 800 b)] ++ ([] : va_W))) hP hK hD hS hA hX) rfl rfl hl.1 rfl (lv_room (Nat.le_of_ble_eq_true rfl)) dX10_curveNamed_36 ⟨Nat.le_of_ble_eq_true rfl, Nat.le_of_ble_eq_true rfl⟩) hP hD hS hA (fun r_7 u H locs hw_8 hP hD hS => ?_)
      obtain ⟨ws_9, rfl⟩ : ∃ z, z = u := ⟨_, rfl⟩
      obtain ⟨hT9_10, rfl⟩ := hw_8
      have hP : va_P D vwCl ([(ty_XO x w sp sv bu (0) le), (rf_RW ct 0 bu 800 b)] ++ ws) H := ty_bkP hP
      have hD : va_D A ([(ty_XO x w sp sv bu (0) le), (rf_RW ct 0 bu 800 b)] ++ ws) := ty_bkD hD
      refine ty_ki (wr := [(ty_XO x w sp sv bu (0) le), (rf_RW ct 0 bu 800 b)]) (wc := ([] ++ ws)) (va_runVN (As := [.long (rp_cd (rp_wd b 0 bl))]) (rest := []) ⟨hx, hb, hml, hown, hts⟩ (t_X2_find l D ct S ws ph xx a_5 (rp_cd (rp_wd b 0 bl)) _ hT ha_6 hph hy1) (cm_VN 1 hts kc_X2_find ki_RX2 kl_RX10_75 kv_X2_find kx_X2_find kd_X2_find ⟨Nat.le_of_ble_eq_true rfl, Nat.le_of_ble_eq_true rfl⟩) (ty_preV (wr := [(ty_XO x w sp sv bu (0) le), (rf_RW ct 0 bu 800 b)]) (E := []) (ws := ws) (ci := 2) hP hK hD hS hA hX hT rfl ha_6) rfl rfl hl.1 rfl (lv_room (Nat.le_of_ble_eq_true rfl)) dX10_curveNamed_39 ⟨Nat.le_of_ble_eq_true rfl, Nat.le_of_ble_eq_true rfl⟩) hP hD hS hA (fun r_11 u H locs hw_12 hP hD hS => ?_)
      obtain ⟨ws_13, rfl⟩ : ∃ z, z = u := ⟨_, rfl⟩
      have hT := hw_12
      have hP : va_P D vwCl ([(ty_XO x w sp sv bu (0) le), (rf_RW ct 0 bu 800 b)] ++ ws_13) H := hP
      have hD : va_D A ([(ty_XO x w sp sv bu (0) le), (rf_RW ct 0 bu 800 b)] ++ ws_13) := hD
      exact W.iret (v := r_11) hx hb hr (fun t ht hW => ⟨⟨r_11, ws_13, rfl, hT, by rw [ht]; exact hP, by rw [hAe]; exact hD⟩, hS.F ht⟩) hS.2.2 dX10_curveNamed_42
    · refine lv_iconst (v := (-1)) hx hb dX10_curveNamed_21 (by decide) ?_
      exact W.iret (v := (-1)) hx hb hr (fun t ht hW => ⟨⟨(-1), ws, rfl, hT, by rw [ht]; exact hP, by rw [hAe]; exact hD⟩, hS.F ht⟩) hS.2.2 dX10_curveNamed_22
set_option maxRecDepth 100000 in
set_option maxHeartbeats 4000000 in
theorem r_loadError (l : Launch) (D : va_G) (ct : Nat → ClassId) (S : ty_S) (ws : va_W) (ph : va_W → Prop) (xx : Nat → Nat → Nat → Prop) (x : Nat) (w : Nat) (sp : Nat) (sv : Nat) (bu : Nat) (bl : Int32) (le : Int32) (sz : Nat) (hT : ty_V ct S ph ws) (hph : ty_C ph xx) (hy1 : ty_y1 xx) : Met l yX10_loadError (ws_ yX10_loadError cX10_loadError 1 (some .int)) ({ frames := 0, cells := 0, slots := 0, locals := 0 } : Room) (va_Pc [.ref x] (cmP D ct sz ([(ty_XO x w sp sv bu bl le)] ++ ws))) (va_Qi (fun (r : Int32) (u9 : va_W) => ty_V ct S ph u9 ∧ r = le) (cmB D ([(ty_XO x w sp sv bu bl le)] ++ ws) sz (fun (u9 : va_W) => ([(ty_XO x w sp sv bu bl le)] ++ u9))) (va_A ([(ty_XO x w sp sv bu bl le)] ++ ws) sz)) 0 0 (va_A ([(ty_XO x w sp sv bu bl le)] ++ ws) sz) := by
  refine Met.ofW (cc := cX10_loadError) (maxL := 1) (ret := (some .int)) (by decide) rfl ?_
  intro p e s m args below meth c s₁ B hml hv
  obtain ⟨rfl, hsz, hP, hK, hD0, hX⟩ := hv
  have hx := B.exec
  have hb := B.bytes
  have hr := B.returns
  have hts := ws_all (atoms_spec (ws := ws_ yX10_loadError cX10_loadError 1 (some .int)) B.pre)
  have hown : s.vm.findClass RX10 = some m.cls := findClass_of_methodNamed B.named
  have hlocks := B.notSynchronized
  subst hsz
  have hD := hD0.self (sz := s.heap.size)
  generalize hAe : va_A ([(ty_XO x w sp sv bu bl le)] ++ ws) s.heap.size = A at hD hX ⊢
  have hA : ∀ q : Nat, s.heap.size ≤ q → A q := fun q h => by rw [← hAe]; exact Or.inr h
  have hS : va_S A s.heap s.heap [] := va_S.rf
  have hl := lv_entry ([.ref x]) (n := 1) (Nat.le_of_ble_eq_true rfl)
  rw [lg_entry_eq]
  generalize (lg_sl ([.ref x]) ++ List.replicate (1 - (lg_sl ([.ref x])).length) Slot.unset).toArray = ls at hl ⊢
  have hl : lv_has ls 1 [(0, .ref x)] := hl
  refine lv_aload_n hx hb dX10_loadError_0 rfl (lv_at hl 0 rfl) ?_
  refine va_get (v := .int le) (D := D) (ci := 10) (C := RX10) (T := TX10) (N := 6) hx hb hts in_X10 hown hK hP 0 rfl rfl 5 (by decide) (hts _ kl_RX10_31) (fun _ h9 => h9) rfl dX10_loadError_1 ?_
  exact W.iret (v := le) hx hb hr (fun t ht hW => ⟨⟨le, ws, rfl, ⟨hT, rfl⟩, by rw [ht]; exact hP, by rw [hAe]; exact hD⟩, hS.F ht⟩) hS.2.2 dX10_loadError_4
