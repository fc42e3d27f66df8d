theorem dX11_init_0 : decode cX11_init 0 = .ok (.aload_n 0, 1) := by decide +kernel
theorem dX11_init_1 : decode cX11_init 1 = .ok (.invokespecial 3, 3) := by decide +kernel
theorem dX11_init_4 : decode cX11_init 4 = .ok (.aload_n 0, 1) := by decide +kernel
theorem dX11_init_5 : decode cX11_init 5 = .ok (.sipush 958, 3) := by decide +kernel
theorem dX11_init_8 : decode cX11_init 8 = .ok (.newarray .int, 2) := by decide +kernel
theorem dX11_init_10 : decode cX11_init 10 = .ok (.putfield 9, 3) := by decide +kernel
theorem dX11_init_13 : decode cX11_init 13 = .ok (.aload_n 0, 1) := by decide +kernel
theorem dX11_init_14 : decode cX11_init 14 = .ok (.sipush 958, 3) := by decide +kernel
theorem dX11_init_17 : decode cX11_init 17 = .ok (.newarray .int, 2) := by decide +kernel
theorem dX11_init_19 : decode cX11_init 19 = .ok (.putfield 13, 3) := by decide +kernel
theorem dX11_init_22 : decode cX11_init 22 = .ok (.aload_n 0, 1) := by decide +kernel
theorem dX11_init_23 : decode cX11_init 23 = .ok (.sipush 958, 3) := by decide +kernel
theorem dX11_init_26 : decode cX11_init 26 = .ok (.newarray .int, 2) := by decide +kernel
theorem dX11_init_28 : decode cX11_init 28 = .ok (.putfield 16, 3) := by decide +kernel
theorem dX11_init_31 : decode cX11_init 31 = .ok (.aload_n 0, 1) := by decide +kernel
theorem dX11_init_32 : decode cX11_init 32 = .ok (.sipush 958, 3) := by decide +kernel
theorem dX11_init_35 : decode cX11_init 35 = .ok (.newarray .int, 2) := by decide +kernel
theorem dX11_init_37 : decode cX11_init 37 = .ok (.putfield 19, 3) := by decide +kernel
theorem dX11_init_40 : decode cX11_init 40 = .ok (.aload_n 0, 1) := by decide +kernel
theorem dX11_init_41 : decode cX11_init 41 = .ok (.sipush 958, 3) := by decide +kernel
theorem dX11_init_44 : decode cX11_init 44 = .ok (.newarray .int, 2) := by decide +kernel
theorem dX11_init_46 : decode cX11_init 46 = .ok (.putfield 22, 3) := by decide +kernel
theorem dX11_init_49 : decode cX11_init 49 = .ok (.aload_n 0, 1) := by decide +kernel
theorem dX11_init_50 : decode cX11_init 50 = .ok (.bipush 42, 2) := by decide +kernel
theorem dX11_init_52 : decode cX11_init 52 = .ok (.newarray .long, 2) := by decide +kernel
theorem dX11_init_54 : decode cX11_init 54 = .ok (.putfield 25, 3) := by decide +kernel
theorem dX11_init_57 : decode cX11_init 57 = .ok (.aload_n 0, 1) := by decide +kernel
theorem dX11_init_58 : decode cX11_init 58 = .ok (.bipush 42, 2) := by decide +kernel
theorem dX11_init_60 : decode cX11_init 60 = .ok (.newarray .long, 2) := by decide +kernel
theorem dX11_init_62 : decode cX11_init 62 = .ok (.putfield 29, 3) := by decide +kernel
theorem dX11_init_65 : decode cX11_init 65 = .ok (.aload_n 0, 1) := by decide +kernel
theorem dX11_init_66 : decode cX11_init 66 = .ok (.bipush 42, 2) := by decide +kernel
theorem dX11_init_68 : decode cX11_init 68 = .ok (.newarray .long, 2) := by decide +kernel
theorem dX11_init_70 : decode cX11_init 70 = .ok (.putfield 32, 3) := by decide +kernel
theorem dX11_init_73 : decode cX11_init 73 = .ok (.aload_n 0, 1) := by decide +kernel
theorem dX11_init_74 : decode cX11_init 74 = .ok (.bipush 42, 2) := by decide +kernel
theorem dX11_init_76 : decode cX11_init 76 = .ok (.newarray .long, 2) := by decide +kernel
theorem dX11_init_78 : decode cX11_init 78 = .ok (.putfield 35, 3) := by decide +kernel
theorem dX11_init_81 : decode cX11_init 81 = .ok (.aload_n 0, 1) := by decide +kernel
theorem dX11_init_82 : decode cX11_init 82 = .ok (.iconst 2, 1) := by decide +kernel
theorem dX11_init_83 : decode cX11_init 83 = .ok (.newarray .boolean, 2) := by decide +kernel
theorem dX11_init_85 : decode cX11_init 85 = .ok (.putfield 38, 3) := by decide +kernel
theorem dX11_init_88 : decode cX11_init 88 = .ok (.aload_n 0, 1) := by decide +kernel
theorem dX11_init_89 : decode cX11_init 89 = .ok (.sipush 800, 3) := by decide +kernel
theorem dX11_init_92 : decode cX11_init 92 = .ok (.newarray .int, 2) := by decide +kernel
theorem dX11_init_94 : decode cX11_init 94 = .ok (.putfield 42, 3) := by decide +kernel
theorem dX11_init_97 : decode cX11_init 97 = .ok (.aload_n 0, 1) := by decide +kernel
theorem dX11_init_98 : decode cX11_init 98 = .ok (.getfield 9, 3) := by decide +kernel
theorem dX11_init_101 : decode cX11_init 101 = .ok (.invokestatic 45, 3) := by decide +kernel
theorem dX11_init_104 : decode cX11_init 104 = .ok (.return_, 1) := by decide +kernel
set_option maxRecDepth 100000 in
set_option maxHeartbeats 4000000 in
theorem m_init (l : Launch) (D : va_G) (ct : Nat → ClassId) (mo : Nat) (sz : Nat) : Met l yX11_init (ws_ yX11_init cX11_init 1 none) ({ frames := 1, cells := 11, slots := 5760, locals := 21 } : Room) (va_Pc [.ref mo] (cmP D ct sz [(mo, .inr (11, [.null, .null, .null, .null, .null, .null, .null, .null, .null, .null, .int 0, .null, .int 0, .int 0, .int 0, .int 0, .int 0, .int 0, .int 0]))])) (va_Qv (fun (u : Nat × Nat × Nat × Nat × Nat × Nat × Nat × Nat × Nat × Nat × Nat) => match u with | (mw, ma, mf, m0, m1, mu, mv, u0, u1, iz, mb) => True) (cmB D [(mo, .inr (11, [.null, .null, .null, .null, .null, .null, .null, .null, .null, .null, .int 0, .null, .int 0, .int 0, .int 0, .int 0, .int 0, .int 0, .int 0]))] sz (fun u : Nat × Nat × Nat × Nat × Nat × Nat × Nat × Nat × Nat × Nat × Nat => match u with | (mw, ma, mf, m0, m1, mu, mv, u0, u1, iz, mb) => [(mo, .inr (11, [.ref mw, .ref ma, .ref mf, .ref m0, .ref m1, .ref mu, .ref mv, .ref u0, .ref u1, .ref iz, .int 0, .ref mb, .int 0, .int 0, .int 0, .int 0, .int 0, .int 0, .int 0])), (mw, .inl (ct 0, 958, .inl m_w0)), (mf, .inl (ct 0, 958, .inl (fun _ => 0))), (m0, .inl (ct 0, 958, .inl (fun _ => 0))), (m1, .inl (ct 0, 958, .inl (fun _ => 0))), (mu, .inl (ct 1, 42, .inr (.inl (fun _ => 0)))), (u0, .inl (ct 1, 42, .inr (.inl (fun _ => 0)))), (u1, .inl (ct 1, 42, .inr (.inl (fun _ => 0)))), (iz, .inl (ct 2, 2, .inl (fun _ => 0))), (mb, .inl (ct 0, 800, .inl (fun _ => 0)))])) (va_A [(mo, .inr (11, [.null, .null, .null, .null, .null, .null, .null, .null, .null, .null, .int 0, .null, .int 0, .int 0, .int 0, .int 0, .int 0, .int 0, .int 0]))] sz)) 11 5760 (va_A [(mo, .inr (11, [.null, .null, .null, .null, .null, .null, .null, .null, .null, .null, .int 0, .null, .int 0, .int 0, .int 0, .int 0, .int 0, .int 0, .int 0]))] sz) := by
  refine Met.ofW (cc := cX11_init) (maxL := 1) (ret := none) (by decide) rfl ?_
  intro p e s m args below meth c s₁ B hml hv
  obtain ⟨rfl, hsz, hP, hK, hD0, hX⟩ := hv
  have hx := B.exec
  have hb := B.bytes
  have hr := B.returns
  have hts := ws_all (atoms_spec (ws := ws_ yX11_init cX11_init 1 none) B.pre)
  have hown : s.vm.findClass RX11 = some m.cls := findClass_of_methodNamed B.named
  have hlocks := B.notSynchronized
  have hin : meth.name = "<init>" := (name_of_methodNamed B.named B.method).1
  subst hsz
  have hD := hD0.self (sz := s.heap.size)
  generalize hAe : va_A [(mo, .inr (11, [.null, .null, .null, .null, .null, .null, .null, .null, .null, .null, .int 0, .null, .int 0, .int 0, .int 0, .int 0, .int 0, .int 0, .int 0]))] s.heap.size = A at hD hX ⊢
  have hA : ∀ q : Nat, s.heap.size ≤ q → A q := fun q h => by rw [← hAe]; exact Or.inr h
  have hS : va_S A s.heap s.heap [] := va_S.rf
  have hl := lv_entry ([.ref mo]) (n := 1) (Nat.le_of_ble_eq_true rfl)
  rw [lg_entry_eq]
  generalize (lg_sl ([.ref mo]) ++ List.replicate (1 - (lg_sl ([.ref mo])).length) Slot.unset).toArray = ls at hl ⊢
  have hl : lv_has ls 1 [(0, .ref mo)] := hl
  refine lv_aload_n hx hb dX11_init_0 rfl (lv_at hl 0 rfl) ?_
  refine W.objInit hx hb hown (hts _ kl_RX11_3) (hts _ kv_java_lang_Object_init) (hts _ kc_java_lang_Object_init) rfl (by rw [hml]; exact hl.1) rfl dX11_init_1 (Nat.le_of_ble_eq_true rfl) (Nat.le_of_ble_eq_true rfl) ?_
  refine W.eq (g2 := F0 m 4 ls []) rfl ?_
  refine lv_aload_n hx hb dX11_init_4 rfl (lv_at hl 0 rfl) ?_
  refine lv_sipush (v := 958) hx hb dX11_init_5 (by decide) ?_
  refine cm_newa (atype := .int) (ty := .int) (a0 := (958, .inl (fun _ => 0))) hx hb (hts _ ka_int) rfl hK 0 rfl cm_raI hP hD hS hA (fun _ => rfl) (by decide) (by decide) (Nat.le_of_ble_eq_true rfl) (Nat.le_of_ble_eq_true rfl) (Nat.le_of_ble_eq_true rfl) dX11_init_8 (fun q_1 H hP hD hS => ?_)
  have hP : va_P D vwCl [(mo, .inr (11, [.null, .null, .null, .null, .null, .null, .null, .null, .null, .null, .int 0, .null, .int 0, .int 0, .int 0, .int 0, .int 0, .int 0, .int 0])), (q_1, .inl (ct 0, 958, .inl (fun _ => 0)))] H := hP
  have hD : va_D A [(mo, .inr (11, [.null, .null, .null, .null, .null, .null, .null, .null, .null, .null, .int 0, .null, .int 0, .int 0, .int 0, .int 0, .int 0, .int 0, .int 0])), (q_1, .inl (ct 0, 958, .inl (fun _ => 0)))] := hD
  refine W.widen (k := 1) (n := 958) (Nat.le_of_ble_eq_true rfl) (Nat.le_of_ble_eq_true rfl) ?_
  refine va_putF (v := .ref q_1) (ty := (tyX11 0)) (D := D) (ci := 11) (C := RX11) (T := TX11) (N := 19) hx hb hts in_X11 tyX11 tyX11_ok nmX11 hown hK hP hD hS 0 rfl rfl 0 (by decide) (hts _ kl_RX11_9) (fun _ h9 => h9) rfl hin rfl (by decide +kernel) rfl rfl (Nat.le_of_ble_eq_true rfl) dX11_init_10 (fun H locs hP hD hS => ?_)
  have hP : va_P D vwCl [(mo, .inr (11, [.ref q_1, .null, .null, .null, .null, .null, .null, .null, .null, .null, .int 0, .null, .int 0, .int 0, .int 0, .int 0, .int 0, .int 0, .int 0])), (q_1, .inl (ct 0, 958, .inl (fun _ => 0)))] H := hP
  have hD : va_D A [(mo, .inr (11, [.ref q_1, .null, .null, .null, .null, .null, .null, .null, .null, .null, .int 0, .null, .int 0, .int 0, .int 0, .int 0, .int 0, .int 0, .int 0])), (q_1, .inl (ct 0, 958, .inl (fun _ => 0)))] := hD
  refine lv_aload_n hx hb dX11_init_13 rfl (lv_at hl 0 rfl) ?_
  refine lv_sipush (v := 958) hx hb dX11_init_14 (by decide) ?_
  refine cm_newa (atype := .int) (ty := .int) (a0 := (958, .inl (fun _ => 0))) hx hb (hts _ ka_int) rfl hK 0 rfl cm_raI hP hD hS hA (fun _ => rfl) (by decide) (by decide) (Nat.le_of_ble_eq_true rfl) (Nat.le_of_ble_eq_true rfl) (Nat.le_of_ble_eq_true rfl) dX11_init_17 (fun q_2 H hP hD hS => ?_)
  have hP : va_P D vwCl [(mo, .inr (11, [.ref q_1, .null, .null, .null, .null, .null, .null, .null, .null, .null, .int 0, .null, .int 0, .int 0, .int 0, .int 0, .int 0, .int 0, .int 0])), (q_1, .inl (ct 0, 958, .inl (fun _ => 0))), (q_2, .inl (ct 0, 958, .inl (fun _ => 0)))] H := hP
  have hD : va_D A [(mo, .inr (11, [.ref q_1, .null, .null, .null, .null, .null, .null, .null, .null, .null, .int 0, .null, .int 0, .int 0, .int 0, .int 0, .int 0, .int 0, .int 0])), (q_1, .inl (ct 0, 958, .inl (fun _ => 0))), (q_2, .inl (ct 0, 958, .inl (fun _ => 0)))] := hD
  refine W.widen (k := 2) (n := 1916) (Nat.le_of_ble_eq_true rfl) (Nat.le_of_ble_eq_true rfl) ?_
  refine va_putF (v := .ref q_2) (ty := (tyX11 1)) (D := D) (ci := 11) (C := RX11) (T := TX11) (N := 19) hx hb hts in_X11 tyX11 tyX11_ok nmX11 hown hK hP hD hS 0 rfl rfl 1 (by decide) (hts _ kl_RX11_13) (fun _ h9 => h9) rfl hin rfl (by decide +kernel) rfl rfl (Nat.le_of_ble_eq_true rfl) dX11_init_19 (fun H locs hP hD hS => ?_)
  have hP : va_P D vwCl [(mo, .inr (11, [.ref q_1, .ref q_2, .null, .null, .null, .null, .null, .null, .null, .null, .int 0, .null, .int 0, .int 0, .int 0, .int 0, .int 0, .int 0, .int 0])), (q_1, .inl (ct 0, 958, .inl (fun _ => 0))), (q_2, .inl (ct 0, 958, .inl (fun _ => 0)))] H := hP
  have hD : va_D A [(mo, .inr (11, [.ref q_1, .ref q_2, .null, .null, .null, .null, .null, .null, .null, .null, .int 0, .null, .int 0, .int 0, .int 0, .int 0, .int 0, .int 0, .int 0])), (q_1, .inl (ct 0, 958, .inl (fun _ => 0))), (q_2, .inl (ct 0, 958, .inl (fun _ => 0)))] := hD
  refine lv_aload_n hx hb dX11_init_22 rfl (lv_at hl 0 rfl) ?_
  refine lv_sipush (v := 958) hx hb dX11_init_23 (by decide) ?_
  refine cm_newa (atype := .int) (ty := .int) (a0 := (958, .inl (fun _ => 0))) hx hb (hts _ ka_int) rfl hK 0 rfl cm_raI hP hD hS hA (fun _ => rfl) (by decide) (by decide) (Nat.le_of_ble_eq_true rfl) (Nat.le_of_ble_eq_true rfl) (Nat.le_of_ble_eq_true rfl) dX11_init_26 (fun q_3 H hP hD hS => ?_)
  have hP : va_P D vwCl [(mo, .inr (11, [.ref q_1, .ref q_2, .null, .null, .null, .null, .null, .null, .null, .null, .int 0, .null, .int 0, .int 0, .int 0, .int 0, .int 0, .int 0, .int 0])), (q_1, .inl (ct 0, 958, .inl (fun _ => 0))), (q_2, .inl (ct 0, 958, .inl (fun _ => 0))), (q_3, .inl (ct 0, 958, .inl (fun _ => 0)))] H := hP
  have hD : va_D A [(mo, .inr (11, [.ref q_1, .ref q_2, .null, .null, .null, .null, .null, .null, .null, .null, .int 0, .null, .int 0, .int 0, .int 0, .int 0, .int 0, .int 0, .int 0])), (q_1, .inl (ct 0, 958, .inl (fun _ => 0))), (q_2, .inl (ct 0, 958, .inl (fun _ => 0))), (q_3, .inl (ct 0, 958, .inl (fun _ => 0)))] := hD
  refine W.widen (k := 3) (n := 2874) (Nat.le_of_ble_eq_true rfl) (Nat.le_of_ble_eq_true rfl) ?_
  refine va_putF (v := .ref q_3) (ty := (tyX11 2)) (D := D) (ci := 11) (C := RX11) (T := TX11) (N := 19) hx hb hts in_X11 tyX11 tyX11_ok nmX11 hown hK hP hD hS 0 rfl rfl 2 (by decide) (hts _ kl_RX11_16) (fun _ h9 => h9) rfl hin rfl (by decide +kernel) rfl rfl (Nat.le_of_ble_eq_true rfl) dX11_init_28 (fun H locs hP hD hS => ?_)
  have hP : va_P D vwCl [(mo, .inr (11, [.ref q_1, .ref q_2, .ref q_3, .null, .null, .null, .null, .null, .null, .null, .int 0, .null, .int 0, .int 0, .int 0, .int 0, .int 0, .int 0, .int 0])), (q_1, .inl (ct 0, 958, .inl (fun _ => 0))), (q_2, .inl (ct 0, 958, .inl (fun _ => 0))), (q_3, .inl (ct 0, 958, .inl (fun _ => 0)))] H := hP
  have hD : va_D A [(mo, .inr (11, [.ref q_1, .ref q_2, .ref q_3, .null, .null, .null, .null, .null, .null, .null, .int 0, .null, .int 0, .int 0, .int 0, .int 0, .int 0, .int 0, .int 0])), (q_1, .inl (ct 0, 958, .inl (fun _ => 0))), (q_2, .inl (ct 0, 958, .inl (fun _ => 0))), (q_3, .inl (ct 0, 958, .inl (fun _ => 0)))] := hD
  refine lv_aload_n hx hb dX11_init_31 rfl (lv_at hl 0 rfl) ?_
  refine lv_sipush (v := 958) hx hb dX11_init_32 (by decide) ?_
  refine cm_newa (atype := .int) (ty := .int) (a0 := (958, .inl (fun _ => 0))) hx hb (hts _ ka_int) rfl hK 0 rfl cm_raI hP hD hS hA (fun _ => rfl) (by decide) (by decide) (Nat.le_of_ble_eq_true rfl) (Nat.le_of_ble_eq_true rfl) (Nat.le_of_ble_eq_true rfl) dX11_init_35 (fun q_4 H hP hD hS => ?_)
  have hP : va_P D vwCl [(mo, .inr (11, [.ref q_1, .ref q_2, .ref q_3, .null, .null, .null, .null, .null, .null, .null, .int 0, .null, .int 0, .int 0, .int 0, .int 0, .int 0, .int 0, .int 0])), (q_1, .inl (ct 0, 958, .inl (fun _ => 0))), (q_2, .inl (ct 0, 958, .inl (fun _ => 0))), (q_3, .inl (ct 0, 958, .inl (fun _ => 0))), (q_4, .inl (ct 0, 958, .inl (fun _ => 0)))] H := hP
  have hD : va_D A [(mo, .inr (11, [.ref q_1, .ref q_2, .ref q_3, .null, .null, .null, .null, .null, .null, .null, .int 0, .null, .int 0, .int 0, .int 0, .int 0, .int 0, .int 0, .int 0])), (q_1, .inl (ct 0, 958, .inl (fun _ => 0))), (q_2, .inl (ct 0, 958, .inl (fun _ => 0))), (q_3, .inl (ct 0, 958, .inl (fun _ => 0))), (q_4, .inl (ct 0, 958, .inl (fun _ => 0)))] := hD
  refine W.widen (k := 4) (n := 3832) (Nat.le_of_ble_eq_true rfl) (Nat.le_of_ble_eq_true rfl) ?_
  refine va_putF (v := .ref q_4) (ty := (tyX11 3)) (D := D) (ci := 11) (C := RX11) (T := TX11) (N := 19) hx hb hts in_X11 tyX11 tyX11_ok nmX11 hown hK hP hD hS 0 rfl rfl 3 (by decide) (hts _ kl_RX11_19) (fun _ h9 => h9) rfl hin rfl (by decide +kernel) rfl rfl (Nat.le_of_ble_eq_true rfl) dX11_init_37 (fun H locs hP hD hS => ?_)
  have hP : va_P D vwCl [(mo, .inr (11, [.ref q_1, .ref q_2, .ref q_3, .ref q_4, .null, .null, .null, .null, .null, .null, .int 0, .null, .int 0, .int 0, .int 0, .int 0, .int 0, .int 0, .int 0])), (q_1, .inl (ct 0, 958, .inl (fun _ => 0))), (q_2, .inl (ct 0, 958, .inl (fun _ => 0))), (q_3, .inl (ct 0, 958, .inl (fun _ => 0))), (q_4, .inl (ct 0, 958, .inl (fun _ => 0)))] H := hP
  have hD : va_D A [(mo, .inr (11, [.ref q_1, .ref q_2, .ref q_3, .ref q_4, .null, .null, .null, .null, .null, .null, .int 0, .null, .int 0, .int 0, .int 0, .int 0, .int 0, .int 0, .int 0])), (q_1, .inl (ct 0, 958, .inl (fun _ => 0))), (q_2, .inl (ct 0, 958, .inl (fun _ => 0))), (q_3, .inl (ct 0, 958, .inl (fun _ => 0))), (q_4, .inl (ct 0, 958, .inl (fun _ => 0)))] := hD
  refine lv_aload_n hx hb dX11_init_40 rfl (lv_at hl 0 rfl) ?_
  refine lv_sipush (v := 958) hx hb dX11_init_41 (by decide) ?_
  refine cm_newa (atype := .int) (ty := .int) (a0 := (958, .inl (fun _ => 0))) hx hb (hts _ ka_int) rfl hK 0 rfl cm_raI hP hD hS hA (fun _ => rfl) (by decide) (by decide) (Nat.le_of_ble_eq_true rfl) (Nat.le_of_ble_eq_true rfl) (Nat.le_of_ble_eq_true rfl) dX11_init_44 (fun q_5 H hP hD hS => ?_)
  have hP : va_P D vwCl [(mo, .inr (11, [.ref q_1, .ref q_2, .ref q_3, .ref q_4, .null, .null, .null, .null, .null, .null, .int 0, .null, .int 0, .int 0, .int 0, .int 0, .int 0, .int 0, .int 0])), (q_1, .inl (ct 0, 958, .inl (fun _ => 0))), (q_2, .inl (ct 0, 958, .inl (fun _ => 0))), (q_3, .inl (ct 0, 958, .inl (fun _ => 0))), (q_4, .inl (ct 0, 958, .inl (fun _ => 0))), (q_5, .inl (ct 0, 958, .inl (fun _ => 0)))] H := hP
  have hD : va_D A [(mo, .inr (11, [.ref q_1, .ref q_2, .ref q_3, .ref q_4, .null, .null, .null, .null, .null, .null, .int 0, .null, .int 0, .int 0, .int 0, .int 0, .int 0, .int 0, .int 0])), (q_1, .inl (ct 0, 958, .inl (fun _ => 0))), (q_2, .inl (ct 0, 958, .inl (fun _ => 0))), (q_3, .inl (ct 0, 958, .inl (fun _ => 0))), (q_4, .inl (ct 0, 958, .inl (fun _ => 0))), (q_5, .inl (ct 0, 958, .inl (fun _ => 0)))] := hD
  refine W.widen (k := 5) (n := 4790) (Nat.le_of_ble_eq_true rfl) (Nat.le_of_ble_eq_true rfl) ?_
  refine va_putF (v := .ref q_5) (ty := (tyX11 4)) (D := D) (ci := 11) (C := RX11) (T := TX11) (N := 19) hx hb hts in_X11 tyX11 tyX11_ok nmX11 hown hK hP hD hS 0 rfl rfl 4 (by decide) (hts _ kl_RX11_22) (fun _ h9 => h9) rfl hin rfl (by decide +kernel) rfl rfl (Nat.le_of_ble_eq_true rfl) dX11_init_46 (fun H locs hP hD hS => ?_)
  have hP : va_P D vwCl [(mo, .inr (11, [.ref q_1, .ref q_2, .ref q_3, .ref q_4, .ref q_5, .null, .null, .null, .null, .null, .int 0, .null, .int 0, .int 0, .int 0, .int 0, .int 0, .int 0, .int 0])), (q_1, .inl (ct 0, 958, .inl (fun _ => 0))), (q_2, .inl (ct 0, 958, .inl (fun _ => 0))), (q_3, .inl (ct 0, 958, .inl (fun _ => 0))), (q_4, .inl (ct 0, 958, .inl (fun _ => 0))), (q_5, .inl (ct 0, 958, .inl (fun _ => 0)))] H := hP
  have hD : va_D A [(mo, .inr (11, [.ref q_1, .ref q_2, .ref q_3, .ref q_4, .ref q_5, .null, .null, .null, .null, .null, .int 0, .null, .int 0, .int 0, .int 0, .int 0, .int 0, .int 0, .int 0])), (q_1, .inl (ct 0, 958, .inl (fun _ => 0))), (q_2, .inl (ct 0, 958, .inl (fun _ => 0))), (q_3, .inl (ct 0, 958, .inl (fun _ => 0))), (q_4, .inl (ct 0, 958, .inl (fun _ => 0))), (q_5, .inl (ct 0, 958, .inl (fun _ => 0)))] := hD
  refine lv_aload_n hx hb dX11_init_49 rfl (lv_at hl 0 rfl) ?_
  refine lv_bipush (v := 42) hx hb dX11_init_50 (by decide) ?_
  refine cm_newa (atype := .long) (ty := .long) (a0 := (42, .inr (.inl (fun _ => 0)))) hx hb (hts _ ka_long) rfl hK 1 rfl cm_raJ hP hD hS hA (fun _ => rfl) (by decide) (by decide) (Nat.le_of_ble_eq_true rfl) (Nat.le_of_ble_eq_true rfl) (Nat.le_of_ble_eq_true rfl) dX11_init_52 (fun q_6 H hP hD hS => ?_)
  have hP : va_P D vwCl [(mo, .inr (11, [.ref q_1, .ref q_2, .ref q_3, .ref q_4, .ref q_5, .null, .null, .null, .null, .null, .int 0, .null, .int 0, .int 0, .int 0, .int 0, .int 0, .int 0, .int 0])), (q_1, .inl (ct 0, 958, .inl (fun _ => 0))), (q_2, .inl (ct 0, 958, .inl (fun _ => 0))), (q_3, .inl (ct 0, 958, .inl (fun _ => 0))), (q_4, .inl (ct 0, 958, .inl (fun _ => 0))), (q_5, .inl (ct 0, 958, .inl (fun _ => 0))), (q_6, .inl (ct 1, 42, .inr (.inl (fun _ => 0))))] H := hP
  have hD : va_D A [(mo, .inr (11, [.ref q_1, .ref q_2, .ref q_3, .ref q_4, .ref q_5, .null, .null, .null, .null, .null, .int 0, .null, .int 0, .int 0, .int 0, .int 0, .int 0, .int 0, .int 0])), (q_1, .inl (ct 0, 958, .inl (fun _ => 0))), (q_2, .inl (ct 0, 958, .inl (fun _ => 0))), (q_3, .inl (ct 0, 958, .inl (fun _ => 0))), (q_4, .inl (ct 0, 958, .inl (fun _ => 0))), (q_5, .inl (ct 0, 958, .inl (fun _ => 0))), (q_6, .inl (ct 1, 42, .inr (.inl (fun _ => 0))))] := hD
  refine W.widen (k := 6) (n := 4832) (Nat.le_of_ble_eq_true rfl) (Nat.le_of_ble_eq_true rfl) ?_
  refine va_putF (v := .ref q_6) (ty := (tyX11 5)) (D := D) (ci := 11) (C := RX11) (T := TX11) (N := 19) hx hb hts in_X11 tyX11 tyX11_ok nmX11 hown hK hP hD hS 0 rfl rfl 5 (by decide) (hts _ kl_RX11_25) (fun _ h9 => h9) rfl hin rfl (by decide +kernel) rfl rfl (Nat.le_of_ble_eq_true rfl) dX11_init_54 (fun H locs hP hD hS => ?_)
  have hP : va_P D vwCl [(mo, .inr (11, [.ref q_1, .ref q_2, .ref q_3, .ref q_4, .ref q_5, .ref q_6, .null, .null, .null, .null, .int 0, .null, .int 0, .int 0, .int 0, .int 0, .int 0, .int 0, .int 0])), (q_1, .inl (ct 0, 958, .inl (fun _ => 0))), (q_2, .inl (ct 0, 958, .inl (fun _ => 0))), (q_3, .inl (ct 0, 958, .inl (fun _ => 0))), (q_4, .inl (ct 0, 958, .inl (fun _ => 0))), (q_5, .inl (ct 0, 958, .inl (fun _ => 0))), (q_6, .inl (ct 1, 42, .inr (.inl (fun _ => 0))))] H := hP
  have hD : va_D A [(mo, .inr (11, [.ref q_1, .ref q_2, .ref q_3, .ref q_4, .ref q_5, .ref q_6, .null, .null, .null, .null, .int 0, .null, .int 0, .int 0, .int 0, .int 0, .int 0, .int 0, .int 0])), (q_1, .inl (ct 0, 958, .inl (fun _ => 0))), (q_2, .inl (ct 0, 958, .inl (fun _ => 0))), (q_3, .inl (ct 0, 958, .inl (fun _ => 0))), (q_4, .inl (ct 0, 958, .inl (fun _ => 0))), (q_5, .inl (ct 0, 958, .inl (fun _ => 0))), (q_6, .inl (ct 1, 42, .inr (.inl (fun _ => 0))))] := hD
  refine lv_aload_n hx hb dX11_init_57 rfl (lv_at hl 0 rfl) ?_
  refine lv_bipush (v := 42) hx hb dX11_init_58 (by decide) ?_
  refine cm_newa (atype := .long) (ty := .long) (a0 := (42, .inr (.inl (fun _ => 0)))) hx hb (hts _ ka_long) rfl hK 1 rfl cm_raJ hP hD hS hA (fun _ => rfl) (by decide) (by decide) (Nat.le_of_ble_eq_true rfl) (Nat.le_of_ble_eq_true rfl) (Nat.le_of_ble_eq_true rfl) dX11_init_60 (fun q_7 H hP hD hS => ?_)
  have hP : va_P D vwCl [(mo, .inr (11, [.ref q_1, .ref q_2, .ref q_3, .ref q_4, .ref q_5, .ref q_6, .null, .null, .null, .null, .int 0, .null, .int 0, .int 0, .int 0, .int 0, .int 0, .int 0, .int 0])), (q_1, .inl (ct 0, 958, .inl (fun _ => 0))), (q_2, .inl (ct 0, 958, .inl (fun _ => 0))), (q_3, .inl (ct 0, 958, .inl (fun _ => 0))), (q_4, .inl (ct 0, 958, .inl (fun _ => 0))), (q_5, .inl (ct 0, 958, .inl (fun _ => 0))), (q_6, .inl (ct 1, 42, .inr (.inl (fun _ => 0)))), (q_7, .inl (ct 1, 42, .inr (.inl (fun _ => 0))))] H := hP
  have hD : va_D A [(mo, .inr (11, [.ref q_1, .ref q_2, .ref q_3, .ref q_4, .ref q_5, .ref q_6, .null, .null, .null, .null, .int 0, .null, .int 0, .int 0, .int 0, .int 0, .int 0, .int 0, .int 0])), (q_1, .inl (ct 0, 958, .inl (fun _ => 0))), (q_2, .inl (ct 0, 958, .inl (fun _ => 0))), (q_3, .inl (ct 0, 958, .inl (fun _ => 0))), (q_4, .inl (ct 0, 958, .inl (fun _ => 0))), (q_5, .inl (ct 0, 958, .inl (fun _ => 0))), (q_6, .inl (ct 1, 42, .inr (.inl (fun _ => 0)))), (q_7, .inl (ct 1, 42, .inr (.inl (fun _ => 0))))] := hD
  refine W.widen (k := 7) (n := 4874) (Nat.le_of_ble_eq_true rfl) (Nat.le_of_ble_eq_true rfl) ?_
  refine va_putF (v := .ref q_7) (ty := (tyX11 6)) (D := D) (ci := 11) (C := RX11) (T := TX11) (N := 19) hx hb hts in_X11 tyX11 tyX11_ok nmX11 hown hK hP hD hS 0 rfl rfl 6 (by decide) (hts _ kl_RX11_29) (fun _ h9 => h9) rfl hin rfl (by decide +kernel) rfl rfl (Nat.le_of_ble_eq_true rfl) dX11_init_62 (fun H locs hP hD hS => ?_)
  have hP : va_P D vwCl [(mo, .inr (11, [.ref q_1, .ref q_2, .ref q_3, .ref q_4, .ref q_5, .ref q_6, .ref q_7, .null, .null, .null, .int 0, .null, .int 0, .int 0, .int 0, .int 0, .int 0, .int 0, .int 0])), (q_1, .inl (ct 0, 958, .inl (fun _ => 0))), (q_2, .inl (ct 0, 958, .inl (fun _ => 0))), (q_3, .inl (ct 0, 958, .inl (fun _ => 0))), (q_4, .inl (ct 0, 958, .inl (fun _ => 0))), (q_5, .inl (ct 0, 958, .inl (fun _ => 0))), (q_6, .inl (ct 1, 42, .inr (.inl (fun _ => 0)))), (q_7, .inl (ct 1, 42, .inr (.inl (fun _ => 0))))] H := hP
  have hD : va_D A [(mo, .inr (11, [.ref q_1, .ref q_2, .ref q_3, .ref q_4, .ref q_5, .ref q_6, .ref q_7, .null, .null, .null, .int 0, .null, .int 0, .int 0, .int 0, .int 0, .int 0, .int 0, .int 0])), (q_1, .inl (ct 0, 958, .inl (fun _ => 0))), (q_2, .inl (ct 0, 958, .inl (fun _ => 0))), (q_3, .inl (ct 0, 958, .inl (fun _ => 0))), (q_4, .inl (ct 0, 958, .inl (fun _ => 0))), (q_5, .inl (ct 0, 958, .inl (fun _ => 0))), (q_6, .inl (ct 1, 42, .inr (.inl (fun _ => 0)))), (q_7, .inl (ct 1, 42, .inr (.inl (fun _ => 0))))] := hD
  refine lv_aload_n hx hb dX11_init_65 rfl (lv_at hl 0 rfl) ?_
  refine lv_bipush (v := 42) hx hb dX11_init_66 (by decide) ?_
  refine cm_newa (atype := .long) (ty := .long) (a0 := (42, .inr (.inl (fun _ => 0)))) hx hb (hts _ ka_long) rfl hK 1 rfl cm_raJ hP hD hS hA (fun _ => rfl) (by decide) (by decide) (Nat.le_of_ble_eq_true rfl) (Nat.le_of_ble_eq_true rfl) (Nat.le_of_ble_eq_true rfl) dX11_init_68 (fun q_8 H hP hD hS => ?_)
  have hP : va_P D vwCl [(mo, .inr (11, [.ref q_1, .ref q_2, .ref q_3, .ref q_4, .ref q_5, .ref q_6, .ref q_7, .null, .null, .null, .int 0, .null, .int 0, .int 0, .int 0, .int 0, .int 0, .int 0, .int 0])), (q_1, .inl (ct 0, 958, .inl (fun _ => 0))), (q_2, .inl (ct 0, 958, .inl (fun _ => 0))), (q_3, .inl (ct 0, 958, .inl (fun _ => 0))), (q_4, .inl (ct 0, 958, .inl (fun _ => 0))), (q_5, .inl (ct 0, 958, .inl (fun _ => 0))), (q_6, .inl (ct 1, 42, .inr (.inl (fun _ => 0)))), (q_7, .inl (ct 1, 42, .inr (.inl (fun _ => 0)))), (q_8, .inl (ct 1, 42, .inr (.inl (fun _ => 0))))] H := hP
  have hD : va_D A [(mo, .inr (11, [.ref q_1, .ref q_2, .ref q_3, .ref q_4, .ref q_5, .ref q_6, .ref q_7, .null, .null, .null, .int 0, .null, .int 0, .int 0, .int 0, .int 0, .int 0, .int 0, .int 0])), (q_1, .inl (ct 0, 958, .inl (fun _ => 0))), (q_2, .inl (ct 0, 958, .inl (fun _ => 0))), (q_3, .inl (ct 0, 958, .inl (fun _ => 0))), (q_4, .inl (ct 0, 958, .inl (fun _ => 0))), (q_5, .inl (ct 0, 958, .inl (fun _ => 0))), (q_6, .inl (ct 1, 42, .inr (.inl (fun _ => 0)))), (q_7, .inl (ct 1, 42, .inr (.inl (fun _ => 0)))), (q_8, .inl (ct 1, 42, .inr (.inl (fun _ => 0))))] := hD
  refine W.widen (k := 8) (n := 4916) (Nat.le_of_ble_eq_true rfl) (Nat.le_of_ble_eq_true rfl) ?_
  refine va_putF (v := .ref q_8) (ty := (tyX11 7)) (D := D) (ci := 11) (C := RX11) (T := TX11) (N := 19) hx hb hts in_X11 tyX11 tyX11_ok nmX11 hown hK hP hD hS 0 rfl rfl 7 (by decide) (hts _ kl_RX11_32) (fun _ h9 => h9) rfl hin rfl (by decide +kernel) rfl rfl (Nat.le_of_ble_eq_true rfl) dX11_init_70 (fun H locs hP hD hS => ?_)
  have hP : va_P D vwCl [(mo, .inr (11, [.ref q_1, .ref q_2, .ref q_3, .ref q_4, .ref q_5, .ref q_6, .ref q_7, .ref q_8, .null, .null, .int 0, .null, .int 0, .int 0, .int 0, .int 0, .int 0, .int 0, .int 0])), (q_1, .inl (ct 0, 958, .inl (fun _ => 0))), (q_2, .inl (ct 0, 958, .inl (fun _ => 0))), (q_3, .inl (ct 0, 958, .inl (fun _ => 0))), (q_4, .inl (ct 0, 958, .inl (fun _ => 0))), (q_5, .inl (ct 0, 958, .inl (fun _ => 0))), (q_6, .inl (ct 1, 42, .inr (.inl (fun _ => 0)))), (q_7, .inl (ct 1, 42, .inr (.inl (fun _ => 0)))), (q_8, .inl (ct 1, 42, .inr (.inl (fun _ => 0))))] H := hP
  have hD : va_D A [(mo, .inr (11, [.ref q_1, .ref q_2, .ref q_3, .ref q_4, .ref q_5, .ref q_6, .ref q_7, .ref q_8, .null, .null, .int 0, .null, .int 0, .int 0, .int 0, .int 0, .int 0, .int 0, .int 0])), (q_1, .inl (ct 0, 958, .inl (fun _ => 0))), (q_2, .inl (ct 0, 958, .inl (fun _ => 0))), (q_3, .inl (ct 0, 958, .inl (fun _ => 0))), (q_4, .inl (ct 0, 958, .inl (fun _ => 0))), (q_5, .inl (ct 0, 958, .inl (fun _ => 0))), (q_6, .inl (ct 1, 42, .inr (.inl (fun _ => 0)))), (q_7, .inl (ct 1, 42, .inr (.inl (fun _ => 0)))), (q_8, .inl (ct 1, 42, .inr (.inl (fun _ => 0))))] := hD
  refine lv_aload_n hx hb dX11_init_73 rfl (lv_at hl 0 rfl) ?_
  refine lv_bipush (v := 42) hx hb dX11_init_74 (by decide) ?_
  refine cm_newa (atype := .long) (ty := .long) (a0 := (42, .inr (.inl (fun _ => 0)))) hx hb (hts _ ka_long) rfl hK 1 rfl cm_raJ hP hD hS hA (fun _ => rfl) (by decide) (by decide) (Nat.le_of_ble_eq_true rfl) (Nat.le_of_ble_eq_true rfl) (Nat.le_of_ble_eq_true rfl) dX11_init_76 (fun q_9 H hP hD hS => ?_)
  have hP : va_P D vwCl [(mo, .inr (11, [.ref q_1, .ref q_2, .ref q_3, .ref q_4, .ref q_5, .ref q_6, .ref q_7, .ref q_8, .null, .null, .int 0, .null, .int 0, .int 0, .int 0, .int 0, .int 0, .int 0, .int 0])), (q_1, .inl (ct 0, 958, .inl (fun _ => 0))), (q_2, .inl (ct 0, 958, .inl (fun _ => 0))), (q_3, .inl (ct 0, 958, .inl (fun _ => 0))), (q_4, .inl (ct 0, 958, .inl (fun _ => 0))), (q_5, .inl (ct 0, 958, .inl (fun _ => 0))), (q_6, .inl (ct 1, 42, .inr (.inl (fun _ => 0)))), (q_7, .inl (ct 1, 42, .inr (.inl (fun _ => 0)))), (q_8, .inl (ct 1, 42, .inr (.inl (fun _ => 0)))), (q_9, .inl (ct 1, 42, .inr (.inl (fun _ => 0))))] H := hP
  have hD : va_D A [(mo, .inr (11, [.ref q_1, .ref q_2, .ref q_3, .ref q_4, .ref q_5, .ref q_6, .ref q_7, .ref q_8, .null, .null, .int 0, .null, .int 0, .int 0, .int 0, .int 0, .int 0, .int 0, .int 0])), (q_1, .inl (ct 0, 958, .inl (fun _ => 0))), (q_2, .inl (ct 0, 958, .inl (fun _ => 0))), (q_3, .inl (ct 0, 958, .inl (fun _ => 0))), (q_4, .inl (ct 0, 958, .inl (fun _ => 0))), (q_5, .inl (ct 0, 958, .inl (fun _ => 0))), (q_6, .inl (ct 1, 42, .inr (.inl (fun _ => 0)))), (q_7, .inl (ct 1, 42, .inr (.inl (fun _ => 0)))), (q_8, .inl (ct 1, 42, .inr (.inl (fun _ => 0)))), (q_9, .inl (ct 1, 42, .inr (.inl (fun _ => 0))))] := hD
  refine W.widen (k := 9) (n := 4958) (Nat.le_of_ble_eq_true rfl) (Nat.le_of_ble_eq_true rfl) ?_
  refine va_putF (v := .ref q_9) (ty := (tyX11 8)) (D := D) (ci := 11) (C := RX11) (T := TX11) (N := 19) hx hb hts in_X11 tyX11 tyX11_ok nmX11 hown hK hP hD hS 0 rfl rfl 8 (by decide) (hts _ kl_RX11_35) (fun _ h9 => h9) rfl hin rfl (by decide +kernel) rfl rfl (Nat.le_of_ble_eq_true rfl) dX11_init_78 (fun H locs hP hD hS => ?_)
  have hP : va_P D vwCl [(mo, .inr (11, [.ref q_1, .ref q_2, .ref q_3, .ref q_4, .ref q_5, .ref q_6, .ref q_7, .ref q_8, .ref q_9, .null, .int 0, .null, .int 0, .int 0, .int 0, .int 0, .int 0, .int 0, .int 0])), (q_1, .inl (ct 0, 958, .inl (fun _ => 0))), (q_2, .inl (ct 0, 958, .inl (fun _ => 0))), (q_3, .inl (ct 0, 958, .inl (fun _ => 0))), (q_4, .inl (ct 0, 958, .inl (fun _ => 0))), (q_5, .inl (ct 0, 958, .inl (fun _ => 0))), (q_6, .inl (ct 1, 42, .inr (.inl (fun _ => 0)))), (q_7, .inl (ct 1, 42, .inr (.inl (fun _ => 0)))), (q_8, .inl (ct 1, 42, .inr (.inl (fun _ => 0)))), (q_9, .inl (ct 1, 42, .inr (.inl (fun _ => 0))))] H := hP
  have hD : va_D A [(mo, .inr (11, [.ref q_1, .ref q_2, .ref q_3, .ref q_4, .ref q_5, .ref q_6, .ref q_7, .ref q_8, .ref q_9, .null, .int 0, .null, .int 0, .int 0, .int 0, .int 0, .int 0, .int 0, .int 0])), (q_1, .inl (ct 0, 958, .inl (fun _ => 0))), (q_2, .inl (ct 0, 958, .inl (fun _ => 0))), (q_3, .inl (ct 0, 958, .inl (fun _ => 0))), (q_4, .inl (ct 0, 958, .inl (fun _ => 0))), (q_5, .inl (ct 0, 958, .inl (fun _ => 0))), (q_6, .inl (ct 1, 42, .inr (.inl (fun _ => 0)))), (q_7, .inl (ct 1, 42, .inr (.inl (fun _ => 0)))), (q_8, .inl (ct 1, 42, .inr (.inl (fun _ => 0)))), (q_9, .inl (ct 1, 42, .inr (.inl (fun _ => 0))))] := hD
  refine lv_aload_n hx hb dX11_init_81 rfl (lv_at hl 0 rfl) ?_
  refine lv_iconst (v := 2) hx hb dX11_init_82 (by decide) ?_
  refine cm_newa (atype := .boolean) (ty := .boolean) (a0 := (2, .inl (fun _ => 0))) hx hb (hts _ ka_boolean) rfl hK 2 rfl cm_raZ hP hD hS hA (fun _ => rfl) (by decide) (by decide) (Nat.le_of_ble_eq_true rfl) (Nat.le_of_ble_eq_true rfl) (Nat.le_of_ble_eq_true rfl) dX11_init_83 (fun q_10 H hP hD hS => ?_)
  have hP : va_P D vwCl [(mo, .inr (11, [.ref q_1, .ref q_2, .ref q_3, .ref q_4, .ref q_5, .ref q_6, .ref q_7, .ref q_8, .ref q_9, .null, .int 0, .null, .int 0, .int 0, .int 0, .int 0, .int 0, .int 0, .int 0])), (q_1, .inl (ct 0, 958, .inl (fun _ => 0))), (q_2, .inl (ct 0, 958, .inl (fun _ => 0))), (q_3, .inl (ct 0, 958, .inl (fun _ => 0))), (q_4, .inl (ct 0, 958, .inl (fun _ => 0))), (q_5, .inl (ct 0, 958, .inl (fun _ => 0))), (q_6, .inl (ct 1, 42, .inr (.inl (fun _ => 0)))), (q_7, .inl (ct 1, 42, .inr (.inl (fun _ => 0)))), (q_8, .inl (ct 1, 42, .inr (.inl (fun _ => 0)))), (q_9, .inl (ct 1, 42, .inr (.inl (fun _ => 0)))), (q_10, .inl (ct 2, 2, .inl (fun _ => 0)))] H := hP
  have hD : va_D A [(mo, .inr (11, [.ref q_1, .ref q_2, .ref q_3, .ref q_4, .ref q_5, .ref q_6, .ref q_7, .ref q_8, .ref q_9, .null, .int 0, .null, .int 0, .int 0, .int 0, .int 0, .int 0, .int 0, .int 0])), (q_1, .inl (ct 0, 958, .inl (fun _ => 0))), (q_2, .inl (ct 0, 958, .inl (fun _ => 0))), (q_3, .inl (ct 0, 958, .inl (fun _ => 0))), (q_4, .inl (ct 0, 958, .inl (fun _ => 0))), (q_5, .inl (ct 0, 958, .inl (fun _ => 0))), (q_6, .inl (ct 1, 42, .inr (.inl (fun _ => 0)))), (q_7, .inl (ct 1, 42, .inr (.inl (fun _ => 0)))), (q_8, .inl (ct 1, 42, .inr (.inl (fun _ => 0)))), (q_9, .inl (ct 1, 42, .inr (.inl (fun _ => 0)))), (q_10, .inl (ct 2, 2, .inl (fun _ => 0)))] := hD
  refine W.widen (k := 10) (n := 4960) (Nat.le_of_ble_eq_true rfl) (Nat.le_of_ble_eq_true rfl) ?_
  refine va_putF (v := .ref q_10) (ty := (tyX11 9)) (D := D) (ci := 11) (C := RX11) (T := TX11) (N := 19) hx hb hts in_X11 tyX11 tyX11_ok nmX11 hown hK hP hD hS 0 rfl rfl 9 (by decide) (hts _ kl_RX11_38) (fun _ h9 => h9) rfl hin rfl (by decide +kernel) rfl rfl (Nat.le_of_ble_eq_true rfl) dX11_init_85 (fun H locs hP hD hS => ?_)
  have hP : va_P D vwCl [(mo, .inr (11, [.ref q_1, .ref q_2, .ref q_3, .ref q_4, .ref q_5, .ref q_6, .ref q_7, .ref q_8, .ref q_9, .ref q_10, .int 0, .null, .int 0, .int 0, .int 0, .int 0, .int 0, .int 0, .int 0])), (q_1, .inl (ct 0, 958, .inl (fun _ => 0))), (q_2, .inl (ct 0, 958, .inl (fun _ => 0))), (q_3, .inl (ct 0, 958, .inl (fun _ => 0))), (q_4, .inl (ct 0, 958, .inl (fun _ => 0))), (q_5, .inl (ct 0, 958, .inl (fun _ => 0))), (q_6, .inl (ct 1, 42, .inr (.inl (fun _ => 0)))), (q_7, .inl (ct 1, 42, .inr (.inl (fun _ => 0)))), (q_8, .inl (ct 1, 42, .inr (.inl (fun _ => 0)))), (q_9, .inl (ct 1, 42, .inr (.inl (fun _ => 0)))), (q_10, .inl (ct 2, 2, .inl (fun _ => 0)))] H := hP
  have hD : va_D A [(mo, .inr (11, [.ref q_1, .ref q_2, .ref q_3, .ref q_4, .ref q_5, .ref q_6, .ref q_7, .ref q_8, .ref q_9, .ref q_10, .int 0, .null, .int 0, .int 0, .int 0, .int 0, .int 0, .int 0, .int 0])), (q_1, .inl (ct 0, 958, .inl (fun _ => 0))), (q_2, .inl (ct 0, 958, .inl (fun _ => 0))), (q_3, .inl (ct 0, 958, .inl (fun _ => 0))), (q_4, .inl (ct 0, 958, .inl (fun _ => 0))), (q_5, .inl (ct 0, 958, .inl (fun _ => 0))), (q_6, .inl (ct 1, 42, .inr (.inl (fun _ => 0)))), (q_7, .inl (ct 1, 42, .inr (.inl (fun _ => 0)))), (q_8, .inl (ct 1, 42, .inr (.inl (fun _ => 0)))), (q_9, .inl (ct 1, 42, .inr (.inl (fun _ => 0)))), (q_10, .inl (ct 2, 2, .inl (fun _ => 0)))] := hD
  refine lv_aload_n hx hb dX11_init_88 rfl (lv_at hl 0 rfl) ?_
  refine lv_sipush (v := 800) hx hb dX11_init_89 (by decide) ?_
  refine cm_newa (atype := .int) (ty := .int) (a0 := (800, .inl (fun _ => 0))) hx hb (hts _ ka_int) rfl hK 0 rfl cm_raI hP hD hS hA (fun _ => rfl) (by decide) (by decide) (Nat.le_of_ble_eq_true rfl) (Nat.le_of_ble_eq_true rfl) (Nat.le_of_ble_eq_true rfl) dX11_init_92 (fun q_11 H hP hD hS => ?_)
  have hP : va_P D vwCl [(mo, .inr (11, [.ref q_1, .ref q_2, .ref q_3, .ref q_4, .ref q_5, .ref q_6, .ref q_7, .ref q_8, .ref q_9, .ref q_10, .int 0, .null, .int 0, .int 0, .int 0, .int 0, .int 0, .int 0, .int 0])), (q_1, .inl (ct 0, 958, .inl (fun _ => 0))), (q_2, .inl (ct 0, 958, .inl (fun _ => 0))), (q_3, .inl (ct 0, 958, .inl (fun _ => 0))), (q_4, .inl (ct 0, 958, .inl (fun _ => 0))), (q_5, .inl (ct 0, 958, .inl (fun _ => 0))), (q_6, .inl (ct 1, 42, .inr (.inl (fun _ => 0)))), (q_7, .inl (ct 1, 42, .inr (.inl (fun _ => 0)))), (q_8, .inl (ct 1, 42, .inr (.inl (fun _ => 0)))), (q_9, .inl (ct 1, 42, .inr (.inl (fun _ => 0)))), (q_10, .inl (ct 2, 2, .inl (fun _ => 0))), (q_11, .inl (ct 0, 800, .inl (fun _ => 0)))] H := hP
  have hD : va_D A [(mo, .inr (11, [.ref q_1, .ref q_2, .ref q_3, .ref q_4, .ref q_5, .ref q_6, .ref q_7, .ref q_8, .ref q_9, .ref q_10, .int 0, .null, .int 0, .int 0, .int 0, .int 0, .int 0, .int 0, .int 0])), (q_1, .inl (ct 0, 958, .inl (fun _ => 0))), (q_2, .inl (ct 0, 958, .inl (fun _ => 0))), (q_3, .inl (ct 0, 958, .inl (fun _ => 0))), (q_4, .inl (ct 0, 958, .inl (fun _ => 0))), (q_5, .inl (ct 0, 958, .inl (fun _ => 0))), (q_6, .inl (ct 1, 42, .inr (.inl (fun _ => 0)))), (q_7, .inl (ct 1, 42, .inr (.inl (fun _ => 0)))), (q_8, .inl (ct 1, 42, .inr (.inl (fun _ => 0)))), (q_9, .inl (ct 1, 42, .inr (.inl (fun _ => 0)))), (q_10, .inl (ct 2, 2, .inl (fun _ => 0))), (q_11, .inl (ct 0, 800, .inl (fun _ => 0)))] := hD
  refine W.widen (k := 11) (n := 5760) (Nat.le_of_ble_eq_true rfl) (Nat.le_of_ble_eq_true rfl) ?_
  refine va_putF (v := .ref q_11) (ty := (tyX11 11)) (D := D) (ci := 11) (C := RX11) (T := TX11) (N := 19) hx hb hts in_X11 tyX11 tyX11_ok nmX11 hown hK hP hD hS 0 rfl rfl 11 (by decide) (hts _ kl_RX11_42) (fun _ h9 => h9) rfl hin rfl (by decide +kernel) rfl rfl (Nat.le_of_ble_eq_true rfl) dX11_init_94 (fun H locs hP hD hS => ?_)
  have hP : va_P D vwCl [(mo, .inr (11, [.ref q_1, .ref q_2, .ref q_3, .ref q_4, .ref q_5, .ref q_6, .ref q_7, .ref q_8, .ref q_9, .ref q_10, .int 0, .ref q_11, .int 0, .int 0, .int 0, .int 0, .int 0, .int 0, .int 0])), (q_1, .inl (ct 0, 958, .inl (fun _ => 0))), (q_2, .inl (ct 0, 958, .inl (fun _ => 0))), (q_3, .inl (ct 0, 958, .inl (fun _ => 0))), (q_4, .inl (ct 0, 958, .inl (fun _ => 0))), (q_5, .inl (ct 0, 958, .inl (fun _ => 0))), (q_6, .inl (ct 1, 42, .inr (.inl (fun _ => 0)))), (q_7, .inl (ct 1, 42, .inr (.inl (fun _ => 0)))), (q_8, .inl (ct 1, 42, .inr (.inl (fun _ => 0)))), (q_9, .inl (ct 1, 42, .inr (.inl (fun _ => 0)))), (q_10, .inl (ct 2, 2, .inl (fun _ => 0))), (q_11, .inl (ct 0, 800, .inl (fun _ => 0)))] H := hP
  have hD : va_D A [(mo, .inr (11, [.ref q_1, .ref q_2, .ref q_3, .ref q_4, .ref q_5, .ref q_6, .ref q_7, .ref q_8, .ref q_9, .ref q_10, .int 0, .ref q_11, .int 0, .int 0, .int 0, .int 0, .int 0, .int 0, .int 0])), (q_1, .inl (ct 0, 958, .inl (fun _ => 0))), (q_2, .inl (ct 0, 958, .inl (fun _ => 0))), (q_3, .inl (ct 0, 958, .inl (fun _ => 0))), (q_4, .inl (ct 0, 958, .inl (fun _ => 0))), (q_5, .inl (ct 0, 958, .inl (fun _ => 0))), (q_6, .inl (ct 1, 42, .inr (.inl (fun _ => 0)))), (q_7, .inl (ct 1, 42, .inr (.inl (fun _ => 0)))), (q_8, .inl (ct 1, 42, .inr (.inl (fun _ => 0)))), (q_9, .inl (ct 1, 42, .inr (.inl (fun _ => 0)))), (q_10, .inl (ct 2, 2, .inl (fun _ => 0))), (q_11, .inl (ct 0, 800, .inl (fun _ => 0)))] := hD
  refine lv_aload_n hx hb dX11_init_97 rfl (lv_at hl 0 rfl) ?_
  refine va_get (v := .ref q_1) (D := D) (ci := 11) (C := RX11) (T := TX11) (N := 19) hx hb hts in_X11 hown hK hP 0 rfl rfl 0 (by decide) (hts _ kl_RX11_9) (fun _ h9 => h9) rfl dX11_init_98 ?_
  refine cm_kv (wr := [(mo, .inr (11, [.ref q_1, .ref q_2, .ref q_3, .ref q_4, .ref q_5, .ref q_6, .ref q_7, .ref q_8, .ref q_9, .ref q_10, .int 0, .ref q_11, .int 0, .int 0, .int 0, .int 0, .int 0, .int 0, .int 0])), (q_2, .inl (ct 0, 958, .inl (fun _ => 0))), (q_3, .inl (ct 0, 958, .inl (fun _ => 0))), (q_4, .inl (ct 0, 958, .inl (fun _ => 0))), (q_5, .inl (ct 0, 958, .inl (fun _ => 0))), (q_6, .inl (ct 1, 42, .inr (.inl (fun _ => 0)))), (q_7, .inl (ct 1, 42, .inr (.inl (fun _ => 0)))), (q_8, .inl (ct 1, 42, .inr (.inl (fun _ => 0)))), (q_9, .inl (ct 1, 42, .inr (.inl (fun _ => 0)))), (q_10, .inl (ct 2, 2, .inl (fun _ => 0))), (q_11, .inl (ct 0, 800, .inl (fun _ => 0)))]) (va_runS (As := [.ref q_1]) (rest := []) ⟨hx, hb, hml, hown, hts⟩ (m_starts l D ct q_1 _) (cm_S 1 hts kc_X11_starts ki_RX11 kl_RX11_45 ks_X11_starts kd_X11_starts ⟨Nat.le_of_ble_eq_true rfl, Nat.le_of_ble_eq_true rfl⟩) (cm_preS hP hK hD hS hA hX [1] rfl rfl rfl) rfl rfl hl.1 rfl (lv_room (Nat.le_of_ble_eq_true rfl)) dX11_init_101 ⟨Nat.le_of_ble_eq_true rfl, Nat.le_of_ble_eq_true rfl⟩) hP hD hS hA [1] [0, 2, 3, 4, 5, 6, 7, 8, 9, 10, 11] rfl rfl rfl (by decide) (fun u H locs hw_13 hP hD hS => ?_)
  have hP : va_P D vwCl [(mo, .inr (11, [.ref q_1, .ref q_2, .ref q_3, .ref q_4, .ref q_5, .ref q_6, .ref q_7, .ref q_8, .ref q_9, .ref q_10, .int 0, .ref q_11, .int 0, .int 0, .int 0, .int 0, .int 0, .int 0, .int 0])), (q_2, .inl (ct 0, 958, .inl (fun _ => 0))), (q_3, .inl (ct 0, 958, .inl (fun _ => 0))), (q_4, .inl (ct 0, 958, .inl (fun _ => 0))), (q_5, .inl (ct 0, 958, .inl (fun _ => 0))), (q_6, .inl (ct 1, 42, .inr (.inl (fun _ => 0)))), (q_7, .inl (ct 1, 42, .inr (.inl (fun _ => 0)))), (q_8, .inl (ct 1, 42, .inr (.inl (fun _ => 0)))), (q_9, .inl (ct 1, 42, .inr (.inl (fun _ => 0)))), (q_10, .inl (ct 2, 2, .inl (fun _ => 0))), (q_11, .inl (ct 0, 800, .inl (fun _ => 0))), (q_1, .inl (ct 0, 958, .inl m_w0))] H := hP
  have hD : va_D A [(mo, .inr (11, [.ref q_1, .ref q_2, .ref q_3, .ref q_4, .ref q_5, .ref q_6, .ref q_7, .ref q_8, .ref q_9, .ref q_10, .int 0, .ref q_11, .int 0, .int 0, .int 0, .int 0, .int 0, .int 0, .int 0])), (q_2, .inl (ct 0, 958, .inl (fun _ => 0))), (q_3, .inl (ct 0, 958, .inl (fun _ => 0))), (q_4, .inl (ct 0, 958, .inl (fun _ => 0))), (q_5, .inl (ct 0, 958, .inl (fun _ => 0))), (q_6, .inl (ct 1, 42, .inr (.inl (fun _ => 0)))), (q_7, .inl (ct 1, 42, .inr (.inl (fun _ => 0)))), (q_8, .inl (ct 1, 42, .inr (.inl (fun _ => 0)))), (q_9, .inl (ct 1, 42, .inr (.inl (fun _ => 0)))), (q_10, .inl (ct 2, 2, .inl (fun _ => 0))), (q_11, .inl (ct 0, 800, .inl (fun _ => 0))), (q_1, .inl (ct 0, 958, .inl m_w0))] := hD
  have hP9 := hP.sub (ws' := [(mo, .inr (11, [.ref q_1, .ref q_2, .ref q_3, .ref q_4, .ref q_5, .ref q_6, .ref q_7, .ref q_8, .ref q_9, .ref q_10, .int 0, .ref q_11, .int 0, .int 0, .int 0, .int 0, .int 0, .int 0, .int 0])), (q_1, .inl (ct 0, 958, .inl m_w0)), (q_3, .inl (ct 0, 958, .inl (fun _ => 0))), (q_4, .inl (ct 0, 958, .inl (fun _ => 0))), (q_5, .inl (ct 0, 958, .inl (fun _ => 0))), (q_6, .inl (ct 1, 42, .inr (.inl (fun _ => 0)))), (q_8, .inl (ct 1, 42, .inr (.inl (fun _ => 0)))), (q_9, .inl (ct 1, 42, .inr (.inl (fun _ => 0)))), (q_10, .inl (ct 2, 2, .inl (fun _ => 0))), (q_11, .inl (ct 0, 800, .inl (fun _ => 0)))]) [0, 11, 2, 3, 4, 5, 7, 8, 9, 10] rfl
  have hD9 := hD.sub (ws' := [(mo, .inr (11, [.ref q_1, .ref q_2, .ref q_3, .ref q_4, .ref q_5, .ref q_6, .ref q_7, .ref q_8, .ref q_9, .ref q_10, .int 0, .ref q_11, .int 0, .int 0, .int 0, .int 0, .int 0, .int 0, .int 0])), (q_1, .inl (ct 0, 958, .inl m_w0)), (q_3, .inl (ct 0, 958, .inl (fun _ => 0))), (q_4, .inl (ct 0, 958, .inl (fun _ => 0))), (q_5, .inl (ct 0, 958, .inl (fun _ => 0))), (q_6, .inl (ct 1, 42, .inr (.inl (fun _ => 0)))), (q_8, .inl (ct 1, 42, .inr (.inl (fun _ => 0)))), (q_9, .inl (ct 1, 42, .inr (.inl (fun _ => 0)))), (q_10, .inl (ct 2, 2, .inl (fun _ => 0))), (q_11, .inl (ct 0, 800, .inl (fun _ => 0)))]) [0, 11, 2, 3, 4, 5, 7, 8, 9, 10] (by decide) rfl
  exact W.vret hx hb hr (fun t ht hW => ⟨⟨⟨q_1, q_2, q_3, q_4, q_5, q_6, q_7, q_8, q_9, q_10, q_11⟩, rfl, trivial, by rw [ht]; exact hP9, by rw [hAe]; exact hD9⟩, hS.F ht⟩) hS.2.2 dX11_init_104
theorem dX11_byteAt_0 : decode cX11_byteAt 0 = .ok (.iload_n 1, 1) := by decide +kernel
theorem dX11_byteAt_1 : decode cX11_byteAt 1 = .ok (.aload_n 0, 1) := by decide +kernel
theorem dX11_byteAt_2 : decode cX11_byteAt 2 = .ok (.getfield 56, 3) := by decide +kernel
theorem dX11_byteAt_5 : decode cX11_byteAt 5 = .ok (.if_icmp .ge 12, 3) := by decide +kernel
theorem dX11_byteAt_17 : decode cX11_byteAt 17 = .ok (.iconst (-1), 1) := by decide +kernel
theorem dX11_byteAt_18 : decode cX11_byteAt 18 = .ok (.ireturn, 1) := by decide +kernel
set_option maxRecDepth 100000 in
set_option maxHeartbeats 4000000 in
theorem m_byteAt_0 (l : Launch) (D : va_G) (ct : Nat → ClassId) (mo : Nat) (mw : Nat) (ma : Nat) (mf : Nat) (m0 : Nat) (m1 : Nat) (mu : Nat) (mv : Nat) (u0 : Nat) (u1 : Nat) (iz : Nat) (mb : Nat) (th : Int32) (wr : Int32) (wk : Int32) (lf : Int32) (sz : Nat) : Met l yX11_byteAt (ws_ yX11_byteAt cX11_byteAt 2 (some .int)) ({ frames := 0, cells := 0, slots := 0, locals := 0 } : Room) (va_Pc [.ref mo, .int 0] (cmP D ct sz [(mo, .inr (11, [.ref mw, .ref ma, .ref mf, .ref m0, .ref m1, .ref mu, .ref mv, .ref u0, .ref u1, .ref iz, .int th, .ref mb, .int 0, .int 0, .int 0, .int wr, .int wk, .int lf, .int 0]))])) (va_Qi (fun (r : Int32) (_ : Unit) => r = (-1)) (cmB D [(mo, .inr (11, [.ref mw, .ref ma, .ref mf, .ref m0, .ref m1, .ref mu, .ref mv, .ref u0, .ref u1, .ref iz, .int th, .ref mb, .int 0, .int 0, .int 0, .int wr, .int wk, .int lf, .int 0]))] sz (fun _ : Unit => [(mo, .inr (11, [.ref mw, .ref ma, .ref mf, .ref m0, .ref m1, .ref mu, .ref mv, .ref u0, .ref u1, .ref iz, .int th, .ref mb, .int 0, .int 0, .int 0, .int wr, .int wk, .int lf, .int 0]))])) (va_A [(mo, .inr (11, [.ref mw, .ref ma, .ref mf, .ref m0, .ref m1, .ref mu, .ref mv, .ref u0, .ref u1, .ref iz, .int th, .ref mb, .int 0, .int 0, .int 0, .int wr, .int wk, .int lf, .int 0]))] sz)) 0 0 (va_A [(mo, .inr (11, [.ref mw, .ref ma, .ref mf, .ref m0, .ref m1, .ref mu, .ref mv, .ref u0, .ref u1, .ref iz, .int th, .ref mb, .int 0, .int 0, .int 0, .int wr, .int wk, .int lf, .int 0]))] sz) := by
  refine Met.ofW (cc := cX11_byteAt) (maxL := 2) (ret := (some .int)) (by decide) rfl ?_
  intro p e s m args below meth c s₁ B hml hv
  obtain ⟨rfl, hsz, hP, hK, hD0, hX⟩ := hv
  have hx := B.exec
  have hb := B.bytes
  have hr := B.returns
  have hts := ws_all (atoms_spec (ws := ws_ yX11_byteAt cX11_byteAt 2 (some .int)) B.pre)
  have hown : s.vm.findClass RX11 = some m.cls := findClass_of_methodNamed B.named
  have hlocks := B.notSynchronized
  subst hsz
  have hD := hD0.self (sz := s.heap.size)
  generalize hAe : va_A [(mo, .inr (11, [.ref mw, .ref ma, .ref mf, .ref m0, .ref m1, .ref mu, .ref mv, .ref u0, .ref u1, .ref iz, .int th, .ref mb, .int 0, .int 0, .int 0, .int wr, .int wk, .int lf, .int 0]))] s.heap.size = A at hD hX ⊢
  have hA : ∀ q : Nat, s.heap.size ≤ q → A q := fun q h => by rw [← hAe]; exact Or.inr h
  have hS : va_S A s.heap s.heap [] := va_S.rf
  have hl := lv_entry ([.ref mo, .int 0]) (n := 2) (Nat.le_of_ble_eq_true rfl)
  rw [lg_entry_eq]
  generalize (lg_sl ([.ref mo, .int 0]) ++ List.replicate (2 - (lg_sl ([.ref mo, .int 0])).length) Slot.unset).toArray = ls at hl ⊢
  have hl : lv_has ls 2 [(0, .ref mo), (1, .int 0)] := hl
  refine lv_iload_n hx hb dX11_byteAt_0 rfl (lv_at hl 1 rfl) ?_
  refine lv_aload_n hx hb dX11_byteAt_1 rfl (lv_at hl 0 rfl) ?_
  refine va_get (v := .int 0) (D := D) (ci := 11) (C := RX11) (T := TX11) (N := 19) hx hb hts in_X11 hown hK hP 0 rfl rfl 12 (by decide) (hts _ kl_RX11_56) (fun _ h9 => h9) rfl dX11_byteAt_2 ?_
  refine lv_icmp_ge (tgt := 17) hx hb dX11_byteAt_5 (by decide) (fun _ => ?_) (fun hc => absurd (by decide) hc)
  refine lv_iconst (v := (-1)) hx hb dX11_byteAt_17 (by decide) ?_
  have hP9 := hP.sub (ws' := [(mo, .inr (11, [.ref mw, .ref ma, .ref mf, .ref m0, .ref m1, .ref mu, .ref mv, .ref u0, .ref u1, .ref iz, .int th, .ref mb, .int 0, .int 0, .int 0, .int wr, .int wk, .int lf, .int 0]))]) [0] rfl
  have hD9 := hD.sub (ws' := [(mo, .inr (11, [.ref mw, .ref ma, .ref mf, .ref m0, .ref m1, .ref mu, .ref mv, .ref u0, .ref u1, .ref iz, .int th, .ref mb, .int 0, .int 0, .int 0, .int wr, .int wk, .int lf, .int 0]))]) [0] (by decide) rfl
  exact W.iret (v := (-1)) hx hb hr (fun t ht hW => ⟨⟨(-1), (), rfl, rfl, by rw [ht]; exact hP9, by rw [hAe]; exact hD9⟩, hS.F ht⟩) hS.2.2 dX11_byteAt_18
theorem dX11_isLetter_0 : decode cX11_isLetter 0 = .ok (.aload_n 0, 1) := by decide +kernel
theorem dX11_isLetter_1 : decode cX11_isLetter 1 = .ok (.iload_n 1, 1) := by decide +kernel
theorem dX11_isLetter_2 : decode cX11_isLetter 2 = .ok (.invokevirtual 62, 3) := by decide +kernel
theorem dX11_isLetter_5 : decode cX11_isLetter 5 = .ok (.i2l, 1) := by decide +kernel
theorem dX11_isLetter_6 : decode cX11_isLetter 6 = .ok (.ldc2_w 66, 3) := by decide +kernel
theorem dX11_isLetter_9 : decode cX11_isLetter 9 = .ok (.ldc2_w 68, 3) := by decide +kernel
theorem dX11_isLetter_12 : decode cX11_isLetter 12 = .ok (.invokestatic 70, 3) := by decide +kernel
theorem dX11_isLetter_15 : decode cX11_isLetter 15 = .ok (.ireturn, 1) := by decide +kernel
set_option maxRecDepth 100000 in
set_option maxHeartbeats 4000000 in
theorem m_isLetter_0 (l : Launch) (D : va_G) (ct : Nat → ClassId) (mo : Nat) (mw : Nat) (ma : Nat) (mf : Nat) (m0 : Nat) (m1 : Nat) (mu : Nat) (mv : Nat) (u0 : Nat) (u1 : Nat) (iz : Nat) (mb : Nat) (sz : Nat) : Met l yX11_isLetter (ws_ yX11_isLetter cX11_isLetter 2 (some .boolean)) ({ frames := 1, cells := 0, slots := 0, locals := 25 } : Room) (va_Pc [.ref mo, .int 0] (cmP D ct sz [(mo, .inr (11, [.ref mw, .ref ma, .ref mf, .ref m0, .ref m1, .ref mu, .ref mv, .ref u0, .ref u1, .ref iz, .int 0, .ref mb, .int 0, .int 0, .int 0, .int 0, .int 0, .int 0, .int 0]))])) (va_Qi (fun (r : Int32) (_ : Unit) => r = 0) (cmB D [(mo, .inr (11, [.ref mw, .ref ma, .ref mf, .ref m0, .ref m1, .ref mu, .ref mv, .ref u0, .ref u1, .ref iz, .int 0, .ref mb, .int 0, .int 0, .int 0, .int 0, .int 0, .int 0, .int 0]))] sz (fun _ : Unit => [(mo, .inr (11, [.ref mw, .ref ma, .ref mf, .ref m0, .ref m1, .ref mu, .ref mv, .ref u0, .ref u1, .ref iz, .int 0, .ref mb, .int 0, .int 0, .int 0, .int 0, .int 0, .int 0, .int 0]))])) (va_A [(mo, .inr (11, [.ref mw, .ref ma, .ref mf, .ref m0, .ref m1, .ref mu, .ref mv, .ref u0, .ref u1, .ref iz, .int 0, .ref mb, .int 0, .int 0, .int 0, .int 0, .int 0, .int 0, .int 0]))] sz)) 0 0 (va_A [(mo, .inr (11, [.ref mw, .ref ma, .ref mf, .ref m0, .ref m1, .ref mu, .ref mv, .ref u0, .ref u1, .ref iz, .int 0, .ref mb, .int 0, .int 0, .int 0, .int 0, .int 0, .int 0, .int 0]))] sz) := by
  refine Met.ofW (cc := cX11_isLetter) (maxL := 2) (ret := (some .boolean)) (by decide) rfl ?_
  intro p e s m args below meth c s₁ B hml hv
  obtain ⟨rfl, hsz, hP, hK, hD0, hX⟩ := hv
  have hx := B.exec
  have hb := B.bytes
  have hr := B.returns
  have hts := ws_all (atoms_spec (ws := ws_ yX11_isLetter cX11_isLetter 2 (some .boolean)) B.pre)
  have hown : s.vm.findClass RX11 = some m.cls := findClass_of_methodNamed B.named
  have hlocks := B.notSynchronized
  subst hsz
  have hD := hD0.self (sz := s.heap.size)
  generalize hAe : va_A [(mo, .inr (11, [.ref mw, .ref ma, .ref mf, .ref m0, .ref m1, .ref mu, .ref mv, .ref u0, .ref u1, .ref iz, .int 0, .ref mb, .int 0, .int 0, .int 0, .int 0, .int 0, .int 0, .int 0]))] s.heap.size = A at hD hX ⊢
  have hA : ∀ q : Nat, s.heap.size ≤ q → A q := fun q h => by rw [← hAe]; exact Or.inr h
  have hS : va_S A s.heap s.heap [] := va_S.rf
  have hl := lv_entry ([.ref mo, .int 0]) (n := 2) (Nat.le_of_ble_eq_true rfl)
  rw [lg_entry_eq]
  generalize (lg_sl ([.ref mo, .int 0]) ++ List.replicate (2 - (lg_sl ([.ref mo, .int 0])).length) Slot.unset).toArray = ls at hl ⊢
  have hl : lv_has ls 2 [(0, .ref mo), (1, .int 0)] := hl
  refine lv_aload_n hx hb dX11_isLetter_0 rfl (lv_at hl 0 rfl) ?_
  refine lv_iload_n hx hb dX11_isLetter_1 rfl (lv_at hl 1 rfl) ?_
  refine cm_ki (wr := []) (va_runV (As := [.int 0]) (rest := []) ⟨hx, hb, hml, hown, hts⟩ (m_byteAt_0 l D ct mo mw ma mf m0 m1 mu mv u0 u1 iz mb 0 0 0 0 _) (cm_V 1 hts kc_X11_byteAt ki_RX11 kl_RX11_62 kv_X11_byteAt kx_X11_byteAt kd_X11_byteAt ⟨Nat.le_of_ble_eq_true rfl, Nat.le_of_ble_eq_true rfl⟩) (cm_preV hP hK hD hS hA hX [0] rfl rfl rfl (q0 := 0) (ci := 11) rfl rfl) rfl rfl hl.1 rfl (lv_room (Nat.le_of_ble_eq_true rfl)) dX11_isLetter_2 ⟨Nat.le_of_ble_eq_true rfl, Nat.le_of_ble_eq_true rfl⟩) hP hD hS hA [0] [] rfl rfl rfl (by decide) (fun r_1 u H locs hw_2 hP hD hS => ?_)
  have hw_2 : r_1 = (-1) := hw_2
  obtain rfl := hw_2
  have hP : va_P D vwCl [(mo, .inr (11, [.ref mw, .ref ma, .ref mf, .ref m0, .ref m1, .ref mu, .ref mv, .ref u0, .ref u1, .ref iz, .int 0, .ref mb, .int 0, .int 0, .int 0, .int 0, .int 0, .int 0, .int 0]))] H := hP
  have hD : va_D A [(mo, .inr (11, [.ref mw, .ref ma, .ref mf, .ref m0, .ref m1, .ref mu, .ref mv, .ref u0, .ref u1, .ref iz, .int 0, .ref mb, .int 0, .int 0, .int 0, .int 0, .int 0, .int 0, .int 0]))] := hD
  refine lv_i2l (v := (-1)) hx hb dX11_isLetter_5 (by decide) ?_
  refine lv_ldc2 hx hb hown (hts _ kl_RX11_66) dX11_isLetter_6 ?_
  refine lv_ldc2 hx hb hown (hts _ kl_RX11_68) dX11_isLetter_9 ?_
  refine cm_ki (wr := [(mo, .inr (11, [.ref mw, .ref ma, .ref mf, .ref m0, .ref m1, .ref mu, .ref mv, .ref u0, .ref u1, .ref iz, .int 0, .ref mb, .int 0, .int 0, .int 0, .int 0, .int 0, .int 0, .int 0]))]) (va_runS (As := [.long (-1), .long 97, .long 122]) (rest := []) ⟨hx, hb, hml, hown, hts⟩ (m_in l D ct (-1) 97 122 _) (cm_S 3 hts kc_X11_in ki_RX11 kl_RX11_70 ks_X11_in kd_X11_in ⟨Nat.le_of_ble_eq_true rfl, Nat.le_of_ble_eq_true rfl⟩) (cm_preS hP hK hD hS hA hX [] rfl rfl rfl) rfl rfl hl.1 rfl (lv_room (Nat.le_of_ble_eq_true rfl)) dX11_isLetter_12 ⟨Nat.le_of_ble_eq_true rfl, Nat.le_of_ble_eq_true rfl⟩) hP hD hS hA [] [0] rfl rfl rfl (by decide) (fun r_3 u H locs hw_4 hP hD hS => ?_)
  have hw_4 : r_3 = (cm_rng (-1) 97 122) := hw_4
  obtain rfl := hw_4
  have hP : va_P D vwCl [(mo, .inr (11, [.ref mw, .ref ma, .ref mf, .ref m0, .ref m1, .ref mu, .ref mv, .ref u0, .ref u1, .ref iz, .int 0, .ref mb, .int 0, .int 0, .int 0, .int 0, .int 0, .int 0, .int 0]))] H := hP
  have hD : va_D A [(mo, .inr (11, [.ref mw, .ref ma, .ref mf, .ref m0, .ref m1, .ref mu, .ref mv, .ref u0, .ref u1, .ref iz, .int 0, .ref mb, .int 0, .int 0, .int 0, .int 0, .int 0, .int 0, .int 0]))] := hD
  refine cm_cst (y := 0) (by decide) ?_
  have hP9 := hP.sub (ws' := [(mo, .inr (11, [.ref mw, .ref ma, .ref mf, .ref m0, .ref m1, .ref mu, .ref mv, .ref u0, .ref u1, .ref iz, .int 0, .ref mb, .int 0, .int 0, .int 0, .int 0, .int 0, .int 0, .int 0]))]) [0] rfl
  have hD9 := hD.sub (ws' := [(mo, .inr (11, [.ref mw, .ref ma, .ref mf, .ref m0, .ref m1, .ref mu, .ref mv, .ref u0, .ref u1, .ref iz, .int 0, .ref mb, .int 0, .int 0, .int 0, .int 0, .int 0, .int 0, .int 0]))]) [0] (by decide) rfl
  exact W.zret (v := 0) hx hb hr (by decide) (fun t ht hW => ⟨⟨0, (), rfl, rfl, by rw [ht]; exact hP9, by rw [hAe]; exact hD9⟩, hS.F ht⟩) hS.2.2 dX11_isLetter_15
theorem dX11_see_0 : decode cX11_see 0 = .ok (.aload_n 0, 1) := by decide +kernel
theorem dX11_see_1 : decode cX11_see 1 = .ok (.aload_n 0, 1) := by decide +kernel
theorem dX11_see_2 : decode cX11_see 2 = .ok (.getfield 78, 3) := by decide +kernel
theorem dX11_see_5 : decode cX11_see 5 = .ok (.invokevirtual 62, 3) := by decide +kernel
theorem dX11_see_8 : decode cX11_see 8 = .ok (.bipush 32, 2) := by decide +kernel
theorem dX11_see_10 : decode cX11_see 10 = .ok (.if_icmp .ne 16, 3) := by decide +kernel
theorem dX11_see_26 : decode cX11_see 26 = .ok (.aload_n 0, 1) := by decide +kernel
theorem dX11_see_27 : decode cX11_see 27 = .ok (.aload_n 0, 1) := by decide +kernel
theorem dX11_see_28 : decode cX11_see 28 = .ok (.getfield 78, 3) := by decide +kernel
theorem dX11_see_31 : decode cX11_see 31 = .ok (.putfield 81, 3) := by decide +kernel
theorem dX11_see_34 : decode cX11_see 34 = .ok (.aload_n 0, 1) := by decide +kernel
theorem dX11_see_35 : decode cX11_see 35 = .ok (.aload_n 0, 1) := by decide +kernel
theorem dX11_see_36 : decode cX11_see 36 = .ok (.getfield 78, 3) := by decide +kernel
theorem dX11_see_39 : decode cX11_see 39 = .ok (.invokevirtual 62, 3) := by decide +kernel
theorem dX11_see_42 : decode cX11_see 42 = .ok (.ireturn, 1) := by decide +kernel
set_option maxRecDepth 100000 in
set_option maxHeartbeats 4000000 in
theorem m_see_0 (l : Launch) (D : va_G) (ct : Nat → ClassId) (mo : Nat) (mw : Nat) (ma : Nat) (mf : Nat) (m0 : Nat) (m1 : Nat) (mu : Nat) (mv : Nat) (u0 : Nat) (u1 : Nat) (iz : Nat) (mb : Nat) (sz : Nat) : Met l yX11_see (ws_ yX11_see cX11_see 1 (some .int)) ({ frames := 1, cells := 0, slots := 0, locals := 21 } : Room) (va_Pc [.ref mo] (cmP D ct sz [(mo, .inr (11, [.ref mw, .ref ma, .ref mf, .ref m0, .ref m1, .ref mu, .ref mv, .ref u0, .ref u1, .ref iz, .int 0, .ref mb, .int 0, .int 0, .int 0, .int 0, .int 0, .int 0, .int 0]))])) (va_Qi (fun (r : Int32) (_ : Unit) => r = (-1)) (cmB D [(mo, .inr (11, [.ref mw, .ref ma, .ref mf, .ref m0, .ref m1, .ref mu, .ref mv, .ref u0, .ref u1, .ref iz, .int 0, .ref mb, .int 0, .int 0, .int 0, .int 0, .int 0, .int 0, .int 0]))] sz (fun _ : Unit => [(mo, .inr (11, [.ref mw, .ref ma, .ref mf, .ref m0, .ref m1, .ref mu, .ref mv, .ref u0, .ref u1, .ref iz, .int 0, .ref mb, .int 0, .int 0, .int 0, .int 0, .int 0, .int 0, .int 0]))])) (va_A [(mo, .inr (11, [.ref mw, .ref ma, .ref mf, .ref m0, .ref m1, .ref mu, .ref mv, .ref u0, .ref u1, .ref iz, .int 0, .ref mb, .int 0, .int 0, .int 0, .int 0, .int 0, .int 0, .int 0]))] sz)) 0 0 (va_A [(mo, .inr (11, [.ref mw, .ref ma, .ref mf, .ref m0, .ref m1, .ref mu, .ref mv, .ref u0, .ref u1, .ref iz, .int 0, .ref mb, .int 0, .int 0, .int 0, .int 0, .int 0, .int 0, .int 0]))] sz) := by
  refine Met.ofW (cc := cX11_see) (maxL := 1) (ret := (some .int)) (by decide) rfl ?_
  intro p e s m args below meth c s₁ B hml hv
  obtain ⟨rfl, hsz, hP, hK, hD0, hX⟩ := hv
  have hx := B.exec
  have hb := B.bytes
  have hr := B.returns
  have hts := ws_all (atoms_spec (ws := ws_ yX11_see cX11_see 1 (some .int)) B.pre)
  have hown : s.vm.findClass RX11 = some m.cls := findClass_of_methodNamed B.named
  have hlocks := B.notSynchronized
  subst hsz
  have hD := hD0.self (sz := s.heap.size)
  generalize hAe : va_A [(mo, .inr (11, [.ref mw, .ref ma, .ref mf, .ref m0, .ref m1, .ref mu, .ref mv, .ref u0, .ref u1, .ref iz, .int 0, .ref mb, .int 0, .int 0, .int 0, .int 0, .int 0, .int 0, .int 0]))] s.heap.size = A at hD hX ⊢
  have hA : ∀ q : Nat, s.heap.size ≤ q → A q := fun q h => by rw [← hAe]; exact Or.inr h
  have hS : va_S A s.heap s.heap [] := va_S.rf
  have hl := lv_entry ([.ref mo]) (n := 1) (Nat.le_of_ble_eq_true rfl)
  rw [lg_entry_eq]
  generalize (lg_sl ([.ref mo]) ++ List.replicate (1 - (lg_sl ([.ref mo])).length) Slot.unset).toArray = ls at hl ⊢
  have hl : lv_has ls 1 [(0, .ref mo)] := hl
  refine lv_aload_n hx hb dX11_see_0 rfl (lv_at hl 0 rfl) ?_
  refine lv_aload_n hx hb dX11_see_1 rfl (lv_at hl 0 rfl) ?_
  refine va_get (v := .int 0) (D := D) (ci := 11) (C := RX11) (T := TX11) (N := 19) hx hb hts in_X11 hown hK hP 0 rfl rfl 13 (by decide) (hts _ kl_RX11_78) (fun _ h9 => h9) rfl dX11_see_2 ?_
  refine cm_ki (wr := []) (va_runV (As := [.int 0]) (rest := []) ⟨hx, hb, hml, hown, hts⟩ (m_byteAt_0 l D ct mo mw ma mf m0 m1 mu mv u0 u1 iz mb 0 0 0 0 _) (cm_V 1 hts kc_X11_byteAt ki_RX11 kl_RX11_62 kv_X11_byteAt kx_X11_byteAt kd_X11_byteAt ⟨Nat.le_of_ble_eq_true rfl, Nat.le_of_ble_eq_true rfl⟩) (cm_preV hP hK hD hS hA hX [0] rfl rfl rfl (q0 := 0) (ci := 11) rfl rfl) rfl rfl hl.1 rfl (lv_room (Nat.le_of_ble_eq_true rfl)) dX11_see_5 ⟨Nat.le_of_ble_eq_true rfl, Nat.le_of_ble_eq_true rfl⟩) hP hD hS hA [0] [] rfl rfl rfl (by decide) (fun r_1 u H locs hw_2 hP hD hS => ?_)
  have hw_2 : r_1 = (-1) := hw_2
  obtain rfl := hw_2
  have hP : va_P D vwCl [(mo, .inr (11, [.ref mw, .ref ma, .ref mf, .ref m0, .ref m1, .ref mu, .ref mv, .ref u0, .ref u1, .ref iz, .int 0, .ref mb, .int 0, .int 0, .int 0, .int 0, .int 0, .int 0, .int 0]))] H := hP
  have hD : va_D A [(mo, .inr (11, [.ref mw, .ref ma, .ref mf, .ref m0, .ref m1, .ref mu, .ref mv, .ref u0, .ref u1, .ref iz, .int 0, .ref mb, .int 0, .int 0, .int 0, .int 0, .int 0, .int 0, .int 0]))] := hD
  refine lv_bipush (v := 32) hx hb dX11_see_8 (by decide) ?_
  refine lv_icmp_ne (tgt := 26) hx hb dX11_see_10 (by decide) (fun _ => ?_) (fun hc => absurd hc (by decide))
  refine lv_aload_n hx hb dX11_see_26 rfl (lv_at hl 0 rfl) ?_
  refine lv_aload_n hx hb dX11_see_27 rfl (lv_at hl 0 rfl) ?_
  refine va_get (v := .int 0) (D := D) (ci := 11) (C := RX11) (T := TX11) (N := 19) hx hb hts in_X11 hown hK hP 0 rfl rfl 13 (by decide) (hts _ kl_RX11_78) (fun _ h9 => h9) rfl dX11_see_28 ?_
  refine va_put (v := .int 0) (ty := .int) (D := D) (ci := 11) (C := RX11) (T := TX11) (N := 19) hx hb hts in_X11 tyX11 tyX11_ok nmX11 hown hK hP hD hS 0 rfl rfl 14 (by decide) (hts _ kl_RX11_81) (fun _ h9 => h9) rfl (by decide +kernel) rfl rfl (Nat.le_of_ble_eq_true rfl) dX11_see_31 (fun H locs hP hD hS => ?_)
  have hP : va_P D vwCl [(mo, .inr (11, [.ref mw, .ref ma, .ref mf, .ref m0, .ref m1, .ref mu, .ref mv, .ref u0, .ref u1, .ref iz, .int 0, .ref mb, .int 0, .int 0, .int 0, .int 0, .int 0, .int 0, .int 0]))] H := hP
  have hD : va_D A [(mo, .inr (11, [.ref mw, .ref ma, .ref mf, .ref m0, .ref m1, .ref mu, .ref mv, .ref u0, .ref u1, .ref iz, .int 0, .ref mb, .int 0, .int 0, .int 0, .int 0, .int 0, .int 0, .int 0]))] := hD
  refine lv_aload_n hx hb dX11_see_34 rfl (lv_at hl 0 rfl) ?_
  refine lv_aload_n hx hb dX11_see_35 rfl (lv_at hl 0 rfl) ?_
  refine va_get (v := .int 0) (D := D) (ci := 11) (C := RX11) (T := TX11) (N := 19) hx hb hts in_X11 hown hK hP 0 rfl rfl 13 (by decide) (hts _ kl_RX11_78) (fun _ h9 => h9) rfl dX11_see_36 ?_
  refine cm_ki (wr := []) (va_runV (As := [.int 0]) (rest := []) ⟨hx, hb, hml, hown, hts⟩ (m_byteAt_0 l D ct mo mw ma mf m0 m1 mu mv u0 u1 iz mb 0 0 0 0 _) (cm_V 1 hts kc_X11_byteAt ki_RX11 kl_RX11_62 kv_X11_byteAt kx_X11_byteAt kd_X11_byteAt ⟨Nat.le_of_ble_eq_true rfl, Nat.le_of_ble_eq_true rfl⟩) (cm_preV hP hK hD hS hA hX [0] rfl rfl rfl (q0 := 0) (ci := 11) rfl rfl) rfl rfl hl.1 rfl (lv_room (Nat.le_of_ble_eq_true rfl)) dX11_see_39 ⟨Nat.le_of_ble_eq_true rfl, Nat.le_of_ble_eq_true rfl⟩) hP hD hS hA [0] [] rfl rfl rfl (by decide) (fun r_3 u H locs hw_4 hP hD hS => ?_)
  have hw_4 : r_3 = (-1) := hw_4
  obtain rfl := hw_4
  have hP : va_P D vwCl [(mo, .inr (11, [.ref mw, .ref ma, .ref mf, .ref m0, .ref m1, .ref mu, .ref mv, .ref u0, .ref u1, .ref iz, .int 0, .ref mb, .int 0, .int 0, .int 0, .int 0, .int 0, .int 0, .int 0]))] H := hP
  have hD : va_D A [(mo, .inr (11, [.ref mw, .ref ma, .ref mf, .ref m0, .ref m1, .ref mu, .ref mv, .ref u0, .ref u1, .ref iz, .int 0, .ref mb, .int 0, .int 0, .int 0, .int 0, .int 0, .int 0, .int 0]))] := hD
  have hP9 := hP.sub (ws' := [(mo, .inr (11, [.ref mw, .ref ma, .ref mf, .ref m0, .ref m1, .ref mu, .ref mv, .ref u0, .ref u1, .ref iz, .int 0, .ref mb, .int 0, .int 0, .int 0, .int 0, .int 0, .int 0, .int 0]))]) [0] rfl
  have hD9 := hD.sub (ws' := [(mo, .inr (11, [.ref mw, .ref ma, .ref mf, .ref m0, .ref m1, .ref mu, .ref mv, .ref u0, .ref u1, .ref iz, .int 0, .ref mb, .int 0, .int 0, .int 0, .int 0, .int 0, .int 0, .int 0]))]) [0] (by decide) rfl
  exact W.iret (v := (-1)) hx hb hr (fun t ht hW => ⟨⟨(-1), (), rfl, rfl, by rw [ht]; exact hP9, by rw [hAe]; exact hD9⟩, hS.F ht⟩) hS.2.2 dX11_see_42
theorem dX11_wordEnd_0 : decode cX11_wordEnd 0 = .ok (.aload_n 0, 1) := by decide +kernel
theorem dX11_wordEnd_1 : decode cX11_wordEnd 1 = .ok (.getfield 81, 3) := by decide +kernel
theorem dX11_wordEnd_4 : decode cX11_wordEnd 4 = .ok (.istore_n 1, 1) := by decide +kernel
theorem dX11_wordEnd_5 : decode cX11_wordEnd 5 = .ok (.aload_n 0, 1) := by decide +kernel
theorem dX11_wordEnd_6 : decode cX11_wordEnd 6 = .ok (.iload_n 1, 1) := by decide +kernel
theorem dX11_wordEnd_7 : decode cX11_wordEnd 7 = .ok (.invokevirtual 90, 3) := by decide +kernel
theorem dX11_wordEnd_10 : decode cX11_wordEnd 10 = .ok (.ifCond .eq 9, 3) := by decide +kernel
theorem dX11_wordEnd_19 : decode cX11_wordEnd 19 = .ok (.iload_n 1, 1) := by decide +kernel
theorem dX11_wordEnd_20 : decode cX11_wordEnd 20 = .ok (.ireturn, 1) := by decide +kernel
set_option maxRecDepth 100000 in
set_option maxHeartbeats 4000000 in
theorem m_wordEnd_0 (l : Launch) (D : va_G) (ct : Nat → ClassId) (mo : Nat) (mw : Nat) (ma : Nat) (mf : Nat) (m0 : Nat) (m1 : Nat) (mu : Nat) (mv : Nat) (u0 : Nat) (u1 : Nat) (iz : Nat) (mb : Nat) (sz : Nat) : Met l yX11_wordEnd (ws_ yX11_wordEnd cX11_wordEnd 2 (some .int)) ({ frames := 2, cells := 0, slots := 0, locals := 46 } : Room) (va_Pc [.ref mo] (cmP D ct sz [(mo, .inr (11, [.ref mw, .ref ma, .ref mf, .ref m0, .ref m1, .ref mu, .ref mv, .ref u0, .ref u1, .ref iz, .int 0, .ref mb, .int 0, .int 0, .int 0, .int 0, .int 0, .int 0, .int 0]))])) (va_Qi (fun (r : Int32) (_ : Unit) => r = 0) (cmB D [(mo, .inr (11, [.ref mw, .ref ma, .ref mf, .ref m0, .ref m1, .ref mu, .ref mv, .ref u0, .ref u1, .ref iz, .int 0, .ref mb, .int 0, .int 0, .int 0, .int 0, .int 0, .int 0, .int 0]))] sz (fun _ : Unit => [(mo, .inr (11, [.ref mw, .ref ma, .ref mf, .ref m0, .ref m1, .ref mu, .ref mv, .ref u0, .ref u1, .ref iz, .int 0, .ref mb, .int 0, .int 0, .int 0, .int 0, .int 0, .int 0, .int 0]))])) (va_A [(mo, .inr (11, [.ref mw, .ref ma, .ref mf, .ref m0, .ref m1, .ref mu, .ref mv, .ref u0, .ref u1, .ref iz, .int 0, .ref mb, .int 0, .int 0, .int 0, .int 0, .int 0, .int 0, .int 0]))] sz)) 0 0 (va_A [(mo, .inr (11, [.ref mw, .ref ma, .ref mf, .ref m0, .ref m1, .ref mu, .ref mv, .ref u0, .ref u1, .ref iz, .int 0, .ref mb, .int 0, .int 0, .int 0, .int 0, .int 0, .int 0, .int 0]))] sz) := by
  refine Met.ofW (cc := cX11_wordEnd) (maxL := 2) (ret := (some .int)) (by decide) rfl ?_
  intro p e s m args below meth c s₁ B hml hv
  obtain ⟨rfl, hsz, hP, hK, hD0, hX⟩ := hv
  have hx := B.exec
  have hb := B.bytes
  have hr := B.returns
  have hts := ws_all (atoms_spec (ws := ws_ yX11_wordEnd cX11_wordEnd 2 (some .int)) B.pre)
  have hown : s.vm.findClass RX11 = some m.cls := findClass_of_methodNamed B.named
  have hlocks := B.notSynchronized
  subst hsz
  have hD := hD0.self (sz := s.heap.size)
  generalize hAe : va_A [(mo, .inr (11, [.ref mw, .ref ma, .ref mf, .ref m0, .ref m1, .ref mu, .ref mv, .ref u0, .ref u1, .ref iz, .int 0, .ref mb, .int 0, .int 0, .int 0, .int 0, .int 0, .int 0, .int 0]))] s.heap.size = A at hD hX ⊢
  have hA : ∀ q : Nat, s.heap.size ≤ q → A q := fun q h => by rw [← hAe]; exact Or.inr h
  have hS : va_S A s.heap s.heap [] := va_S.rf
  have hl := lv_entry ([.ref mo]) (n := 2) (Nat.le_of_ble_eq_true rfl)
  rw [lg_entry_eq]
  generalize (lg_sl ([.ref mo]) ++ List.replicate (2 - (lg_sl ([.ref mo])).length) Slot.unset).toArray = ls at hl ⊢
  have hl : lv_has ls 2 [(0, .ref mo)] := hl
  refine lv_aload_n hx hb dX11_wordEnd_0 rfl (lv_at hl 0 rfl) ?_
  refine va_get (v := .int 0) (D := D) (ci := 11) (C := RX11) (T := TX11) (N := 19) hx hb hts in_X11 hown hK hP 0 rfl rfl 14 (by decide) (hts _ kl_RX11_81) (fun _ h9 => h9) rfl dX11_wordEnd_1 ?_
  refine lv_istore_n (lv' := [(1, .int 0), (0, .ref mo)]) hx hb dX11_wordEnd_4 rfl hl (by decide) rfl (fun ls hl => ?_)
  refine lv_aload_n hx hb dX11_wordEnd_5 rfl (lv_at hl 1 rfl) ?_
  refine lv_iload_n hx hb dX11_wordEnd_6 rfl (lv_at hl 0 rfl) ?_
  refine cm_ki (wr := []) (va_runV (As := [.int 0]) (rest := []) ⟨hx, hb, hml, hown, hts⟩ (m_isLetter_0 l D ct mo mw ma mf m0 m1 mu mv u0 u1 iz mb _) (cm_V 1 hts kc_X11_isLetter ki_RX11 kl_RX11_90 kv_X11_isLetter kx_X11_isLetter kd_X11_isLetter ⟨Nat.le_of_ble_eq_true rfl, Nat.le_of_ble_eq_true rfl⟩) (cm_preV hP hK hD hS hA hX [0] rfl rfl rfl (q0 := 0) (ci := 11) rfl rfl) rfl rfl hl.1 rfl (lv_room (Nat.le_of_ble_eq_true rfl)) dX11_wordEnd_7 ⟨Nat.le_of_ble_eq_true rfl, Nat.le_of_ble_eq_true rfl⟩) hP hD hS hA [0] [] rfl rfl rfl (by decide) (fun r_1 u H locs hw_2 hP hD hS => ?_)
  have hw_2 : r_1 = 0 := hw_2
  obtain rfl := hw_2
  have hP : va_P D vwCl [(mo, .inr (11, [.ref mw, .ref ma, .ref mf, .ref m0, .ref m1, .ref mu, .ref mv, .ref u0, .ref u1, .ref iz, .int 0, .ref mb, .int 0, .int 0, .int 0, .int 0, .int 0, .int 0, .int 0]))] H := hP
  have hD : va_D A [(mo, .inr (11, [.ref mw, .ref ma, .ref mf, .ref m0, .ref m1, .ref mu, .ref mv, .ref u0, .ref u1, .ref iz, .int 0, .ref mb, .int 0, .int 0, .int 0, .int 0, .int 0, .int 0, .int 0]))] := hD
  refine lv_if_eq (tgt := 19) hx hb dX11_wordEnd_10 (by decide) (fun _ => ?_) (fun hc => absurd (by decide) hc)
  refine lv_iload_n hx hb dX11_wordEnd_19 rfl (lv_at hl 0 rfl) ?_
  have hP9 := hP.sub (ws' := [(mo, .inr (11, [.ref mw, .ref ma, .ref mf, .ref m0, .ref m1, .ref mu, .ref mv, .ref u0, .ref u1, .ref iz, .int 0, .ref mb, .int 0, .int 0, .int 0, .int 0, .int 0, .int 0, .int 0]))]) [0] rfl
  have hD9 := hD.sub (ws' := [(mo, .inr (11, [.ref mw, .ref ma, .ref mf, .ref m0, .ref m1, .ref mu, .ref mv, .ref u0, .ref u1, .ref iz, .int 0, .ref mb, .int 0, .int 0, .int 0, .int 0, .int 0, .int 0, .int 0]))]) [0] (by decide) rfl
  exact W.iret (v := 0) hx hb hr (fun t ht hW => ⟨⟨0, (), rfl, rfl, by rw [ht]; exact hP9, by rw [hAe]; exact hD9⟩, hS.F ht⟩) hS.2.2 dX11_wordEnd_20
theorem dX11_isWord_0 : decode cX11_isWord 0 = .ok (.aload_n 0, 1) := by decide +kernel
theorem dX11_isWord_1 : decode cX11_isWord 1 = .ok (.invokevirtual 94, 3) := by decide +kernel
theorem dX11_isWord_4 : decode cX11_isWord 4 = .ok (.istore_n 2, 1) := by decide +kernel
theorem dX11_isWord_5 : decode cX11_isWord 5 = .ok (.iload_n 2, 1) := by decide +kernel
theorem dX11_isWord_6 : decode cX11_isWord 6 = .ok (.aload_n 0, 1) := by decide +kernel
theorem dX11_isWord_7 : decode cX11_isWord 7 = .ok (.getfield 81, 3) := by decide +kernel
theorem dX11_isWord_10 : decode cX11_isWord 10 = .ok (.isub, 1) := by decide +kernel
theorem dX11_isWord_11 : decode cX11_isWord 11 = .ok (.aload_n 1, 1) := by decide +kernel
theorem dX11_isWord_12 : decode cX11_isWord 12 = .ok (.invokevirtual 98, 3) := by decide +kernel
theorem dX11_isWord_15 : decode cX11_isWord 15 = .ok (.if_icmp .ne 7, 3) := by decide +kernel
theorem dX11_isWord_22 : decode cX11_isWord 22 = .ok (.iconst 0, 1) := by decide +kernel
theorem dX11_isWord_23 : decode cX11_isWord 23 = .ok (.istore_n 3, 1) := by decide +kernel
theorem dX11_isWord_24 : decode cX11_isWord 24 = .ok (.iconst 0, 1) := by decide +kernel
theorem dX11_isWord_25 : decode cX11_isWord 25 = .ok (.istore 4, 2) := by decide +kernel
theorem dX11_isWord_27 : decode cX11_isWord 27 = .ok (.iload_n 3, 1) := by decide +kernel
theorem dX11_isWord_28 : decode cX11_isWord 28 = .ok (.ifCond .eq 46, 3) := by decide +kernel
theorem dX11_isWord_74 : decode cX11_isWord 74 = .ok (.iload_n 3, 1) := by decide +kernel
theorem dX11_isWord_75 : decode cX11_isWord 75 = .ok (.ireturn, 1) := by decide +kernel
set_option maxRecDepth 100000 in
set_option maxHeartbeats 4000000 in
theorem m_isWord_0 (l : Launch) (D : va_G) (ct : Nat → ClassId) (mo : Nat) (mw : Nat) (ma : Nat) (mf : Nat) (m0 : Nat) (m1 : Nat) (mu : Nat) (mv : Nat) (u0 : Nat) (u1 : Nat) (iz : Nat) (mb : Nat) (wd : Nat) (q9 : cm_sq) (sz : Nat) (hq9 : q9 ∈ cm_strs) (hne : ¬ (0 : Int32) = Int32.ofNat q9.2.2.2.length) : Met l yX11_isWord (ws_ yX11_isWord cX11_isWord 5 (some .boolean)) ({ frames := 3, cells := 0, slots := 0, locals := 67 } : Room) (va_Pc [.ref mo, .ref wd] (cmPs D ct sz [(mo, .inr (11, [.ref mw, .ref ma, .ref mf, .ref m0, .ref m1, .ref mu, .ref mv, .ref u0, .ref u1, .ref iz, .int 0, .ref mb, .int 0, .int 0, .int 0, .int 0, .int 0, .int 0, .int 0]))] q9 wd)) (va_Qi (fun (r : Int32) (_ : Unit) => r = 0) (cmB D [(mo, .inr (11, [.ref mw, .ref ma, .ref mf, .ref m0, .ref m1, .ref mu, .ref mv, .ref u0, .ref u1, .ref iz, .int 0, .ref mb, .int 0, .int 0, .int 0, .int 0, .int 0, .int 0, .int 0]))] sz (fun _ : Unit => [(mo, .inr (11, [.ref mw, .ref ma, .ref mf, .ref m0, .ref m1, .ref mu, .ref mv, .ref u0, .ref u1, .ref iz, .int 0, .ref mb, .int 0, .int 0, .int 0, .int 0, .int 0, .int 0, .int 0]))])) (va_A [(mo, .inr (11, [.ref mw, .ref ma, .ref mf, .ref m0, .ref m1, .ref mu, .ref mv, .ref u0, .ref u1, .ref iz, .int 0, .ref mb, .int 0, .int 0, .int 0, .int 0, .int 0, .int 0, .int 0]))] sz)) 0 0 (va_A [(mo, .inr (11, [.ref mw, .ref ma, .ref mf, .ref m0, .ref m1, .ref mu, .ref mv, .ref u0, .ref u1, .ref iz, .int 0, .ref mb, .int 0, .int 0, .int 0, .int 0, .int 0, .int 0, .int 0]))] sz) := by
  refine Met.ofW (cc := cX11_isWord) (maxL := 5) (ret := (some .boolean)) (by decide) rfl ?_
  intro p e s m args below meth c s₁ B hml hv
  obtain ⟨rfl, ⟨hsz, hP, hK, hD0, hX⟩, hR9⟩ := hv
  have hx := B.exec
  have hb := B.bytes
  have hr := B.returns
  have hts := ws_all (atoms_spec (ws := ws_ yX11_isWord cX11_isWord 5 (some .boolean)) B.pre)
  have hown : s.vm.findClass RX11 = some m.cls := findClass_of_methodNamed B.named
  have hlocks := B.notSynchronized
  subst hsz
  have hD := hD0.self (sz := s.heap.size)
  generalize hAe : va_A [(mo, .inr (11, [.ref mw, .ref ma, .ref mf, .ref m0, .ref m1, .ref mu, .ref mv, .ref u0, .ref u1, .ref iz, .int 0, .ref mb, .int 0, .int 0, .int 0, .int 0, .int 0, .int 0, .int 0]))] s.heap.size = A at hD hX ⊢
  have hA : ∀ q : Nat, s.heap.size ≤ q → A q := fun q h => by rw [← hAe]; exact Or.inr h
  have hS : va_S A s.heap s.heap [] := va_S.rf
  obtain ⟨a9, v9, hr9, hs9⟩ := hX.2.2.2 q9 hq9
  have e9 : a9 = wd := cm_sinj hr9 hR9
  rw [e9] at hs9
  have hl := lv_entry ([.ref mo, .ref wd]) (n := 5) (Nat.le_of_ble_eq_true rfl)
  rw [lg_entry_eq]
  generalize (lg_sl ([.ref mo, .ref wd]) ++ List.replicate (5 - (lg_sl ([.ref mo, .ref wd])).length) Slot.unset).toArray = ls at hl ⊢
  have hl : lv_has ls 5 [(0, .ref mo), (1, .ref wd)] := hl
  refine lv_aload_n hx hb dX11_isWord_0 rfl (lv_at hl 0 rfl) ?_
  refine cm_ki (wr := []) (va_runV (As := []) (rest := []) ⟨hx, hb, hml, hown, hts⟩ (m_wordEnd_0 l D ct mo mw ma mf m0 m1 mu mv u0 u1 iz mb _) (cm_V 0 hts kc_X11_wordEnd ki_RX11 kl_RX11_94 kv_X11_wordEnd kx_X11_wordEnd kd_X11_wordEnd ⟨Nat.le_of_ble_eq_true rfl, Nat.le_of_ble_eq_true rfl⟩) (cm_preV hP hK hD hS hA hX [0] rfl rfl rfl (q0 := 0) (ci := 11) rfl rfl) rfl rfl hl.1 rfl (lv_room (Nat.le_of_ble_eq_true rfl)) dX11_isWord_1 ⟨Nat.le_of_ble_eq_true rfl, Nat.le_of_ble_eq_true rfl⟩) hP hD hS hA [0] [] rfl rfl rfl (by decide) (fun r_1 u H locs hw_2 hP hD hS => ?_)
  have hw_2 : r_1 = 0 := hw_2
  obtain rfl := hw_2
  have hP : va_P D vwCl [(mo, .inr (11, [.ref mw, .ref ma, .ref mf, .ref m0, .ref m1, .ref mu, .ref mv, .ref u0, .ref u1, .ref iz, .int 0, .ref mb, .int 0, .int 0, .int 0, .int 0, .int 0, .int 0, .int 0]))] H := hP
  have hD : va_D A [(mo, .inr (11, [.ref mw, .ref ma, .ref mf, .ref m0, .ref m1, .ref mu, .ref mv, .ref u0, .ref u1, .ref iz, .int 0, .ref mb, .int 0, .int 0, .int 0, .int 0, .int 0, .int 0, .int 0]))] := hD
  refine lv_istore_n (lv' := [(2, .int 0), (0, .ref mo), (1, .ref wd)]) hx hb dX11_isWord_4 rfl hl (by decide) rfl (fun ls hl => ?_)
  refine lv_iload_n hx hb dX11_isWord_5 rfl (lv_at hl 0 rfl) ?_
  refine lv_aload_n hx hb dX11_isWord_6 rfl (lv_at hl 1 rfl) ?_
  refine va_get (v := .int 0) (D := D) (ci := 11) (C := RX11) (T := TX11) (N := 19) hx hb hts in_X11 hown hK hP 0 rfl rfl 14 (by decide) (hts _ kl_RX11_81) (fun _ h9 => h9) rfl dX11_isWord_7 ?_
  refine lv_isub hx hb dX11_isWord_10 ?_
  refine cm_cst (y := 0) (by decide) ?_
  refine lv_aload_n hx hb dX11_isWord_11 rfl (lv_at hl 2 rfl) ?_
  refine cm_ki (wr := [(mo, .inr (11, [.ref mw, .ref ma, .ref mf, .ref m0, .ref m1, .ref mu, .ref mv, .ref u0, .ref u1, .ref iz, .int 0, .ref mb, .int 0, .int 0, .int 0, .int 0, .int 0, .int 0, .int 0]))]) (va_runV (As := []) (rest := [.int 0]) ⟨hx, hb, hml, hown, hts⟩ (c_strlen l D ct wd q9 _ hq9) (cm_V 0 hts kc_J0_length_8abf5 ki_RJ0 kl_RX11_98 kv_J0_length_8abf5 kx_J0_length_8abf5 kd_J0_length_8abf5 ⟨Nat.le_of_ble_eq_true rfl, Nat.le_of_ble_eq_true rfl⟩) (cm_preVt (cm_preS (As := [.ref wd]) hP hK hD hS hA hX [] rfl rfl rfl) (vk_recv hs9 (Nat.zero_lt_one) hS) hR9) rfl rfl hl.1 rfl (lv_room (Nat.le_of_ble_eq_true rfl)) dX11_isWord_12 ⟨Nat.le_of_ble_eq_true rfl, Nat.le_of_ble_eq_true rfl⟩) hP hD hS hA [] [0] rfl rfl rfl (by decide) (fun r_3 u H locs hw_4 hP hD hS => ?_)
  have hw_4 : r_3 = (Int32.ofNat q9.2.2.2.length) := hw_4
  obtain rfl := hw_4
  have hP : va_P D vwCl [(mo, .inr (11, [.ref mw, .ref ma, .ref mf, .ref m0, .ref m1, .ref mu, .ref mv, .ref u0, .ref u1, .ref iz, .int 0, .ref mb, .int 0, .int 0, .int 0, .int 0, .int 0, .int 0, .int 0]))] H := hP
  have hD : va_D A [(mo, .inr (11, [.ref mw, .ref ma, .ref mf, .ref m0, .ref m1, .ref mu, .ref mv, .ref u0, .ref u1, .ref iz, .int 0, .ref mb, .int 0, .int 0, .int 0, .int 0, .int 0, .int 0, .int 0]))] := hD
  refine lv_icmp_ne (tgt := 22) hx hb dX11_isWord_15 (by decide) (fun _ => ?_) (fun hc => absurd hc hne)
  refine lv_iconst (v := 0) hx hb dX11_isWord_22 (by decide) ?_
  refine lv_istore_n (lv' := [(3, .int 0), (2, .int 0), (0, .ref mo), (1, .ref wd)]) hx hb dX11_isWord_23 rfl hl (by decide) rfl (fun ls hl => ?_)
  refine lv_iconst (v := 0) hx hb dX11_isWord_24 (by decide) ?_
  refine lv_istore (lv' := [(4, .int 0), (3, .int 0), (2, .int 0), (0, .ref mo), (1, .ref wd)]) hx hb dX11_isWord_25 hl (by decide) rfl (fun ls hl => ?_)
  refine lv_iload_n hx hb dX11_isWord_27 rfl (lv_at hl 1 rfl) ?_
  refine lv_if_eq (tgt := 74) hx hb dX11_isWord_28 (by decide) (fun _ => ?_) (fun hc => absurd (by decide) hc)
  refine lv_iload_n hx hb dX11_isWord_74 rfl (lv_at hl 1 rfl) ?_
  have hP9 := hP.sub (ws' := [(mo, .inr (11, [.ref mw, .ref ma, .ref mf, .ref m0, .ref m1, .ref mu, .ref mv, .ref u0, .ref u1, .ref iz, .int 0, .ref mb, .int 0, .int 0, .int 0, .int 0, .int 0, .int 0, .int 0]))]) [0] rfl
  have hD9 := hD.sub (ws' := [(mo, .inr (11, [.ref mw, .ref ma, .ref mf, .ref m0, .ref m1, .ref mu, .ref mv, .ref u0, .ref u1, .ref iz, .int 0, .ref mb, .int 0, .int 0, .int 0, .int 0, .int 0, .int 0, .int 0]))]) [0] (by decide) rfl
  exact W.zret (v := 0) hx hb hr (by decide) (fun t ht hW => ⟨⟨0, (), rfl, rfl, by rw [ht]; exact hP9, by rw [hAe]; exact hD9⟩, hS.F ht⟩) hS.2.2 dX11_isWord_75
theorem dX11_fails_0 : decode cX11_fails 0 = .ok (.aload_n 0, 1) := by decide +kernel
theorem dX11_fails_1 : decode cX11_fails 1 = .ok (.getfield 84, 3) := by decide +kernel
theorem dX11_fails_4 : decode cX11_fails 4 = .ok (.ifCond .ne 16, 3) := by decide +kernel
theorem dX11_fails_7 : decode cX11_fails 7 = .ok (.aload_n 0, 1) := by decide +kernel
theorem dX11_fails_8 : decode cX11_fails 8 = .ok (.iload_n 1, 1) := by decide +kernel
theorem dX11_fails_9 : decode cX11_fails 9 = .ok (.putfield 84, 3) := by decide +kernel
theorem dX11_fails_12 : decode cX11_fails 12 = .ok (.aload_n 0, 1) := by decide +kernel
theorem dX11_fails_13 : decode cX11_fails 13 = .ok (.aload_n 0, 1) := by decide +kernel
theorem dX11_fails_14 : decode cX11_fails 14 = .ok (.getfield 81, 3) := by decide +kernel
theorem dX11_fails_17 : decode cX11_fails 17 = .ok (.putfield 87, 3) := by decide +kernel
theorem dX11_fails_20 : decode cX11_fails 20 = .ok (.iconst 0, 1) := by decide +kernel
theorem dX11_fails_21 : decode cX11_fails 21 = .ok (.ireturn, 1) := by decide +kernel
set_option maxRecDepth 100000 in
set_option maxHeartbeats 4000000 in
theorem m_fails_0 (l : Launch) (D : va_G) (ct : Nat → ClassId) (mo : Nat) (mw : Nat) (ma : Nat) (mf : Nat) (m0 : Nat) (m1 : Nat) (mu : Nat) (mv : Nat) (u0 : Nat) (u1 : Nat) (iz : Nat) (mb : Nat) (sz : Nat) : Met l yX11_fails (ws_ yX11_fails cX11_fails 2 (some .boolean)) ({ frames := 0, cells := 0, slots := 0, locals := 0 } : Room) (va_Pc [.ref mo, .int 1] (cmP D ct sz [(mo, .inr (11, [.ref mw, .ref ma, .ref mf, .ref m0, .ref m1, .ref mu, .ref mv, .ref u0, .ref u1, .ref iz, .int 0, .ref mb, .int 0, .int 0, .int 0, .int 0, .int 0, .int 0, .int 0]))])) (va_Qi (fun (r : Int32) (_ : Unit) => r = 0) (cmB D [(mo, .inr (11, [.ref mw, .ref ma, .ref mf, .ref m0, .ref m1, .ref mu, .ref mv, .ref u0, .ref u1, .ref iz, .int 0, .ref mb, .int 0, .int 0, .int 0, .int 0, .int 0, .int 0, .int 0]))] sz (fun _ : Unit => [(mo, .inr (11, [.ref mw, .ref ma, .ref mf, .ref m0, .ref m1, .ref mu, .ref mv, .ref u0, .ref u1, .ref iz, .int 0, .ref mb, .int 0, .int 0, .int 0, .int 0, .int 1, .int 0, .int 0]))])) (va_A [(mo, .inr (11, [.ref mw, .ref ma, .ref mf, .ref m0, .ref m1, .ref mu, .ref mv, .ref u0, .ref u1, .ref iz, .int 0, .ref mb, .int 0, .int 0, .int 0, .int 0, .int 0, .int 0, .int 0]))] sz)) 0 0 (va_A [(mo, .inr (11, [.ref mw, .ref ma, .ref mf, .ref m0, .ref m1, .ref mu, .ref mv, .ref u0, .ref u1, .ref iz, .int 0, .ref mb, .int 0, .int 0, .int 0, .int 0, .int 0, .int 0, .int 0]))] sz) := by
  refine Met.ofW (cc := cX11_fails) (maxL := 2) (ret := (some .boolean)) (by decide) rfl ?_
  intro p e s m args below meth c s₁ B hml hv
  obtain ⟨rfl, hsz, hP, hK, hD0, hX⟩ := hv
  have hx := B.exec
  have hb := B.bytes
  have hr := B.returns
  have hts := ws_all (atoms_spec (ws := ws_ yX11_fails cX11_fails 2 (some .boolean)) B.pre)
  have hown : s.vm.findClass RX11 = some m.cls := findClass_of_methodNamed B.named
  have hlocks := B.notSynchronized
  subst hsz
  have hD := hD0.self (sz := s.heap.size)
  generalize hAe : va_A [(mo, .inr (11, [.ref mw, .ref ma, .ref mf, .ref m0, .ref m1, .ref mu, .ref mv, .ref u0, .ref u1, .ref iz, .int 0, .ref mb, .int 0, .int 0, .int 0, .int 0, .int 0, .int 0, .int 0]))] s.heap.size = A at hD hX ⊢
  have hA : ∀ q : Nat, s.heap.size ≤ q → A q := fun q h => by rw [← hAe]; exact Or.inr h
  have hS : va_S A s.heap s.heap [] := va_S.rf
  have hl := lv_entry ([.ref mo, .int 1]) (n := 2) (Nat.le_of_ble_eq_true rfl)
  rw [lg_entry_eq]
  generalize (lg_sl ([.ref mo, .int 1]) ++ List.replicate (2 - (lg_sl ([.ref mo, .int 1])).length) Slot.unset).toArray = ls at hl ⊢
  have hl : lv_has ls 2 [(0, .ref mo), (1, .int 1)] := hl
  refine lv_aload_n hx hb dX11_fails_0 rfl (lv_at hl 0 rfl) ?_
  refine va_get (v := .int 0) (D := D) (ci := 11) (C := RX11) (T := TX11) (N := 19) hx hb hts in_X11 hown hK hP 0 rfl rfl 16 (by decide) (hts _ kl_RX11_84) (fun _ h9 => h9) rfl dX11_fails_1 ?_
  refine lv_if_ne (tgt := 20) hx hb dX11_fails_4 (by decide) (fun hc => absurd (by decide) hc) (fun _ => ?_)
  refine lv_aload_n hx hb dX11_fails_7 rfl (lv_at hl 0 rfl) ?_
  refine lv_iload_n hx hb dX11_fails_8 rfl (lv_at hl 1 rfl) ?_
  refine va_put (v := .int 1) (ty := .int) (D := D) (ci := 11) (C := RX11) (T := TX11) (N := 19) hx hb hts in_X11 tyX11 tyX11_ok nmX11 hown hK hP hD hS 0 rfl rfl 16 (by decide) (hts _ kl_RX11_84) (fun _ h9 => h9) rfl (by decide +kernel) rfl rfl (Nat.le_of_ble_eq_true rfl) dX11_fails_9 (fun H locs hP hD hS => ?_)
  have hP : va_P D vwCl [(mo, .inr (11, [.ref mw, .ref ma, .ref mf, .ref m0, .ref m1, .ref mu, .ref mv, .ref u0, .ref u1, .ref iz, .int 0, .ref mb, .int 0, .int 0, .int 0, .int 0, .int 1, .int 0, .int 0]))] H := hP
  have hD : va_D A [(mo, .inr (11, [.ref mw, .ref ma, .ref mf, .ref m0, .ref m1, .ref mu, .ref mv, .ref u0, .ref u1, .ref iz, .int 0, .ref mb, .int 0, .int 0, .int 0, .int 0, .int 1, .int 0, .int 0]))] := hD
  refine lv_aload_n hx hb dX11_fails_12 rfl (lv_at hl 0 rfl) ?_
  refine lv_aload_n hx hb dX11_fails_13 rfl (lv_at hl 0 rfl) ?_
  refine va_get (v := .int 0) (D := D) (ci := 11) (C := RX11) (T := TX11) (N := 19) hx hb hts in_X11 hown hK hP 0 rfl rfl 14 (by decide) (hts _ kl_RX11_81) (fun _ h9 => h9) rfl dX11_fails_14 ?_
  refine va_put (v := .int 0) (ty := .int) (D := D) (ci := 11) (C := RX11) (T := TX11) (N := 19) hx hb hts in_X11 tyX11 tyX11_ok nmX11 hown hK hP hD hS 0 rfl rfl 15 (by decide) (hts _ kl_RX11_87) (fun _ h9 => h9) rfl (by decide +kernel) rfl rfl (Nat.le_of_ble_eq_true rfl) dX11_fails_17 (fun H locs hP hD hS => ?_)
  have hP : va_P D vwCl [(mo, .inr (11, [.ref mw, .ref ma, .ref mf, .ref m0, .ref m1, .ref mu, .ref mv, .ref u0, .ref u1, .ref iz, .int 0, .ref mb, .int 0, .int 0, .int 0, .int 0, .int 1, .int 0, .int 0]))] H := hP
  have hD : va_D A [(mo, .inr (11, [.ref mw, .ref ma, .ref mf, .ref m0, .ref m1, .ref mu, .ref mv, .ref u0, .ref u1, .ref iz, .int 0, .ref mb, .int 0, .int 0, .int 0, .int 0, .int 1, .int 0, .int 0]))] := hD
  refine lv_iconst (v := 0) hx hb dX11_fails_20 (by decide) ?_
  have hP9 := hP.sub (ws' := [(mo, .inr (11, [.ref mw, .ref ma, .ref mf, .ref m0, .ref m1, .ref mu, .ref mv, .ref u0, .ref u1, .ref iz, .int 0, .ref mb, .int 0, .int 0, .int 0, .int 0, .int 1, .int 0, .int 0]))]) [0] rfl
  have hD9 := hD.sub (ws' := [(mo, .inr (11, [.ref mw, .ref ma, .ref mf, .ref m0, .ref m1, .ref mu, .ref mv, .ref u0, .ref u1, .ref iz, .int 0, .ref mb, .int 0, .int 0, .int 0, .int 0, .int 1, .int 0, .int 0]))]) [0] (by decide) rfl
  exact W.zret (v := 0) hx hb hr (by decide) (fun t ht hW => ⟨⟨0, (), rfl, rfl, by rw [ht]; exact hP9, by rw [hAe]; exact hD9⟩, hS.F ht⟩) hS.2.2 dX11_fails_21
theorem dX11_readStatement_0 : decode cX11_readStatement 0 = .ok (.aload_n 0, 1) := by decide +kernel
theorem dX11_readStatement_1 : decode cX11_readStatement 1 = .ok (.invokevirtual 106, 3) := by decide +kernel
theorem dX11_readStatement_4 : decode cX11_readStatement 4 = .ok (.pop, 1) := by decide +kernel
theorem dX11_readStatement_5 : decode cX11_readStatement 5 = .ok (.aload_n 0, 1) := by decide +kernel
theorem dX11_readStatement_6 : decode cX11_readStatement 6 = .ok (.ldc 162, 2) := by decide +kernel
theorem dX11_readStatement_8 : decode cX11_readStatement 8 = .ok (.invokevirtual 146, 3) := by decide +kernel
theorem dX11_readStatement_11 : decode cX11_readStatement 11 = .ok (.ifCond .eq 8, 3) := by decide +kernel
theorem dX11_readStatement_19 : decode cX11_readStatement 19 = .ok (.aload_n 0, 1) := by decide +kernel
theorem dX11_readStatement_20 : decode cX11_readStatement 20 = .ok (.ldc 167, 2) := by decide +kernel
theorem dX11_readStatement_22 : decode cX11_readStatement 22 = .ok (.invokevirtual 146, 3) := by decide +kernel
theorem dX11_readStatement_25 : decode cX11_readStatement 25 = .ok (.ifCond .eq 8, 3) := by decide +kernel
theorem dX11_readStatement_33 : decode cX11_readStatement 33 = .ok (.aload_n 0, 1) := by decide +kernel
theorem dX11_readStatement_34 : decode cX11_readStatement 34 = .ok (.ldc 172, 2) := by decide +kernel
theorem dX11_readStatement_36 : decode cX11_readStatement 36 = .ok (.invokevirtual 146, 3) := by decide +kernel
theorem dX11_readStatement_39 : decode cX11_readStatement 39 = .ok (.ifCond .eq 8, 3) := by decide +kernel
theorem dX11_readStatement_47 : decode cX11_readStatement 47 = .ok (.aload_n 0, 1) := by decide +kernel
theorem dX11_readStatement_48 : decode cX11_readStatement 48 = .ok (.ldc 177, 2) := by decide +kernel
theorem dX11_readStatement_50 : decode cX11_readStatement 50 = .ok (.invokevirtual 146, 3) := by decide +kernel
theorem dX11_readStatement_53 : decode cX11_readStatement 53 = .ok (.ifCond .eq 30, 3) := by decide +kernel
theorem dX11_readStatement_83 : decode cX11_readStatement 83 = .ok (.aload_n 0, 1) := by decide +kernel
theorem dX11_readStatement_84 : decode cX11_readStatement 84 = .ok (.ldc 179, 2) := by decide +kernel
theorem dX11_readStatement_86 : decode cX11_readStatement 86 = .ok (.invokevirtual 146, 3) := by decide +kernel
theorem dX11_readStatement_89 : decode cX11_readStatement 89 = .ok (.ifCond .eq 28, 3) := by decide +kernel
theorem dX11_readStatement_117 : decode cX11_readStatement 117 = .ok (.aload_n 0, 1) := by decide +kernel
theorem dX11_readStatement_118 : decode cX11_readStatement 118 = .ok (.ldc 182, 2) := by decide +kernel
theorem dX11_readStatement_120 : decode cX11_readStatement 120 = .ok (.invokevirtual 146, 3) := by decide +kernel
theorem dX11_readStatement_123 : decode cX11_readStatement 123 = .ok (.ifCond .eq 48, 3) := by decide +kernel
theorem dX11_readStatement_171 : decode cX11_readStatement 171 = .ok (.aload_n 0, 1) := by decide +kernel
theorem dX11_readStatement_172 : decode cX11_readStatement 172 = .ok (.ldc 187, 2) := by decide +kernel
theorem dX11_readStatement_174 : decode cX11_readStatement 174 = .ok (.invokevirtual 146, 3) := by decide +kernel
theorem dX11_readStatement_177 : decode cX11_readStatement 177 = .ok (.ifCond .eq 60, 3) := by decide +kernel
theorem dX11_readStatement_237 : decode cX11_readStatement 237 = .ok (.aload_n 0, 1) := by decide +kernel
theorem dX11_readStatement_238 : decode cX11_readStatement 238 = .ok (.ldc 189, 2) := by decide +kernel
theorem dX11_readStatement_240 : decode cX11_readStatement 240 = .ok (.invokevirtual 146, 3) := by decide +kernel
theorem dX11_readStatement_243 : decode cX11_readStatement 243 = .ok (.ifCond .eq 61, 3) := by decide +kernel
theorem dX11_readStatement_304 : decode cX11_readStatement 304 = .ok (.aload_n 0, 1) := by decide +kernel
theorem dX11_readStatement_305 : decode cX11_readStatement 305 = .ok (.ldc 191, 2) := by decide +kernel
theorem dX11_readStatement_307 : decode cX11_readStatement 307 = .ok (.invokevirtual 146, 3) := by decide +kernel
theorem dX11_readStatement_310 : decode cX11_readStatement 310 = .ok (.ifCond .eq 29, 3) := by decide +kernel
theorem dX11_readStatement_339 : decode cX11_readStatement 339 = .ok (.aload_n 0, 1) := by decide +kernel
theorem dX11_readStatement_340 : decode cX11_readStatement 340 = .ok (.ldc 193, 2) := by decide +kernel
theorem dX11_readStatement_342 : decode cX11_readStatement 342 = .ok (.invokevirtual 146, 3) := by decide +kernel
theorem dX11_readStatement_345 : decode cX11_readStatement 345 = .ok (.ifCond .eq 31, 3) := by decide +kernel
theorem dX11_readStatement_376 : decode cX11_readStatement 376 = .ok (.aload_n 0, 1) := by decide +kernel
theorem dX11_readStatement_377 : decode cX11_readStatement 377 = .ok (.iconst 1, 1) := by decide +kernel
theorem dX11_readStatement_378 : decode cX11_readStatement 378 = .ok (.invokevirtual 112, 3) := by decide +kernel
theorem dX11_readStatement_381 : decode cX11_readStatement 381 = .ok (.ireturn, 1) := by decide +kernel
set_option maxRecDepth 100000 in
set_option maxHeartbeats 4000000 in
theorem m_readStatement_0 (l : Launch) (D : va_G) (ct : Nat → ClassId) (mo : Nat) (mw : Nat) (ma : Nat) (mf : Nat) (m0 : Nat) (m1 : Nat) (mu : Nat) (mv : Nat) (u0 : Nat) (u1 : Nat) (iz : Nat) (mb : Nat) (sz : Nat) : Met l yX11_readStatement (ws_ yX11_readStatement cX11_readStatement 1 (some .boolean)) ({ frames := 4, cells := 0, slots := 0, locals := 91 } : Room) (va_Pc [.ref mo] (cmP D ct sz [(mo, .inr (11, [.ref mw, .ref ma, .ref mf, .ref m0, .ref m1, .ref mu, .ref mv, .ref u0, .ref u1, .ref iz, .int 0, .ref mb, .int 0, .int 0, .int 0, .int 0, .int 0, .int 0, .int 0]))])) (va_Qi (fun (r : Int32) (_ : Unit) => r = 0) (cmB D [(mo, .inr (11, [.ref mw, .ref ma, .ref mf, .ref m0, .ref m1, .ref mu, .ref mv, .ref u0, .ref u1, .ref iz, .int 0, .ref mb, .int 0, .int 0, .int 0, .int 0, .int 0, .int 0, .int 0]))] sz (fun _ : Unit => [(mo, .inr (11, [.ref mw, .ref ma, .ref mf, .ref m0, .ref m1, .ref mu, .ref mv, .ref u0, .ref u1, .ref iz, .int 0, .ref mb, .int 0, .int 0, .int 0, .int 0, .int 1, .int 0, .int 0]))])) (va_A [(mo, .inr (11, [.ref mw, .ref ma, .ref mf, .ref m0, .ref m1, .ref mu, .ref mv, .ref u0, .ref u1, .ref iz, .int 0, .ref mb, .int 0, .int 0, .int 0, .int 0, .int 0, .int 0, .int 0]))] sz)) 0 0 (va_A [(mo, .inr (11, [.ref mw, .ref ma, .ref mf, .ref m0, .ref m1, .ref mu, .ref mv, .ref u0, .ref u1, .ref iz, .int 0, .ref mb, .int 0, .int 0, .int 0, .int 0, .int 0, .int 0, .int 0]))] sz) := by
  refine Met.ofW (cc := cX11_readStatement) (maxL := 1) (ret := (some .boolean)) (by decide) rfl ?_
  intro p e s m args below meth c s₁ B hml hv
  obtain ⟨rfl, hsz, hP, hK, hD0, hX⟩ := hv
  have hx := B.exec
  have hb := B.bytes
  have hr := B.returns
  have hts := ws_all (atoms_spec (ws := ws_ yX11_readStatement cX11_readStatement 1 (some .boolean)) B.pre)
  have hown : s.vm.findClass RX11 = some m.cls := findClass_of_methodNamed B.named
  have hlocks := B.notSynchronized
  subst hsz
  have hD := hD0.self (sz := s.heap.size)
  generalize hAe : va_A [(mo, .inr (11, [.ref mw, .ref ma, .ref mf, .ref m0, .ref m1, .ref mu, .ref mv, .ref u0, .ref u1, .ref iz, .int 0, .ref mb, .int 0, .int 0, .int 0, .int 0, .int 0, .int 0, .int 0]))] s.heap.size = A at hD hX ⊢
  have hA : ∀ q : Nat, s.heap.size ≤ q → A q := fun q h => by rw [← hAe]; exact Or.inr h
  have hS : va_S A s.heap s.heap [] := va_S.rf
  have hl := lv_entry ([.ref mo]) (n := 1) (Nat.le_of_ble_eq_true rfl)
  rw [lg_entry_eq]
  generalize (lg_sl ([.ref mo]) ++ List.replicate (1 - (lg_sl ([.ref mo])).length) Slot.unset).toArray = ls at hl ⊢
  have hl : lv_has ls 1 [(0, .ref mo)] := hl
  refine lv_aload_n hx hb dX11_readStatement_0 rfl (lv_at hl 0 rfl) ?_
  refine cm_ki (wr := []) (va_runV (As := []) (rest := []) ⟨hx, hb, hml, hown, hts⟩ (m_see_0 l D ct mo mw ma mf m0 m1 mu mv u0 u1 iz mb _) (cm_V 0 hts kc_X11_see ki_RX11 kl_RX11_106 kv_X11_see kx_X11_see kd_X11_see ⟨Nat.le_of_ble_eq_true rfl, Nat.le_of_ble_eq_true rfl⟩) (cm_preV hP hK hD hS hA hX [0] rfl rfl rfl (q0 := 0) (ci := 11) rfl rfl) rfl rfl hl.1 rfl (lv_room (Nat.le_of_ble_eq_true rfl)) dX11_readStatement_1 ⟨Nat.le_of_ble_eq_true rfl, Nat.le_of_ble_eq_true rfl⟩) hP hD hS hA [0] [] rfl rfl rfl (by decide) (fun r_1 u H locs hw_2 hP hD hS => ?_)
  have hw_2 : r_1 = (-1) := hw_2
  obtain rfl := hw_2
  have hP : va_P D vwCl [(mo, .inr (11, [.ref mw, .ref ma, .ref mf, .ref m0, .ref m1, .ref mu, .ref mv, .ref u0, .ref u1, .ref iz, .int 0, .ref mb, .int 0, .int 0, .int 0, .int 0, .int 0, .int 0, .int 0]))] H := hP
  have hD : va_D A [(mo, .inr (11, [.ref mw, .ref ma, .ref mf, .ref m0, .ref m1, .ref mu, .ref mv, .ref u0, .ref u1, .ref iz, .int 0, .ref mb, .int 0, .int 0, .int 0, .int 0, .int 0, .int 0, .int 0]))] := hD
  refine lv_pop hx hb dX11_readStatement_4 rfl ?_
  refine lv_aload_n hx hb dX11_readStatement_5 rfl (lv_at hl 0 rfl) ?_
  obtain ⟨sa_3, sv_4, hsr_5, hss_6⟩ := hX.2.2.2 ("CellCyclerModel", 162, "curve", [99, 117, 114, 118, 101]) (by decide +kernel)
  refine va_ldcS hx hb hown hsr_5 dX11_readStatement_6 ?_
  refine cm_ki (wr := []) (va_runV (As := [.ref sa_3]) (rest := []) ⟨hx, hb, hml, hown, hts⟩ (m_isWord_0 l D ct mo mw ma mf m0 m1 mu mv u0 u1 iz mb sa_3 ("CellCyclerModel", 162, "curve", [99, 117, 114, 118, 101]) _ (by decide +kernel) (by decide)) (cm_V 1 hts kc_X11_isWord ki_RX11 kl_RX11_146 kv_X11_isWord kx_X11_isWord kd_X11_isWord ⟨Nat.le_of_ble_eq_true rfl, Nat.le_of_ble_eq_true rfl⟩) (cm_preVs (cm_preV hP hK hD hS hA hX [0] rfl rfl rfl (q0 := 0) (ci := 11) rfl rfl) hsr_5) rfl rfl hl.1 rfl (lv_room (Nat.le_of_ble_eq_true rfl)) dX11_readStatement_8 ⟨Nat.le_of_ble_eq_true rfl, Nat.le_of_ble_eq_true rfl⟩) hP hD hS hA [0] [] rfl rfl rfl (by decide) (fun r_7 u H locs hw_8 hP hD hS => ?_)
  have hw_8 : r_7 = 0 := hw_8
  obtain rfl := hw_8
  have hP : va_P D vwCl [(mo, .inr (11, [.ref mw, .ref ma, .ref mf, .ref m0, .ref m1, .ref mu, .ref mv, .ref u0, .ref u1, .ref iz, .int 0, .ref mb, .int 0, .int 0, .int 0, .int 0, .int 0, .int 0, .int 0]))] H := hP
  have hD : va_D A [(mo, .inr (11, [.ref mw, .ref ma, .ref mf, .ref m0, .ref m1, .ref mu, .ref mv, .ref u0, .ref u1, .ref iz, .int 0, .ref mb, .int 0, .int 0, .int 0, .int 0, .int 0, .int 0, .int 0]))] := hD
  refine lv_if_eq (tgt := 19) hx hb dX11_readStatement_11 (by decide) (fun _ => ?_) (fun hc => absurd (by decide) hc)
  refine lv_aload_n hx hb dX11_readStatement_19 rfl (lv_at hl 0 rfl) ?_
  obtain ⟨sa_9, sv_10, hsr_11, hss_12⟩ := hX.2.2.2 ("CellCyclerModel", 167, "cell", [99, 101, 108, 108]) (by decide +kernel)
  refine va_ldcS hx hb hown hsr_11 dX11_readStatement_20 ?_
  refine cm_ki (wr := []) (va_runV (As := [.ref sa_9]) (rest := []) ⟨hx, hb, hml, hown, hts⟩ (m_isWord_0 l D ct mo mw ma mf m0 m1 mu mv u0 u1 iz mb sa_9 ("CellCyclerModel", 167, "cell", [99, 101, 108, 108]) _ (by decide +kernel) (by decide)) (cm_V 1 hts kc_X11_isWord ki_RX11 kl_RX11_146 kv_X11_isWord kx_X11_isWord kd_X11_isWord ⟨Nat.le_of_ble_eq_true rfl, Nat.le_of_ble_eq_true rfl⟩) (cm_preVs (cm_preV hP hK hD hS hA hX [0] rfl rfl rfl (q0 := 0) (ci := 11) rfl rfl) hsr_11) rfl rfl hl.1 rfl (lv_room (Nat.le_of_ble_eq_true rfl)) dX11_readStatement_22 ⟨Nat.le_of_ble_eq_true rfl, Nat.le_of_ble_eq_true rfl⟩) hP hD hS hA [0] [] rfl rfl rfl (by decide) (fun r_13 u H locs hw_14 hP hD hS => ?_)
  have hw_14 : r_13 = 0 := hw_14
  obtain rfl := hw_14
  have hP : va_P D vwCl [(mo, .inr (11, [.ref mw, .ref ma, .ref mf, .ref m0, .ref m1, .ref mu, .ref mv, .ref u0, .ref u1, .ref iz, .int 0, .ref mb, .int 0, .int 0, .int 0, .int 0, .int 0, .int 0, .int 0]))] H := hP
  have hD : va_D A [(mo, .inr (11, [.ref mw, .ref ma, .ref mf, .ref m0, .ref m1, .ref mu, .ref mv, .ref u0, .ref u1, .ref iz, .int 0, .ref mb, .int 0, .int 0, .int 0, .int 0, .int 0, .int 0, .int 0]))] := hD
  refine lv_if_eq (tgt := 33) hx hb dX11_readStatement_25 (by decide) (fun _ => ?_) (fun hc => absurd (by decide) hc)
  refine lv_aload_n hx hb dX11_readStatement_33 rfl (lv_at hl 0 rfl) ?_
  obtain ⟨sa_15, sv_16, hsr_17, hss_18⟩ := hX.2.2.2 ("CellCyclerModel", 172, "program", [112, 114, 111, 103, 114, 97, 109]) (by decide +kernel)
  refine va_ldcS hx hb hown hsr_17 dX11_readStatement_34 ?_
  refine cm_ki (wr := []) (va_runV (As := [.ref sa_15]) (rest := []) ⟨hx, hb, hml, hown, hts⟩ (m_isWord_0 l D ct mo mw ma mf m0 m1 mu mv u0 u1 iz mb sa_15 ("CellCyclerModel", 172, "program", [112, 114, 111, 103, 114, 97, 109]) _ (by decide +kernel) (by decide)) (cm_V 1 hts kc_X11_isWord ki_RX11 kl_RX11_146 kv_X11_isWord kx_X11_isWord kd_X11_isWord ⟨Nat.le_of_ble_eq_true rfl, Nat.le_of_ble_eq_true rfl⟩) (cm_preVs (cm_preV hP hK hD hS hA hX [0] rfl rfl rfl (q0 := 0) (ci := 11) rfl rfl) hsr_17) rfl rfl hl.1 rfl (lv_room (Nat.le_of_ble_eq_true rfl)) dX11_readStatement_36 ⟨Nat.le_of_ble_eq_true rfl, Nat.le_of_ble_eq_true rfl⟩) hP hD hS hA [0] [] rfl rfl rfl (by decide) (fun r_19 u H locs hw_20 hP hD hS => ?_)
  have hw_20 : r_19 = 0 := hw_20
  obtain rfl := hw_20
  have hP : va_P D vwCl [(mo, .inr (11, [.ref mw, .ref ma, .ref mf, .ref m0, .ref m1, .ref mu, .ref mv, .ref u0, .ref u1, .ref iz, .int 0, .ref mb, .int 0, .int 0, .int 0, .int 0, .int 0, .int 0, .int 0]))] H := hP
  have hD : va_D A [(mo, .inr (11, [.ref mw, .ref ma, .ref mf, .ref m0, .ref m1, .ref mu, .ref mv, .ref u0, .ref u1, .ref iz, .int 0, .ref mb, .int 0, .int 0, .int 0, .int 0, .int 0, .int 0, .int 0]))] := hD
  refine lv_if_eq (tgt := 47) hx hb dX11_readStatement_39 (by decide) (fun _ => ?_) (fun hc => absurd (by decide) hc)
  refine lv_aload_n hx hb dX11_readStatement_47 rfl (lv_at hl 0 rfl) ?_
  obtain ⟨sa_21, sv_22, hsr_23, hss_24⟩ := hX.2.2.2 ("CellCyclerModel", 177, "efficiency", [101, 102, 102, 105, 99, 105, 101, 110, 99, 121]) (by decide +kernel)
  refine va_ldcS hx hb hown hsr_23 dX11_readStatement_48 ?_
  refine cm_ki (wr := []) (va_runV (As := [.ref sa_21]) (rest := []) ⟨hx, hb, hml, hown, hts⟩ (m_isWord_0 l D ct mo mw ma mf m0 m1 mu mv u0 u1 iz mb sa_21 ("CellCyclerModel", 177, "efficiency", [101, 102, 102, 105, 99, 105, 101, 110, 99, 121]) _ (by decide +kernel) (by decide)) (cm_V 1 hts kc_X11_isWord ki_RX11 kl_RX11_146 kv_X11_isWord kx_X11_isWord kd_X11_isWord ⟨Nat.le_of_ble_eq_true rfl, Nat.le_of_ble_eq_true rfl⟩) (cm_preVs (cm_preV hP hK hD hS hA hX [0] rfl rfl rfl (q0 := 0) (ci := 11) rfl rfl) hsr_23) rfl rfl hl.1 rfl (lv_room (Nat.le_of_ble_eq_true rfl)) dX11_readStatement_50 ⟨Nat.le_of_ble_eq_true rfl, Nat.le_of_ble_eq_true rfl⟩) hP hD hS hA [0] [] rfl rfl rfl (by decide) (fun r_25 u H locs hw_26 hP hD hS => ?_)
  have hw_26 : r_25 = 0 := hw_26
  obtain rfl := hw_26
  have hP : va_P D vwCl [(mo, .inr (11, [.ref mw, .ref ma, .ref mf, .ref m0, .ref m1, .ref mu, .ref mv, .ref u0, .ref u1, .ref iz, .int 0, .ref mb, .int 0, .int 0, .int 0, .int 0, .int 0, .int 0, .int 0]))] H := hP
  have hD : va_D A [(mo, .inr (11, [.ref mw, .ref ma, .ref mf, .ref m0, .ref m1, .ref mu, .ref mv, .ref u0, .ref u1, .ref iz, .int 0, .ref mb, .int 0, .int 0, .int 0, .int 0, .int 0, .int 0, .int 0]))] := hD
  refine lv_if_eq (tgt := 83) hx hb dX11_readStatement_53 (by decide) (fun _ => ?_) (fun hc => absurd (by decide) hc)
  refine lv_aload_n hx hb dX11_readStatement_83 rfl (lv_at hl 0 rfl) ?_
  obtain ⟨sa_27, sv_28, hsr_29, hss_30⟩ := hX.2.2.2 ("CellCyclerModel", 179, "fade", [102, 97, 100, 101]) (by decide +kernel)
  refine va_ldcS hx hb hown hsr_29 dX11_readStatement_84 ?_
  refine cm_ki (wr := []) (va_runV (As := [.ref sa_27]) (rest := []) ⟨hx, hb, hml, hown, hts⟩ (m_isWord_0 l D ct mo mw ma mf m0 m1 mu mv u0 u1 iz mb sa_27 ("CellCyclerModel", 179, "fade", [102, 97, 100, 101]) _ (by decide +kernel) (by decide)) (cm_V 1 hts kc_X11_isWord ki_RX11 kl_RX11_146 kv_X11_isWord kx_X11_isWord kd_X11_isWord ⟨Nat.le_of_ble_eq_true rfl, Nat.le_of_ble_eq_true rfl⟩) (cm_preVs (cm_preV hP hK hD hS hA hX [0] rfl rfl rfl (q0 := 0) (ci := 11) rfl rfl) hsr_29) rfl rfl hl.1 rfl (lv_room (Nat.le_of_ble_eq_true rfl)) dX11_readStatement_86 ⟨Nat.le_of_ble_eq_true rfl, Nat.le_of_ble_eq_true rfl⟩) hP hD hS hA [0] [] rfl rfl rfl (by decide) (fun r_31 u H locs hw_32 hP hD hS => ?_)
  have hw_32 : r_31 = 0 := hw_32
  obtain rfl := hw_32
  have hP : va_P D vwCl [(mo, .inr (11, [.ref mw, .ref ma, .ref mf, .ref m0, .ref m1, .ref mu, .ref mv, .ref u0, .ref u1, .ref iz, .int 0, .ref mb, .int 0, .int 0, .int 0, .int 0, .int 0, .int 0, .int 0]))] H := hP
  have hD : va_D A [(mo, .inr (11, [.ref mw, .ref ma, .ref mf, .ref m0, .ref m1, .ref mu, .ref mv, .ref u0, .ref u1, .ref iz, .int 0, .ref mb, .int 0, .int 0, .int 0, .int 0, .int 0, .int 0, .int 0]))] := hD
  refine lv_if_eq (tgt := 117) hx hb dX11_readStatement_89 (by decide) (fun _ => ?_) (fun hc => absurd (by decide) hc)
  refine lv_aload_n hx hb dX11_readStatement_117 rfl (lv_at hl 0 rfl) ?_
  obtain ⟨sa_33, sv_34, hsr_35, hss_36⟩ := hX.2.2.2 ("CellCyclerModel", 182, "heat", [104, 101, 97, 116]) (by decide +kernel)
  refine va_ldcS hx hb hown hsr_35 dX11_readStatement_118 ?_
  refine cm_ki (wr := []) (va_runV (As := [.ref sa_33]) (rest := []) ⟨hx, hb, hml, hown, hts⟩ (m_isWord_0 l D ct mo mw ma mf m0 m1 mu mv u0 u1 iz mb sa_33 ("CellCyclerModel", 182, "heat", [104, 101, 97, 116]) _ (by decide +kernel) (by decide)) (cm_V 1 hts kc_X11_isWord ki_RX11 kl_RX11_146 kv_X11_isWord kx_X11_isWord kd_X11_isWord ⟨Nat.le_of_ble_eq_true rfl, Nat.le_of_ble_eq_true rfl⟩) (cm_preVs (cm_preV hP hK hD hS hA hX [0] rfl rfl rfl (q0 := 0) (ci := 11) rfl rfl) hsr_35) rfl rfl hl.1 rfl (lv_room (Nat.le_of_ble_eq_true rfl)) dX11_readStatement_120 ⟨Nat.le_of_ble_eq_true rfl, Nat.le_of_ble_eq_true rfl⟩) hP hD hS hA [0] [] rfl rfl rfl (by decide) (fun r_37 u H locs hw_38 hP hD hS => ?_)
  have hw_38 : r_37 = 0 := hw_38
  obtain rfl := hw_38
  have hP : va_P D vwCl [(mo, .inr (11, [.ref mw, .ref ma, .ref mf, .ref m0, .ref m1, .ref mu, .ref mv, .ref u0, .ref u1, .ref iz, .int 0, .ref mb, .int 0, .int 0, .int 0, .int 0, .int 0, .int 0, .int 0]))] H := hP
  have hD : va_D A [(mo, .inr (11, [.ref mw, .ref ma, .ref mf, .ref m0, .ref m1, .ref mu, .ref mv, .ref u0, .ref u1, .ref iz, .int 0, .ref mb, .int 0, .int 0, .int 0, .int 0, .int 0, .int 0, .int 0]))] := hD
  refine lv_if_eq (tgt := 171) hx hb dX11_readStatement_123 (by decide) (fun _ => ?_) (fun hc => absurd (by decide) hc)
  refine lv_aload_n hx hb dX11_readStatement_171 rfl (lv_at hl 0 rfl) ?_
  obtain ⟨sa_39, sv_40, hsr_41, hss_42⟩ := hX.2.2.2 ("CellCyclerModel", 187, "limits", [108, 105, 109, 105, 116, 115]) (by decide +kernel)
  refine va_ldcS hx hb hown hsr_41 dX11_readStatement_172 ?_
  refine cm_ki (wr := []) (va_runV (As := [.ref sa_39]) (rest := []) ⟨hx, hb, hml, hown, hts⟩ (m_isWord_0 l D ct mo mw ma mf m0 m1 mu mv u0 u1 iz mb sa_39 ("CellCyclerModel", 187, "limits", [108, 105, 109, 105, 116, 115]) _ (by decide +kernel) (by decide)) (cm_V 1 hts kc_X11_isWord ki_RX11 kl_RX11_146 kv_X11_isWord kx_X11_isWord kd_X11_isWord ⟨Nat.le_of_ble_eq_true rfl, Nat.le_of_ble_eq_true rfl⟩) (cm_preVs (cm_preV hP hK hD hS hA hX [0] rfl rfl rfl (q0 := 0) (ci := 11) rfl rfl) hsr_41) rfl rfl hl.1 rfl (lv_room (Nat.le_of_ble_eq_true rfl)) dX11_readStatement_174 ⟨Nat.le_of_ble_eq_true rfl, Nat.le_of_ble_eq_true rfl⟩) hP hD hS hA [0] [] rfl rfl rfl (by decide) (fun r_43 u H locs hw_44 hP hD hS => ?_)
  have hw_44 : r_43 = 0 := hw_44
  obtain rfl := hw_44
  have hP : va_P D vwCl [(mo, .inr (11, [.ref mw, .ref ma, .ref mf, .ref m0, .ref m1, .ref mu, .ref mv, .ref u0, .ref u1, .ref iz, .int 0, .ref mb, .int 0, .int 0, .int 0, .int 0, .int 0, .int 0, .int 0]))] H := hP
  have hD : va_D A [(mo, .inr (11, [.ref mw, .ref ma, .ref mf, .ref m0, .ref m1, .ref mu, .ref mv, .ref u0, .ref u1, .ref iz, .int 0, .ref mb, .int 0, .int 0, .int 0, .int 0, .int 0, .int 0, .int 0]))] := hD
  refine lv_if_eq (tgt := 237) hx hb dX11_readStatement_177 (by decide) (fun _ => ?_) (fun hc => absurd (by decide) hc)
  refine lv_aload_n hx hb dX11_readStatement_237 rfl (lv_at hl 0 rfl) ?_
  obtain ⟨sa_45, sv_46, hsr_47, hss_48⟩ := hX.2.2.2 ("CellCyclerModel", 189, "warn", [119, 97, 114, 110]) (by decide +kernel)
  refine va_ldcS hx hb hown hsr_47 dX11_readStatement_238 ?_
  refine cm_ki (wr := []) (va_runV (As := [.ref sa_45]) (rest := []) ⟨hx, hb, hml, hown, hts⟩ (m_isWord_0 l D ct mo mw ma mf m0 m1 mu mv u0 u1 iz mb sa_45 ("CellCyclerModel", 189, "warn", [119, 97, 114, 110]) _ (by decide +kernel) (by decide)) (cm_V 1 hts kc_X11_isWord ki_RX11 kl_RX11_146 kv_X11_isWord kx_X11_isWord kd_X11_isWord ⟨Nat.le_of_ble_eq_true rfl, Nat.le_of_ble_eq_true rfl⟩) (cm_preVs (cm_preV hP hK hD hS hA hX [0] rfl rfl rfl (q0 := 0) (ci := 11) rfl rfl) hsr_47) rfl rfl hl.1 rfl (lv_room (Nat.le_of_ble_eq_true rfl)) dX11_readStatement_240 ⟨Nat.le_of_ble_eq_true rfl, Nat.le_of_ble_eq_true rfl⟩) hP hD hS hA [0] [] rfl rfl rfl (by decide) (fun r_49 u H locs hw_50 hP hD hS => ?_)
  have hw_50 : r_49 = 0 := hw_50
  obtain rfl := hw_50
  have hP : va_P D vwCl [(mo, .inr (11, [.ref mw, .ref ma, .ref mf, .ref m0, .ref m1, .ref mu, .ref mv, .ref u0, .ref u1, .ref iz, .int 0, .ref mb, .int 0, .int 0, .int 0, .int 0, .int 0, .int 0, .int 0]))] H := hP
  have hD : va_D A [(mo, .inr (11, [.ref mw, .ref ma, .ref mf, .ref m0, .ref m1, .ref mu, .ref mv, .ref u0, .ref u1, .ref iz, .int 0, .ref mb, .int 0, .int 0, .int 0, .int 0, .int 0, .int 0, .int 0]))] := hD
  refine lv_if_eq (tgt := 304) hx hb dX11_readStatement_243 (by decide) (fun _ => ?_) (fun hc => absurd (by decide) hc)
  refine lv_aload_n hx hb dX11_readStatement_304 rfl (lv_at hl 0 rfl) ?_
  obtain ⟨sa_51, sv_52, hsr_53, hss_54⟩ := hX.2.2.2 ("CellCyclerModel", 191, "derate", [100, 101, 114, 97, 116, 101]) (by decide +kernel)
  refine va_ldcS hx hb hown hsr_53 dX11_readStatement_305 ?_
  refine cm_ki (wr := []) (va_runV (As := [.ref sa_51]) (rest := []) ⟨hx, hb, hml, hown, hts⟩ (m_isWord_0 l D ct mo mw ma mf m0 m1 mu mv u0 u1 iz mb sa_51 ("CellCyclerModel", 191, "derate", [100, 101, 114, 97, 116, 101]) _ (by decide +kernel) (by decide)) (cm_V 1 hts kc_X11_isWord ki_RX11 kl_RX11_146 kv_X11_isWord kx_X11_isWord kd_X11_isWord ⟨Nat.le_of_ble_eq_true rfl, Nat.le_of_ble_eq_true rfl⟩) (cm_preVs (cm_preV hP hK hD hS hA hX [0] rfl rfl rfl (q0 := 0) (ci := 11) rfl rfl) hsr_53) rfl rfl hl.1 rfl (lv_room (Nat.le_of_ble_eq_true rfl)) dX11_readStatement_307 ⟨Nat.le_of_ble_eq_true rfl, Nat.le_of_ble_eq_true rfl⟩) hP hD hS hA [0] [] rfl rfl rfl (by decide) (fun r_55 u H locs hw_56 hP hD hS => ?_)
  have hw_56 : r_55 = 0 := hw_56
  obtain rfl := hw_56
  have hP : va_P D vwCl [(mo, .inr (11, [.ref mw, .ref ma, .ref mf, .ref m0, .ref m1, .ref mu, .ref mv, .ref u0, .ref u1, .ref iz, .int 0, .ref mb, .int 0, .int 0, .int 0, .int 0, .int 0, .int 0, .int 0]))] H := hP
  have hD : va_D A [(mo, .inr (11, [.ref mw, .ref ma, .ref mf, .ref m0, .ref m1, .ref mu, .ref mv, .ref u0, .ref u1, .ref iz, .int 0, .ref mb, .int 0, .int 0, .int 0, .int 0, .int 0, .int 0, .int 0]))] := hD
  refine lv_if_eq (tgt := 339) hx hb dX11_readStatement_310 (by decide) (fun _ => ?_) (fun hc => absurd (by decide) hc)
  refine lv_aload_n hx hb dX11_readStatement_339 rfl (lv_at hl 0 rfl) ?_
  obtain ⟨sa_57, sv_58, hsr_59, hss_60⟩ := hX.2.2.2 ("CellCyclerModel", 193, "ambient", [97, 109, 98, 105, 101, 110, 116]) (by decide +kernel)
  refine va_ldcS hx hb hown hsr_59 dX11_readStatement_340 ?_
  refine cm_ki (wr := []) (va_runV (As := [.ref sa_57]) (rest := []) ⟨hx, hb, hml, hown, hts⟩ (m_isWord_0 l D ct mo mw ma mf m0 m1 mu mv u0 u1 iz mb sa_57 ("CellCyclerModel", 193, "ambient", [97, 109, 98, 105, 101, 110, 116]) _ (by decide +kernel) (by decide)) (cm_V 1 hts kc_X11_isWord ki_RX11 kl_RX11_146 kv_X11_isWord kx_X11_isWord kd_X11_isWord ⟨Nat.le_of_ble_eq_true rfl, Nat.le_of_ble_eq_true rfl⟩) (cm_preVs (cm_preV hP hK hD hS hA hX [0] rfl rfl rfl (q0 := 0) (ci := 11) rfl rfl) hsr_59) rfl rfl hl.1 rfl (lv_room (Nat.le_of_ble_eq_true rfl)) dX11_readStatement_342 ⟨Nat.le_of_ble_eq_true rfl, Nat.le_of_ble_eq_true rfl⟩) hP hD hS hA [0] [] rfl rfl rfl (by decide) (fun r_61 u H locs hw_62 hP hD hS => ?_)
  have hw_62 : r_61 = 0 := hw_62
  obtain rfl := hw_62
  have hP : va_P D vwCl [(mo, .inr (11, [.ref mw, .ref ma, .ref mf, .ref m0, .ref m1, .ref mu, .ref mv, .ref u0, .ref u1, .ref iz, .int 0, .ref mb, .int 0, .int 0, .int 0, .int 0, .int 0, .int 0, .int 0]))] H := hP
  have hD : va_D A [(mo, .inr (11, [.ref mw, .ref ma, .ref mf, .ref m0, .ref m1, .ref mu, .ref mv, .ref u0, .ref u1, .ref iz, .int 0, .ref mb, .int 0, .int 0, .int 0, .int 0, .int 0, .int 0, .int 0]))] := hD
  refine lv_if_eq (tgt := 376) hx hb dX11_readStatement_345 (by decide) (fun _ => ?_) (fun hc => absurd (by decide) hc)
  refine lv_aload_n hx hb dX11_readStatement_376 rfl (lv_at hl 0 rfl) ?_
  refine lv_iconst (v := 1) hx hb dX11_readStatement_377 (by decide) ?_
  refine cm_ki (wr := []) (va_runV (As := [.int 1]) (rest := []) ⟨hx, hb, hml, hown, hts⟩ (m_fails_0 l D ct mo mw ma mf m0 m1 mu mv u0 u1 iz mb _) (cm_V 1 hts kc_X11_fails ki_RX11 kl_RX11_112 kv_X11_fails kx_X11_fails kd_X11_fails ⟨Nat.le_of_ble_eq_true rfl, Nat.le_of_ble_eq_true rfl⟩) (cm_preV hP hK hD hS hA hX [0] rfl rfl rfl (q0 := 0) (ci := 11) rfl rfl) rfl rfl hl.1 rfl (lv_room (Nat.le_of_ble_eq_true rfl)) dX11_readStatement_378 ⟨Nat.le_of_ble_eq_true rfl, Nat.le_of_ble_eq_true rfl⟩) hP hD hS hA [0] [] rfl rfl rfl (by decide) (fun r_63 u H locs hw_64 hP hD hS => ?_)
  have hw_64 : r_63 = 0 := hw_64
  obtain rfl := hw_64
  have hP : va_P D vwCl [(mo, .inr (11, [.ref mw, .ref ma, .ref mf, .ref m0, .ref m1, .ref mu, .ref mv, .ref u0, .ref u1, .ref iz, .int 0, .ref mb, .int 0, .int 0, .int 0, .int 0, .int 1, .int 0, .int 0]))] H := hP
  have hD : va_D A [(mo, .inr (11, [.ref mw, .ref ma, .ref mf, .ref m0, .ref m1, .ref mu, .ref mv, .ref u0, .ref u1, .ref iz, .int 0, .ref mb, .int 0, .int 0, .int 0, .int 0, .int 1, .int 0, .int 0]))] := hD
  have hP9 := hP.sub (ws' := [(mo, .inr (11, [.ref mw, .ref ma, .ref mf, .ref m0, .ref m1, .ref mu, .ref mv, .ref u0, .ref u1, .ref iz, .int 0, .ref mb, .int 0, .int 0, .int 0, .int 0, .int 1, .int 0, .int 0]))]) [0] rfl
  have hD9 := hD.sub (ws' := [(mo, .inr (11, [.ref mw, .ref ma, .ref mf, .ref m0, .ref m1, .ref mu, .ref mv, .ref u0, .ref u1, .ref iz, .int 0, .ref mb, .int 0, .int 0, .int 0, .int 0, .int 1, .int 0, .int 0]))]) [0] (by decide) rfl
  exact W.zret (v := 0) hx hb hr (by decide) (fun t ht hW => ⟨⟨0, (), rfl, rfl, by rw [ht]; exact hP9, by rw [hAe]; exact hD9⟩, hS.F ht⟩) hS.2.2 dX11_readStatement_381
theorem dX11_readsAll_0 : decode cX11_readsAll 0 = .ok (.aload_n 0, 1) := by decide +kernel
theorem dX11_readsAll_1 : decode cX11_readsAll 1 = .ok (.invokevirtual 195, 3) := by decide +kernel
theorem dX11_readsAll_4 : decode cX11_readsAll 4 = .ok (.ifCond .ne 5, 3) := by decide +kernel
theorem dX11_readsAll_7 : decode cX11_readsAll 7 = .ok (.iconst 0, 1) := by decide +kernel
theorem dX11_readsAll_8 : decode cX11_readsAll 8 = .ok (.ireturn, 1) := by decide +kernel
set_option maxRecDepth 100000 in
set_option maxHeartbeats 4000000 in
theorem m_readsAll_0 (l : Launch) (D : va_G) (ct : Nat → ClassId) (mo : Nat) (mw : Nat) (ma : Nat) (mf : Nat) (m0 : Nat) (m1 : Nat) (mu : Nat) (mv : Nat) (u0 : Nat) (u1 : Nat) (iz : Nat) (mb : Nat) (sz : Nat) : Met l yX11_readsAll (ws_ yX11_readsAll cX11_readsAll 1 (some .boolean)) ({ frames := 5, cells := 0, slots := 0, locals := 111 } : Room) (va_Pc [.ref mo] (cmP D ct sz [(mo, .inr (11, [.ref mw, .ref ma, .ref mf, .ref m0, .ref m1, .ref mu, .ref mv, .ref u0, .ref u1, .ref iz, .int 0, .ref mb, .int 0, .int 0, .int 0, .int 0, .int 0, .int 0, .int 0]))])) (va_Qi (fun (r : Int32) (_ : Unit) => r = 0) (cmB D [(mo, .inr (11, [.ref mw, .ref ma, .ref mf, .ref m0, .ref m1, .ref mu, .ref mv, .ref u0, .ref u1, .ref iz, .int 0, .ref mb, .int 0, .int 0, .int 0, .int 0, .int 0, .int 0, .int 0]))] sz (fun _ : Unit => [(mo, .inr (11, [.ref mw, .ref ma, .ref mf, .ref m0, .ref m1, .ref mu, .ref mv, .ref u0, .ref u1, .ref iz, .int 0, .ref mb, .int 0, .int 0, .int 0, .int 0, .int 1, .int 0, .int 0]))])) (va_A [(mo, .inr (11, [.ref mw, .ref ma, .ref mf, .ref m0, .ref m1, .ref mu, .ref mv, .ref u0, .ref u1, .ref iz, .int 0, .ref mb, .int 0, .int 0, .int 0, .int 0, .int 0, .int 0, .int 0]))] sz)) 0 0 (va_A [(mo, .inr (11, [.ref mw, .ref ma, .ref mf, .ref m0, .ref m1, .ref mu, .ref mv, .ref u0, .ref u1, .ref iz, .int 0, .ref mb, .int 0, .int 0, .int 0, .int 0, .int 0, .int 0, .int 0]))] sz) := by
  refine Met.ofW (cc := cX11_readsAll) (maxL := 1) (ret := (some .boolean)) (by decide) rfl ?_
  intro p e s m args below meth c s₁ B hml hv
  obtain ⟨rfl, hsz, hP, hK, hD0, hX⟩ := hv
  have hx := B.exec
  have hb := B.bytes
  have hr := B.returns
  have hts := ws_all (atoms_spec (ws := ws_ yX11_readsAll cX11_readsAll 1 (some .boolean)) B.pre)
  have hown : s.vm.findClass RX11 = some m.cls := findClass_of_methodNamed B.named
  have hlocks := B.notSynchronized
  subst hsz
  have hD := hD0.self (sz := s.heap.size)
  generalize hAe : va_A [(mo, .inr (11, [.ref mw, .ref ma, .ref mf, .ref m0, .ref m1, .ref mu, .ref mv, .ref u0, .ref u1, .ref iz, .int 0, .ref mb, .int 0, .int 0, .int 0, .int 0, .int 0, .int 0, .int 0]))] s.heap.size = A at hD hX ⊢
  have hA : ∀ q : Nat, s.heap.size ≤ q → A q := fun q h => by rw [← hAe]; exact Or.inr h
  have hS : va_S A s.heap s.heap [] := va_S.rf
  have hl := lv_entry ([.ref mo]) (n := 1) (Nat.le_of_ble_eq_true rfl)
  rw [lg_entry_eq]
  generalize (lg_sl ([.ref mo]) ++ List.replicate (1 - (lg_sl ([.ref mo])).length) Slot.unset).toArray = ls at hl ⊢
  have hl : lv_has ls 1 [(0, .ref mo)] := hl
  refine lv_aload_n hx hb dX11_readsAll_0 rfl (lv_at hl 0 rfl) ?_
  refine cm_ki (wr := []) (va_runV (As := []) (rest := []) ⟨hx, hb, hml, hown, hts⟩ (m_readStatement_0 l D ct mo mw ma mf m0 m1 mu mv u0 u1 iz mb _) (cm_V 0 hts kc_X11_readStatement ki_RX11 kl_RX11_195 kv_X11_readStatement kx_X11_readStatement kd_X11_readStatement ⟨Nat.le_of_ble_eq_true rfl, Nat.le_of_ble_eq_true rfl⟩) (cm_preV hP hK hD hS hA hX [0] rfl rfl rfl (q0 := 0) (ci := 11) rfl rfl) rfl rfl hl.1 rfl (lv_room (Nat.le_of_ble_eq_true rfl)) dX11_readsAll_1 ⟨Nat.le_of_ble_eq_true rfl, Nat.le_of_ble_eq_true rfl⟩) hP hD hS hA [0] [] rfl rfl rfl (by decide) (fun r_1 u H locs hw_2 hP hD hS => ?_)
  have hw_2 : r_1 = 0 := hw_2
  obtain rfl := hw_2
  have hP : va_P D vwCl [(mo, .inr (11, [.ref mw, .ref ma, .ref mf, .ref m0, .ref m1, .ref mu, .ref mv, .ref u0, .ref u1, .ref iz, .int 0, .ref mb, .int 0, .int 0, .int 0, .int 0, .int 1, .int 0, .int 0]))] H := hP
  have hD : va_D A [(mo, .inr (11, [.ref mw, .ref ma, .ref mf, .ref m0, .ref m1, .ref mu, .ref mv, .ref u0, .ref u1, .ref iz, .int 0, .ref mb, .int 0, .int 0, .int 0, .int 0, .int 1, .int 0, .int 0]))] := hD
  refine lv_if_ne (tgt := 9) hx hb dX11_readsAll_4 (by decide) (fun hc => absurd (by decide) hc) (fun _ => ?_)
  refine lv_iconst (v := 0) hx hb dX11_readsAll_7 (by decide) ?_
  have hP9 := hP.sub (ws' := [(mo, .inr (11, [.ref mw, .ref ma, .ref mf, .ref m0, .ref m1, .ref mu, .ref mv, .ref u0, .ref u1, .ref iz, .int 0, .ref mb, .int 0, .int 0, .int 0, .int 0, .int 1, .int 0, .int 0]))]) [0] rfl
  have hD9 := hD.sub (ws' := [(mo, .inr (11, [.ref mw, .ref ma, .ref mf, .ref m0, .ref m1, .ref mu, .ref mv, .ref u0, .ref u1, .ref iz, .int 0, .ref mb, .int 0, .int 0, .int 0, .int 0, .int 1, .int 0, .int 0]))]) [0] (by decide) rfl
  exact W.zret (v := 0) hx hb hr (by decide) (fun t ht hW => ⟨⟨0, (), rfl, rfl, by rw [ht]; exact hP9, by rw [hAe]; exact hD9⟩, hS.F ht⟩) hS.2.2 dX11_readsAll_8
theorem dX11_load_0 : decode cX11_load 0 = .ok (.aload_n 0, 1) := by decide +kernel
theorem dX11_load_1 : decode cX11_load 1 = .ok (.iconst 0, 1) := by decide +kernel
theorem dX11_load_2 : decode cX11_load 2 = .ok (.putfield 49, 3) := by decide +kernel
theorem dX11_load_5 : decode cX11_load 5 = .ok (.aload_n 0, 1) := by decide +kernel
theorem dX11_load_6 : decode cX11_load 6 = .ok (.getfield 16, 3) := by decide +kernel
theorem dX11_load_9 : decode cX11_load 9 = .ok (.invokestatic 45, 3) := by decide +kernel
theorem dX11_load_12 : decode cX11_load 12 = .ok (.aload_n 0, 1) := by decide +kernel
theorem dX11_load_13 : decode cX11_load 13 = .ok (.iconst 0, 1) := by decide +kernel
theorem dX11_load_14 : decode cX11_load 14 = .ok (.putfield 78, 3) := by decide +kernel
theorem dX11_load_17 : decode cX11_load 17 = .ok (.aload_n 0, 1) := by decide +kernel
theorem dX11_load_18 : decode cX11_load 18 = .ok (.iconst 0, 1) := by decide +kernel
theorem dX11_load_19 : decode cX11_load 19 = .ok (.putfield 84, 3) := by decide +kernel
theorem dX11_load_22 : decode cX11_load 22 = .ok (.aload_n 0, 1) := by decide +kernel
theorem dX11_load_23 : decode cX11_load 23 = .ok (.invokevirtual 198, 3) := by decide +kernel
theorem dX11_load_26 : decode cX11_load 26 = .ok (.istore_n 1, 1) := by decide +kernel
theorem dX11_load_27 : decode cX11_load 27 = .ok (.aload_n 0, 1) := by decide +kernel
theorem dX11_load_28 : decode cX11_load 28 = .ok (.iconst 0, 1) := by decide +kernel
theorem dX11_load_29 : decode cX11_load 29 = .ok (.putfield 56, 3) := by decide +kernel
theorem dX11_load_32 : decode cX11_load 32 = .ok (.aload_n 0, 1) := by decide +kernel
theorem dX11_load_33 : decode cX11_load 33 = .ok (.aload_n 0, 1) := by decide +kernel
theorem dX11_load_34 : decode cX11_load 34 = .ok (.getfield 84, 3) := by decide +kernel
theorem dX11_load_37 : decode cX11_load 37 = .ok (.putfield 59, 3) := by decide +kernel
theorem dX11_load_40 : decode cX11_load 40 = .ok (.iload_n 1, 1) := by decide +kernel
theorem dX11_load_41 : decode cX11_load 41 = .ok (.ifCond .ne 11, 3) := by decide +kernel
theorem dX11_load_44 : decode cX11_load 44 = .ok (.bipush (-100), 2) := by decide +kernel
theorem dX11_load_46 : decode cX11_load 46 = .ok (.aload_n 0, 1) := by decide +kernel
theorem dX11_load_47 : decode cX11_load 47 = .ok (.getfield 87, 3) := by decide +kernel
theorem dX11_load_50 : decode cX11_load 50 = .ok (.isub, 1) := by decide +kernel
theorem dX11_load_51 : decode cX11_load 51 = .ok (.ireturn, 1) := by decide +kernel
set_option maxRecDepth 100000 in
set_option maxHeartbeats 4000000 in
theorem m_load_0 (l : Launch) (D : va_G) (ct : Nat → ClassId) (mo : Nat) (mw : Nat) (ma : Nat) (mf : Nat) (m0 : Nat) (m1 : Nat) (mu : Nat) (mv : Nat) (u0 : Nat) (u1 : Nat) (iz : Nat) (mb : Nat) (sz : Nat) : Met l yX11_load (ws_ yX11_load cX11_load 3 (some .int)) ({ frames := 6, cells := 0, slots := 0, locals := 131 } : Room) (va_Pc [.ref mo] (cmP D ct sz [(mo, .inr (11, [.ref mw, .ref ma, .ref mf, .ref m0, .ref m1, .ref mu, .ref mv, .ref u0, .ref u1, .ref iz, .int 0, .ref mb, .int 0, .int 0, .int 0, .int 0, .int 0, .int 0, .int 0])), (mf, .inl (ct 0, 958, .inl (fun _ => 0)))])) (va_Qi (fun (r : Int32) (_ : Unit) => r = (-100)) (cmB D [(mo, .inr (11, [.ref mw, .ref ma, .ref mf, .ref m0, .ref m1, .ref mu, .ref mv, .ref u0, .ref u1, .ref iz, .int 0, .ref mb, .int 0, .int 0, .int 0, .int 0, .int 0, .int 0, .int 0])), (mf, .inl (ct 0, 958, .inl (fun _ => 0)))] sz (fun _ : Unit => [(mo, .inr (11, [.ref mw, .ref ma, .ref mf, .ref m0, .ref m1, .ref mu, .ref mv, .ref u0, .ref u1, .ref iz, .int 0, .ref mb, .int 0, .int 0, .int 0, .int 0, .int 1, .int 1, .int 0]))])) (va_A [(mo, .inr (11, [.ref mw, .ref ma, .ref mf, .ref m0, .ref m1, .ref mu, .ref mv, .ref u0, .ref u1, .ref iz, .int 0, .ref mb, .int 0, .int 0, .int 0, .int 0, .int 0, .int 0, .int 0])), (mf, .inl (ct 0, 958, .inl (fun _ => 0)))] sz)) 0 0 (va_A [(mo, .inr (11, [.ref mw, .ref ma, .ref mf, .ref m0, .ref m1, .ref mu, .ref mv, .ref u0, .ref u1, .ref iz, .int 0, .ref mb, .int 0, .int 0, .int 0, .int 0, .int 0, .int 0, .int 0])), (mf, .inl (ct 0, 958, .inl (fun _ => 0)))] sz) := by
  refine Met.ofW (cc := cX11_load) (maxL := 3) (ret := (some .int)) (by decide) rfl ?_
  intro p e s m args below meth c s₁ B hml hv
  obtain ⟨rfl, hsz, hP, hK, hD0, hX⟩ := hv
  have hx := B.exec
  have hb := B.bytes
  have hr := B.returns
  have hts := ws_all (atoms_spec (ws := ws_ yX11_load cX11_load 3 (some .int)) B.pre)
  have hown : s.vm.findClass RX11 = some m.cls := findClass_of_methodNamed B.named
  have hlocks := B.notSynchronized
  subst hsz
  have hD := hD0.self (sz := s.heap.size)
  generalize hAe : va_A [(mo, .inr (11, [.ref mw, .ref ma, .ref mf, .ref m0, .ref m1, .ref mu, .ref mv, .ref u0, .ref u1, .ref iz, .int 0, .ref mb, .int 0, .int 0, .int 0, .int 0, .int 0, .int 0, .int 0])), (mf, .inl (ct 0, 958, .inl (fun _ => 0)))] s.heap.size = A at hD hX ⊢
  have hA : ∀ q : Nat, s.heap.size ≤ q → A q := fun q h => by rw [← hAe]; exact Or.inr h
  have hS : va_S A s.heap s.heap [] := va_S.rf
  have hl := lv_entry ([.ref mo]) (n := 3) (Nat.le_of_ble_eq_true rfl)
  rw [lg_entry_eq]
  generalize (lg_sl ([.ref mo]) ++ List.replicate (3 - (lg_sl ([.ref mo])).length) Slot.unset).toArray = ls at hl ⊢
  have hl : lv_has ls 3 [(0, .ref mo)] := hl
  refine lv_aload_n hx hb dX11_load_0 rfl (lv_at hl 0 rfl) ?_
  refine lv_iconst (v := 0) hx hb dX11_load_1 (by decide) ?_
  refine va_put (v := .int 0) (ty := .int) (D := D) (ci := 11) (C := RX11) (T := TX11) (N := 19) hx hb hts in_X11 tyX11 tyX11_ok nmX11 hown hK hP hD hS 0 rfl rfl 10 (by decide) (hts _ kl_RX11_49) (fun _ h9 => h9) rfl (by decide +kernel) rfl rfl (Nat.le_of_ble_eq_true rfl) dX11_load_2 (fun H locs hP hD hS => ?_)
  have hP : va_P D vwCl [(mo, .inr (11, [.ref mw, .ref ma, .ref mf, .ref m0, .ref m1, .ref mu, .ref mv, .ref u0, .ref u1, .ref iz, .int 0, .ref mb, .int 0, .int 0, .int 0, .int 0, .int 0, .int 0, .int 0])), (mf, .inl (ct 0, 958, .inl (fun _ => 0)))] H := hP
  have hD : va_D A [(mo, .inr (11, [.ref mw, .ref ma, .ref mf, .ref m0, .ref m1, .ref mu, .ref mv, .ref u0, .ref u1, .ref iz, .int 0, .ref mb, .int 0, .int 0, .int 0, .int 0, .int 0, .int 0, .int 0])), (mf, .inl (ct 0, 958, .inl (fun _ => 0)))] := hD
  refine lv_aload_n hx hb dX11_load_5 rfl (lv_at hl 0 rfl) ?_
  refine va_get (v := .ref mf) (D := D) (ci := 11) (C := RX11) (T := TX11) (N := 19) hx hb hts in_X11 hown hK hP 0 rfl rfl 2 (by decide) (hts _ kl_RX11_16) (fun _ h9 => h9) rfl dX11_load_6 ?_
  refine cm_kv (wr := [(mo, .inr (11, [.ref mw, .ref ma, .ref mf, .ref m0, .ref m1, .ref mu, .ref mv, .ref u0, .ref u1, .ref iz, .int 0, .ref mb, .int 0, .int 0, .int 0, .int 0, .int 0, .int 0, .int 0]))]) (va_runS (As := [.ref mf]) (rest := []) ⟨hx, hb, hml, hown, hts⟩ (m_starts l D ct mf _) (cm_S 1 hts kc_X11_starts ki_RX11 kl_RX11_45 ks_X11_starts kd_X11_starts ⟨Nat.le_of_ble_eq_true rfl, Nat.le_of_ble_eq_true rfl⟩) (cm_preS hP hK hD hS hA hX [1] rfl rfl rfl) rfl rfl hl.1 rfl (lv_room (Nat.le_of_ble_eq_true rfl)) dX11_load_9 ⟨Nat.le_of_ble_eq_true rfl, Nat.le_of_ble_eq_true rfl⟩) hP hD hS hA [1] [0] rfl rfl rfl (by decide) (fun u H locs hw_2 hP hD hS => ?_)
  have hP : va_P D vwCl [(mo, .inr (11, [.ref mw, .ref ma, .ref mf, .ref m0, .ref m1, .ref mu, .ref mv, .ref u0, .ref u1, .ref iz, .int 0, .ref mb, .int 0, .int 0, .int 0, .int 0, .int 0, .int 0, .int 0])), (mf, .inl (ct 0, 958, .inl m_w0))] H := hP
  have hD : va_D A [(mo, .inr (11, [.ref mw, .ref ma, .ref mf, .ref m0, .ref m1, .ref mu, .ref mv, .ref u0, .ref u1, .ref iz, .int 0, .ref mb, .int 0, .int 0, .int 0, .int 0, .int 0, .int 0, .int 0])), (mf, .inl (ct 0, 958, .inl m_w0))] := hD
  refine lv_aload_n hx hb dX11_load_12 rfl (lv_at hl 0 rfl) ?_
  refine lv_iconst (v := 0) hx hb dX11_load_13 (by decide) ?_
  refine va_put (v := .int 0) (ty := .int) (D := D) (ci := 11) (C := RX11) (T := TX11) (N := 19) hx hb hts in_X11 tyX11 tyX11_ok nmX11 hown hK hP hD hS 0 rfl rfl 13 (by decide) (hts _ kl_RX11_78) (fun _ h9 => h9) rfl (by decide +kernel) rfl rfl (Nat.le_of_ble_eq_true rfl) dX11_load_14 (fun H locs hP hD hS => ?_)
  have hP : va_P D vwCl [(mo, .inr (11, [.ref mw, .ref ma, .ref mf, .ref m0, .ref m1, .ref mu, .ref mv, .ref u0, .ref u1, .ref iz, .int 0, .ref mb, .int 0, .int 0, .int 0, .int 0, .int 0, .int 0, .int 0])), (mf, .inl (ct 0, 958, .inl m_w0))] H := hP
  have hD : va_D A [(mo, .inr (11, [.ref mw, .ref ma, .ref mf, .ref m0, .ref m1, .ref mu, .ref mv, .ref u0, .ref u1, .ref iz, .int 0, .ref mb, .int 0, .int 0, .int 0, .int 0, .int 0, .int 0, .int 0])), (mf, .inl (ct 0, 958, .inl m_w0))] := hD
  refine lv_aload_n hx hb dX11_load_17 rfl (lv_at hl 0 rfl) ?_
  refine lv_iconst (v := 0) hx hb dX11_load_18 (by decide) ?_
  refine va_put (v := .int 0) (ty := .int) (D := D) (ci := 11) (C := RX11) (T := TX11) (N := 19) hx hb hts in_X11 tyX11 tyX11_ok nmX11 hown hK hP hD hS 0 rfl rfl 16 (by decide) (hts _ kl_RX11_84) (fun _ h9 => h9) rfl (by decide +kernel) rfl rfl (Nat.le_of_ble_eq_true rfl) dX11_load_19 (fun H locs hP hD hS => ?_)
  have hP : va_P D vwCl [(mo, .inr (11, [.ref mw, .ref ma, .ref mf, .ref m0, .ref m1, .ref mu, .ref mv, .ref u0, .ref u1, .ref iz, .int 0, .ref mb, .int 0, .int 0, .int 0, .int 0, .int 0, .int 0, .int 0])), (mf, .inl (ct 0, 958, .inl m_w0))] H := hP
  have hD : va_D A [(mo, .inr (11, [.ref mw, .ref ma, .ref mf, .ref m0, .ref m1, .ref mu, .ref mv, .ref u0, .ref u1, .ref iz, .int 0, .ref mb, .int 0, .int 0, .int 0, .int 0, .int 0, .int 0, .int 0])), (mf, .inl (ct 0, 958, .inl m_w0))] := hD
  refine lv_aload_n hx hb dX11_load_22 rfl (lv_at hl 0 rfl) ?_
  refine cm_ki (wr := [(mf, .inl (ct 0, 958, .inl m_w0))]) (va_runV (As := []) (rest := []) ⟨hx, hb, hml, hown, hts⟩ (m_readsAll_0 l D ct mo mw ma mf m0 m1 mu mv u0 u1 iz mb _) (cm_V 0 hts kc_X11_readsAll ki_RX11 kl_RX11_198 kv_X11_readsAll kx_X11_readsAll kd_X11_readsAll ⟨Nat.le_of_ble_eq_true rfl, Nat.le_of_ble_eq_true rfl⟩) (cm_preV hP hK hD hS hA hX [0] rfl rfl rfl (q0 := 0) (ci := 11) rfl rfl) rfl rfl hl.1 rfl (lv_room (Nat.le_of_ble_eq_true rfl)) dX11_load_23 ⟨Nat.le_of_ble_eq_true rfl, Nat.le_of_ble_eq_true rfl⟩) hP hD hS hA [0] [1] rfl rfl rfl (by decide) (fun r_3 u H locs hw_4 hP hD hS => ?_)
  have hw_4 : r_3 = 0 := hw_4
  obtain rfl := hw_4
  have hP : va_P D vwCl [(mf, .inl (ct 0, 958, .inl m_w0)), (mo, .inr (11, [.ref mw, .ref ma, .ref mf, .ref m0, .ref m1, .ref mu, .ref mv, .ref u0, .ref u1, .ref iz, .int 0, .ref mb, .int 0, .int 0, .int 0, .int 0, .int 1, .int 0, .int 0]))] H := hP
  have hD : va_D A [(mf, .inl (ct 0, 958, .inl m_w0)), (mo, .inr (11, [.ref mw, .ref ma, .ref mf, .ref m0, .ref m1, .ref mu, .ref mv, .ref u0, .ref u1, .ref iz, .int 0, .ref mb, .int 0, .int 0, .int 0, .int 0, .int 1, .int 0, .int 0]))] := hD
  refine lv_istore_n (lv' := [(1, .int 0), (0, .ref mo)]) hx hb dX11_load_26 rfl hl (by decide) rfl (fun ls hl => ?_)
  refine lv_aload_n hx hb dX11_load_27 rfl (lv_at hl 1 rfl) ?_
  refine lv_iconst (v := 0) hx hb dX11_load_28 (by decide) ?_
  refine va_put (v := .int 0) (ty := .int) (D := D) (ci := 11) (C := RX11) (T := TX11) (N := 19) hx hb hts in_X11 tyX11 tyX11_ok nmX11 hown hK hP hD hS 1 rfl rfl 12 (by decide) (hts _ kl_RX11_56) (fun _ h9 => h9) rfl (by decide +kernel) rfl rfl (Nat.le_of_ble_eq_true rfl) dX11_load_29 (fun H locs hP hD hS => ?_)
  have hP : va_P D vwCl [(mf, .inl (ct 0, 958, .inl m_w0)), (mo, .inr (11, [.ref mw, .ref ma, .ref mf, .ref m0, .ref m1, .ref mu, .ref mv, .ref u0, .ref u1, .ref iz, .int 0, .ref mb, .int 0, .int 0, .int 0, .int 0, .int 1, .int 0, .int 0]))] H := hP
  have hD : va_D A [(mf, .inl (ct 0, 958, .inl m_w0)), (mo, .inr (11, [.ref mw, .ref ma, .ref mf, .ref m0, .ref m1, .ref mu, .ref mv, .ref u0, .ref u1, .ref iz, .int 0, .ref mb, .int 0, .int 0, .int 0, .int 0, .int 1, .int 0, .int 0]))] := hD
  refine lv_aload_n hx hb dX11_load_32 rfl (lv_at hl 1 rfl) ?_
  refine lv_aload_n hx hb dX11_load_33 rfl (lv_at hl 1 rfl) ?_
  refine va_get (v := .int 1) (D := D) (ci := 11) (C := RX11) (T := TX11) (N := 19) hx hb hts in_X11 hown hK hP 1 rfl rfl 16 (by decide) (hts _ kl_RX11_84) (fun _ h9 => h9) rfl dX11_load_34 ?_
  refine va_put (v := .int 1) (ty := .int) (D := D) (ci := 11) (C := RX11) (T := TX11) (N := 19) hx hb hts in_X11 tyX11 tyX11_ok nmX11 hown hK hP hD hS 1 rfl rfl 17 (by decide) (hts _ kl_RX11_59) (fun _ h9 => h9) rfl (by decide +kernel) rfl rfl (Nat.le_of_ble_eq_true rfl) dX11_load_37 (fun H locs hP hD hS => ?_)
  have hP : va_P D vwCl [(mf, .inl (ct 0, 958, .inl m_w0)), (mo, .inr (11, [.ref mw, .ref ma, .ref mf, .ref m0, .ref m1, .ref mu, .ref mv, .ref u0, .ref u1, .ref iz, .int 0, .ref mb, .int 0, .int 0, .int 0, .int 0, .int 1, .int 1, .int 0]))] H := hP
  have hD : va_D A [(mf, .inl (ct 0, 958, .inl m_w0)), (mo, .inr (11, [.ref mw, .ref ma, .ref mf, .ref m0, .ref m1, .ref mu, .ref mv, .ref u0, .ref u1, .ref iz, .int 0, .ref mb, .int 0, .int 0, .int 0, .int 0, .int 1, .int 1, .int 0]))] := hD
  refine lv_iload_n hx hb dX11_load_40 rfl (lv_at hl 0 rfl) ?_
  refine lv_if_ne (tgt := 52) hx hb dX11_load_41 (by decide) (fun hc => absurd (by decide) hc) (fun _ => ?_)
  refine lv_bipush (v := (-100)) hx hb dX11_load_44 (by decide) ?_
  refine lv_aload_n hx hb dX11_load_46 rfl (lv_at hl 1 rfl) ?_
  refine va_get (v := .int 0) (D := D) (ci := 11) (C := RX11) (T := TX11) (N := 19) hx hb hts in_X11 hown hK hP 1 rfl rfl 15 (by decide) (hts _ kl_RX11_87) (fun _ h9 => h9) rfl dX11_load_47 ?_
  refine lv_isub hx hb dX11_load_50 ?_
  refine cm_cst (y := (-100)) (by decide) ?_
  have hP9 := hP.sub (ws' := [(mo, .inr (11, [.ref mw, .ref ma, .ref mf, .ref m0, .ref m1, .ref mu, .ref mv, .ref u0, .ref u1, .ref iz, .int 0, .ref mb, .int 0, .int 0, .int 0, .int 0, .int 1, .int 1, .int 0]))]) [1] rfl
  have hD9 := hD.sub (ws' := [(mo, .inr (11, [.ref mw, .ref ma, .ref mf, .ref m0, .ref m1, .ref mu, .ref mv, .ref u0, .ref u1, .ref iz, .int 0, .ref mb, .int 0, .int 0, .int 0, .int 0, .int 1, .int 1, .int 0]))]) [1] (by decide) rfl
  exact W.iret (v := (-100)) hx hb hr (fun t ht hW => ⟨⟨(-100), (), rfl, rfl, by rw [ht]; exact hP9, by rw [hAe]; exact hD9⟩, hS.F ht⟩) hS.2.2 dX11_load_51
theorem dX11_copies_0 : decode cX11_copies 0 = .ok (.iconst 0, 1) := by decide +kernel
theorem dX11_copies_1 : decode cX11_copies 1 = .ok (.istore_n 2, 1) := by decide +kernel
theorem dX11_copies_2 : decode cX11_copies 2 = .ok (.iload_n 2, 1) := by decide +kernel
theorem dX11_copies_3 : decode cX11_copies 3 = .ok (.sipush 958, 3) := by decide +kernel
theorem dX11_copies_6 : decode cX11_copies 6 = .ok (.if_icmp .ge 15, 3) := by decide +kernel
theorem dX11_copies_9 : decode cX11_copies 9 = .ok (.aload_n 1, 1) := by decide +kernel
theorem dX11_copies_10 : decode cX11_copies 10 = .ok (.iload_n 2, 1) := by decide +kernel
theorem dX11_copies_11 : decode cX11_copies 11 = .ok (.aload_n 0, 1) := by decide +kernel
theorem dX11_copies_12 : decode cX11_copies 12 = .ok (.iload_n 2, 1) := by decide +kernel
theorem dX11_copies_13 : decode cX11_copies 13 = .ok (.iaload, 1) := by decide +kernel
theorem dX11_copies_14 : decode cX11_copies 14 = .ok (.iastore, 1) := by decide +kernel
theorem dX11_copies_15 : decode cX11_copies 15 = .ok (.iinc 2 1, 3) := by decide +kernel
theorem dX11_copies_18 : decode cX11_copies 18 = .ok (.goto (-16), 3) := by decide +kernel
theorem dX11_copies_21 : decode cX11_copies 21 = .ok (.return_, 1) := by decide +kernel
set_option maxRecDepth 100000 in
set_option maxHeartbeats 4000000 in
theorem m_copies (l : Launch) (D : va_G) (ct : Nat → ClassId) (a : Nat) (b : Nat) (f : Nat → Int32) (g : Nat → Int32) (sz : Nat) : Met l yX11_copies (ws_ yX11_copies cX11_copies 3 none) ({ frames := 0, cells := 0, slots := 0, locals := 0 } : Room) (va_Pc [.ref a, .ref b] (cmP D ct sz [(a, .inl (ct 0, 958, .inl f)), (b, .inl (ct 0, 958, .inl g))])) (va_Qv (fun (h : (Nat → Int32)) => True) (cmB D [(a, .inl (ct 0, 958, .inl f)), (b, .inl (ct 0, 958, .inl g))] sz (fun h : (Nat → Int32) => [(a, .inl (ct 0, 958, .inl f)), (b, .inl (ct 0, 958, .inl h))])) (va_A [(a, .inl (ct 0, 958, .inl f)), (b, .inl (ct 0, 958, .inl g))] sz)) 0 0 (va_A [(a, .inl (ct 0, 958, .inl f)), (b, .inl (ct 0, 958, .inl g))] sz) := by
  refine Met.ofW (cc := cX11_copies) (maxL := 3) (ret := none) (by decide) rfl ?_
  intro p e s m args below meth c s₁ B hml hv
  obtain ⟨rfl, hsz, hP, hK, hD0, hX⟩ := hv
  have hx := B.exec
  have hb := B.bytes
  have hr := B.returns
  have hts := ws_all (atoms_spec (ws := ws_ yX11_copies cX11_copies 3 none) B.pre)
  have hown : s.vm.findClass RX11 = some m.cls := findClass_of_methodNamed B.named
  have hlocks := B.notSynchronized
  subst hsz
  have hD := hD0.self (sz := s.heap.size)
  generalize hAe : va_A [(a, .inl (ct 0, 958, .inl f)), (b, .inl (ct 0, 958, .inl g))] s.heap.size = A at hD hX ⊢
  have hA : ∀ q : Nat, s.heap.size ≤ q → A q := fun q h => by rw [← hAe]; exact Or.inr h
  have hS : va_S A s.heap s.heap [] := va_S.rf
  have hl := lv_entry ([.ref a, .ref b]) (n := 3) (Nat.le_of_ble_eq_true rfl)
  rw [lg_entry_eq]
  generalize (lg_sl ([.ref a, .ref b]) ++ List.replicate (3 - (lg_sl ([.ref a, .ref b])).length) Slot.unset).toArray = ls at hl ⊢
  have hl : lv_has ls 3 [(0, .ref a), (1, .ref b)] := hl
  refine lv_iconst (v := 0) hx hb dX11_copies_0 (by decide) ?_
  refine lv_istore_n (lv' := [(2, .int 0), (0, .ref a), (1, .ref b)]) hx hb dX11_copies_1 rfl hl (by decide) rfl (fun ls hl => ?_)
  refine cm_loop (N := 958) (I := fun i H locs ls => ∃ (h : Nat → Int32), va_P D vwCl [(a, .inl (ct 0, 958, .inl f)), (b, .inl (ct 0, 958, .inl h))] H ∧ va_D A [(a, .inl (ct 0, 958, .inl f)), (b, .inl (ct 0, 958, .inl h))] ∧ va_S A s.heap H locs ∧ lv_has ls 3 [(0, .ref a), (1, .ref b), (2, .int (nI i))]) ⟨g, hP, hD, hS, (lv_sub hl [1, 2, 0] rfl)⟩ (fun i H locs ls hi hI ih => ?_) (fun H locs ls hI => ?_)
  · obtain ⟨h, hP, hD, hS, hl⟩ := hI
    have hP : va_P D vwCl [(a, .inl (ct 0, 958, .inl f)), (b, .inl (ct 0, 958, .inl h))] H := hP
    have hD : va_D A [(a, .inl (ct 0, 958, .inl f)), (b, .inl (ct 0, 958, .inl h))] := hD
    have hl : lv_has ls 3 [(0, .ref a), (1, .ref b), (2, .int (nI i))] := hl
    refine lv_iload_n hx hb dX11_copies_2 rfl (lv_at hl 2 rfl) ?_
    refine lv_sipush (v := 958) hx hb dX11_copies_3 (by decide) ?_
    refine lv_icmp_ge (tgt := 21) hx hb dX11_copies_6 (by decide) (fun hc => absurd hc (nI_ge hi (by decide))) (fun _ => ?_)
    refine lv_aload_n hx hb dX11_copies_9 rfl (lv_at hl 1 rfl) ?_
    refine lv_iload_n hx hb dX11_copies_10 rfl (lv_at hl 2 rfl) ?_
    refine lv_aload_n hx hb dX11_copies_11 rfl (lv_at hl 0 rfl) ?_
    refine lv_iload_n hx hb dX11_copies_12 rfl (lv_at hl 2 rfl) ?_
    refine va_iald hx hb hK hP 0 0 rfl rfl (vp_in_nI hi (by decide)) dX11_copies_13 ?_
    refine va_iast hx hb hK hP hD hS 1 0 rfl rfl (vp_in_nI hi (by decide)) dX11_copies_14 (fun H locs hP hD hS => ?_)
    have hP : va_P D vwCl [(a, .inl (ct 0, 958, .inl f)), (b, .inl (ct 0, 958, .inl (upd h (nI i).toNatClampNeg (f (nI i).toNatClampNeg))))] H := hP
    have hD : va_D A [(a, .inl (ct 0, 958, .inl f)), (b, .inl (ct 0, 958, .inl (upd h (nI i).toNatClampNeg (f (nI i).toNatClampNeg))))] := hD
    refine lv_iinc (v := (nI (i + 1))) (lv' := [(2, .int (nI (i + 1))), (0, .ref a), (1, .ref b)]) hx hb dX11_copies_15 hl (k := 2) rfl (nI_1 i) (by decide) rfl (fun ls hl => ?_)
    refine lv_goto (tgt := 2) hx hb dX11_copies_18 (by decide) ?_
    exact ih _ _ _ ⟨(upd h (nI i).toNatClampNeg (f (nI i).toNatClampNeg)), hP, hD, hS, (lv_sub hl [1, 2, 0] rfl)⟩
  · obtain ⟨h, hP, hD, hS, hl⟩ := hI
    have hP : va_P D vwCl [(a, .inl (ct 0, 958, .inl f)), (b, .inl (ct 0, 958, .inl h))] H := hP
    have hD : va_D A [(a, .inl (ct 0, 958, .inl f)), (b, .inl (ct 0, 958, .inl h))] := hD
    have hl : lv_has ls 3 [(0, .ref a), (1, .ref b), (2, .int (nI 958))] := hl
    refine lv_iload_n hx hb dX11_copies_2 rfl (lv_at hl 2 rfl) ?_
    refine lv_sipush (v := 958) hx hb dX11_copies_3 (by decide) ?_
    refine lv_icmp_ge (tgt := 21) hx hb dX11_copies_6 (by decide) (fun _ => ?_) (fun hc => absurd (by decide) hc)
    have hP9 := hP.sub (ws' := [(a, .inl (ct 0, 958, .inl f)), (b, .inl (ct 0, 958, .inl h))]) [0, 1] rfl
    have hD9 := hD.sub (ws' := [(a, .inl (ct 0, 958, .inl f)), (b, .inl (ct 0, 958, .inl h))]) [0, 1] (by decide) rfl
    exact W.vret hx hb hr (fun t ht hW => ⟨⟨h, rfl, trivial, by rw [ht]; exact hP9, by rw [hAe]; exact hD9⟩, hS.F ht⟩) hS.2.2 dX11_copies_21
theorem dX11_copiesSums_0 : decode cX11_copiesSums 0 = .ok (.iconst 0, 1) := by decide +kernel
theorem dX11_copiesSums_1 : decode cX11_copiesSums 1 = .ok (.istore_n 2, 1) := by decide +kernel
theorem dX11_copiesSums_2 : decode cX11_copiesSums 2 = .ok (.iload_n 2, 1) := by decide +kernel
theorem dX11_copiesSums_3 : decode cX11_copiesSums 3 = .ok (.bipush 42, 2) := by decide +kernel
theorem dX11_copiesSums_5 : decode cX11_copiesSums 5 = .ok (.if_icmp .ge 15, 3) := by decide +kernel
theorem dX11_copiesSums_8 : decode cX11_copiesSums 8 = .ok (.aload_n 1, 1) := by decide +kernel
theorem dX11_copiesSums_9 : decode cX11_copiesSums 9 = .ok (.iload_n 2, 1) := by decide +kernel
theorem dX11_copiesSums_10 : decode cX11_copiesSums 10 = .ok (.aload_n 0, 1) := by decide +kernel
theorem dX11_copiesSums_11 : decode cX11_copiesSums 11 = .ok (.iload_n 2, 1) := by decide +kernel
theorem dX11_copiesSums_12 : decode cX11_copiesSums 12 = .ok (.laload, 1) := by decide +kernel
theorem dX11_copiesSums_13 : decode cX11_copiesSums 13 = .ok (.lastore, 1) := by decide +kernel
theorem dX11_copiesSums_14 : decode cX11_copiesSums 14 = .ok (.iinc 2 1, 3) := by decide +kernel
theorem dX11_copiesSums_17 : decode cX11_copiesSums 17 = .ok (.goto (-15), 3) := by decide +kernel
theorem dX11_copiesSums_20 : decode cX11_copiesSums 20 = .ok (.return_, 1) := by decide +kernel
set_option maxRecDepth 100000 in
set_option maxHeartbeats 4000000 in
theorem m_copiesSums (l : Launch) (D : va_G) (ct : Nat → ClassId) (a : Nat) (b : Nat) (f : Nat → Int64) (g : Nat → Int64) (sz : Nat) : Met l yX11_copiesSums (ws_ yX11_copiesSums cX11_copiesSums 3 none) ({ frames := 0, cells := 0, slots := 0, locals := 0 } : Room) (va_Pc [.ref a, .ref b] (cmP D ct sz [(a, .inl (ct 1, 42, .inr (.inl f))), (b, .inl (ct 1, 42, .inr (.inl g)))])) (va_Qv (fun (h : (Nat → Int64)) => True) (cmB D [(a, .inl (ct 1, 42, .inr (.inl f))), (b, .inl (ct 1, 42, .inr (.inl g)))] sz (fun h : (Nat → Int64) => [(a, .inl (ct 1, 42, .inr (.inl f))), (b, .inl (ct 1, 42, .inr (.inl h)))])) (va_A [(a, .inl (ct 1, 42, .inr (.inl f))), (b, .inl (ct 1, 42, .inr (.inl g)))] sz)) 0 0 (va_A [(a, .inl (ct 1, 42, .inr (.inl f))), (b, .inl (ct 1, 42, .inr (.inl g)))] sz) := by
  refine Met.ofW (cc := cX11_copiesSums) (maxL := 3) (ret := none) (by decide) rfl ?_
  intro p e s m args below meth c s₁ B hml hv
  obtain ⟨rfl, hsz, hP, hK, hD0, hX⟩ := hv
  have hx := B.exec
  have hb := B.bytes
  have hr := B.returns
  have hts := ws_all (atoms_spec (ws := ws_ yX11_copiesSums cX11_copiesSums 3 none) B.pre)
  have hown : s.vm.findClass RX11 = some m.cls := findClass_of_methodNamed B.named
  have hlocks := B.notSynchronized
  subst hsz
  have hD := hD0.self (sz := s.heap.size)
  generalize hAe : va_A [(a, .inl (ct 1, 42, .inr (.inl f))), (b, .inl (ct 1, 42, .inr (.inl g)))] s.heap.size = A at hD hX ⊢
  have hA : ∀ q : Nat, s.heap.size ≤ q → A q := fun q h => by rw [← hAe]; exact Or.inr h
  have hS : va_S A s.heap s.heap [] := va_S.rf
  have hl := lv_entry ([.ref a, .ref b]) (n := 3) (Nat.le_of_ble_eq_true rfl)
  rw [lg_entry_eq]
  generalize (lg_sl ([.ref a, .ref b]) ++ List.replicate (3 - (lg_sl ([.ref a, .ref b])).length) Slot.unset).toArray = ls at hl ⊢
  have hl : lv_has ls 3 [(0, .ref a), (1, .ref b)] := hl
  refine lv_iconst (v := 0) hx hb dX11_copiesSums_0 (by decide) ?_
  refine lv_istore_n (lv' := [(2, .int 0), (0, .ref a), (1, .ref b)]) hx hb dX11_copiesSums_1 rfl hl (by decide) rfl (fun ls hl => ?_)
  refine cm_loop (N := 42) (I := fun i H locs ls => ∃ (h : Nat → Int64), va_P D vwCl [(a, .inl (ct 1, 42, .inr (.inl f))), (b, .inl (ct 1, 42, .inr (.inl h)))] H ∧ va_D A [(a, .inl (ct 1, 42, .inr (.inl f))), (b, .inl (ct 1, 42, .inr (.inl h)))] ∧ va_S A s.heap H locs ∧ lv_has ls 3 [(0, .ref a), (1, .ref b), (2, .int (nI i))]) ⟨g, hP, hD, hS, (lv_sub hl [1, 2, 0] rfl)⟩ (fun i H locs ls hi hI ih => ?_) (fun H locs ls hI => ?_)
  · obtain ⟨h, hP, hD, hS, hl⟩ := hI
    have hP : va_P D vwCl [(a, .inl (ct 1, 42, .inr (.inl f))), (b, .inl (ct 1, 42, .inr (.inl h)))] H := hP
    have hD : va_D A [(a, .inl (ct 1, 42, .inr (.inl f))), (b, .inl (ct 1, 42, .inr (.inl h)))] := hD
    have hl : lv_has ls 3 [(0, .ref a), (1, .ref b), (2, .int (nI i))] := hl
    refine lv_iload_n hx hb dX11_copiesSums_2 rfl (lv_at hl 2 rfl) ?_
    refine lv_bipush (v := 42) hx hb dX11_copiesSums_3 (by decide) ?_
    refine lv_icmp_ge (tgt := 20) hx hb dX11_copiesSums_5 (by decide) (fun hc => absurd hc (nI_ge hi (by decide))) (fun _ => ?_)
    refine lv_aload_n hx hb dX11_copiesSums_8 rfl (lv_at hl 1 rfl) ?_
    refine lv_iload_n hx hb dX11_copiesSums_9 rfl (lv_at hl 2 rfl) ?_
    refine lv_aload_n hx hb dX11_copiesSums_10 rfl (lv_at hl 0 rfl) ?_
    refine lv_iload_n hx hb dX11_copiesSums_11 rfl (lv_at hl 2 rfl) ?_
    refine va_lald hx hb hK hP 0 1 rfl rfl (vp_in_nI hi (by decide)) dX11_copiesSums_12 ?_
    refine va_last hx hb hK hP hD hS 1 1 rfl rfl (vp_in_nI hi (by decide)) dX11_copiesSums_13 (fun H locs hP hD hS => ?_)
    have hP : va_P D vwCl [(a, .inl (ct 1, 42, .inr (.inl f))), (b, .inl (ct 1, 42, .inr (.inl (vp_updL h (nI i).toNatClampNeg (f (nI i).toNatClampNeg)))))] H := hP
    have hD : va_D A [(a, .inl (ct 1, 42, .inr (.inl f))), (b, .inl (ct 1, 42, .inr (.inl (vp_updL h (nI i).toNatClampNeg (f (nI i).toNatClampNeg)))))] := hD
    refine lv_iinc (v := (nI (i + 1))) (lv' := [(2, .int (nI (i + 1))), (0, .ref a), (1, .ref b)]) hx hb dX11_copiesSums_14 hl (k := 2) rfl (nI_1 i) (by decide) rfl (fun ls hl => ?_)
    refine lv_goto (tgt := 2) hx hb dX11_copiesSums_17 (by decide) ?_
    exact ih _ _ _ ⟨(vp_updL h (nI i).toNatClampNeg (f (nI i).toNatClampNeg)), hP, hD, hS, (lv_sub hl [1, 2, 0] rfl)⟩
  · obtain ⟨h, hP, hD, hS, hl⟩ := hI
    have hP : va_P D vwCl [(a, .inl (ct 1, 42, .inr (.inl f))), (b, .inl (ct 1, 42, .inr (.inl h)))] H := hP
    have hD : va_D A [(a, .inl (ct 1, 42, .inr (.inl f))), (b, .inl (ct 1, 42, .inr (.inl h)))] := hD
    have hl : lv_has ls 3 [(0, .ref a), (1, .ref b), (2, .int (nI 42))] := hl
    refine lv_iload_n hx hb dX11_copiesSums_2 rfl (lv_at hl 2 rfl) ?_
    refine lv_bipush (v := 42) hx hb dX11_copiesSums_3 (by decide) ?_
    refine lv_icmp_ge (tgt := 20) hx hb dX11_copiesSums_5 (by decide) (fun _ => ?_) (fun hc => absurd (by decide) hc)
    have hP9 := hP.sub (ws' := [(a, .inl (ct 1, 42, .inr (.inl f))), (b, .inl (ct 1, 42, .inr (.inl h)))]) [0, 1] rfl
    have hD9 := hD.sub (ws' := [(a, .inl (ct 1, 42, .inr (.inl f))), (b, .inl (ct 1, 42, .inr (.inl h)))]) [0, 1] (by decide) rfl
    exact W.vret hx hb hr (fun t ht hW => ⟨⟨h, rfl, trivial, by rw [ht]; exact hP9, by rw [hAe]; exact hD9⟩, hS.F ht⟩) hS.2.2 dX11_copiesSums_20
theorem dX11_noSlot_0 : decode cX11_noSlot 0 = .ok (.aload_n 0, 1) := by decide +kernel
theorem dX11_noSlot_1 : decode cX11_noSlot 1 = .ok (.iconst 0, 1) := by decide +kernel
theorem dX11_noSlot_2 : decode cX11_noSlot 2 = .ok (.putfield 49, 3) := by decide +kernel
theorem dX11_noSlot_5 : decode cX11_noSlot 5 = .ok (.aload_n 0, 1) := by decide +kernel
theorem dX11_noSlot_6 : decode cX11_noSlot 6 = .ok (.iload_n 1, 1) := by decide +kernel
theorem dX11_noSlot_7 : decode cX11_noSlot 7 = .ok (.i2l, 1) := by decide +kernel
theorem dX11_noSlot_8 : decode cX11_noSlot 8 = .ok (.lconst 0, 1) := by decide +kernel
theorem dX11_noSlot_9 : decode cX11_noSlot 9 = .ok (.lconst 1, 1) := by decide +kernel
theorem dX11_noSlot_10 : decode cX11_noSlot 10 = .ok (.invokestatic 70, 3) := by decide +kernel
theorem dX11_noSlot_13 : decode cX11_noSlot 13 = .ok (.ifCond .ne 7, 3) := by decide +kernel
theorem dX11_noSlot_16 : decode cX11_noSlot 16 = .ok (.iconst 1, 1) := by decide +kernel
theorem dX11_noSlot_17 : decode cX11_noSlot 17 = .ok (.goto 4, 3) := by decide +kernel
theorem dX11_noSlot_20 : decode cX11_noSlot 20 = .ok (.iconst 0, 1) := by decide +kernel
theorem dX11_noSlot_21 : decode cX11_noSlot 21 = .ok (.iconst 1, 1) := by decide +kernel
theorem dX11_noSlot_22 : decode cX11_noSlot 22 = .ok (.invokevirtual 328, 3) := by decide +kernel
theorem dX11_noSlot_25 : decode cX11_noSlot 25 = .ok (.ireturn, 1) := by decide +kernel
set_option maxRecDepth 100000 in
set_option maxHeartbeats 4000000 in
theorem m_noSlot (l : Launch) (D : va_G) (ct : Nat → ClassId) (mo : Nat) (mw : Nat) (ma : Nat) (mf : Nat) (m0 : Nat) (m1 : Nat) (mu : Nat) (mv : Nat) (u0 : Nat) (u1 : Nat) (iz : Nat) (mb : Nat) (c1 : Int32) (sz : Nat) : Met l yX11_noSlot (ws_ yX11_noSlot cX11_noSlot 2 (some .boolean)) ({ frames := 1, cells := 0, slots := 0, locals := 25 } : Room) (va_Pc [.ref mo, .int c1] (cmP D ct sz [(mo, .inr (11, [.ref mw, .ref ma, .ref mf, .ref m0, .ref m1, .ref mu, .ref mv, .ref u0, .ref u1, .ref iz, .int 0, .ref mb, .int 0, .int 0, .int 0, .int 0, .int 0, .int 0, .int 0]))])) (va_Qi (fun (r : Int32) (th : Int32) => (th = 0 ∧ (0 ≤ c1 ∧ c1 ≤ 1) ∧ r = 0) ∨ (th = 1 ∧ (c1 < 0 ∨ 1 < c1) ∧ r = 1)) (cmB D [(mo, .inr (11, [.ref mw, .ref ma, .ref mf, .ref m0, .ref m1, .ref mu, .ref mv, .ref u0, .ref u1, .ref iz, .int 0, .ref mb, .int 0, .int 0, .int 0, .int 0, .int 0, .int 0, .int 0]))] sz (fun th : Int32 => [(mo, .inr (11, [.ref mw, .ref ma, .ref mf, .ref m0, .ref m1, .ref mu, .ref mv, .ref u0, .ref u1, .ref iz, .int th, .ref mb, .int 0, .int 0, .int 0, .int 0, .int 0, .int 0, .int 0]))])) (va_A [(mo, .inr (11, [.ref mw, .ref ma, .ref mf, .ref m0, .ref m1, .ref mu, .ref mv, .ref u0, .ref u1, .ref iz, .int 0, .ref mb, .int 0, .int 0, .int 0, .int 0, .int 0, .int 0, .int 0]))] sz)) 0 0 (va_A [(mo, .inr (11, [.ref mw, .ref ma, .ref mf, .ref m0, .ref m1, .ref mu, .ref mv, .ref u0, .ref u1, .ref iz, .int 0, .ref mb, .int 0, .int 0, .int 0, .int 0, .int 0, .int 0, .int 0]))] sz) := by
  refine Met.ofW (cc := cX11_noSlot) (maxL := 2) (ret := (some .boolean)) (by decide) rfl ?_
  intro p e s m args below meth c s₁ B hml hv
  obtain ⟨rfl, hsz, hP, hK, hD0, hX⟩ := hv
  have hx := B.exec
  have hb := B.bytes
  have hr := B.returns
  have hts := ws_all (atoms_spec (ws := ws_ yX11_noSlot cX11_noSlot 2 (some .boolean)) B.pre)
  have hown : s.vm.findClass RX11 = some m.cls := findClass_of_methodNamed B.named
  have hlocks := B.notSynchronized
  subst hsz
  have hD := hD0.self (sz := s.heap.size)
  generalize hAe : va_A [(mo, .inr (11, [.ref mw, .ref ma, .ref mf, .ref m0, .ref m1, .ref mu, .ref mv, .ref u0, .ref u1, .ref iz, .int 0, .ref mb, .int 0, .int 0, .int 0, .int 0, .int 0, .int 0, .int 0]))] s.heap.size = A at hD hX ⊢
  have hA : ∀ q : Nat, s.heap.size ≤ q → A q := fun q h => by rw [← hAe]; exact Or.inr h
  have hS : va_S A s.heap s.heap [] := va_S.rf
  have hl := lv_entry ([.ref mo, .int c1]) (n := 2) (Nat.le_of_ble_eq_true rfl)
  rw [lg_entry_eq]
  generalize (lg_sl ([.ref mo, .int c1]) ++ List.replicate (2 - (lg_sl ([.ref mo, .int c1])).length) Slot.unset).toArray = ls at hl ⊢
  have hl : lv_has ls 2 [(0, .ref mo), (1, .int c1)] := hl
  refine lv_aload_n hx hb dX11_noSlot_0 rfl (lv_at hl 0 rfl) ?_
  refine lv_iconst (v := 0) hx hb dX11_noSlot_1 (by decide) ?_
  refine va_put (v := .int 0) (ty := .int) (D := D) (ci := 11) (C := RX11) (T := TX11) (N := 19) hx hb hts in_X11 tyX11 tyX11_ok nmX11 hown hK hP hD hS 0 rfl rfl 10 (by decide) (hts _ kl_RX11_49) (fun _ h9 => h9) rfl (by decide +kernel) rfl rfl (Nat.le_of_ble_eq_true rfl) dX11_noSlot_2 (fun H locs hP hD hS => ?_)
  have hP : va_P D vwCl [(mo, .inr (11, [.ref mw, .ref ma, .ref mf, .ref m0, .ref m1, .ref mu, .ref mv, .ref u0, .ref u1, .ref iz, .int 0, .ref mb, .int 0, .int 0, .int 0, .int 0, .int 0, .int 0, .int 0]))] H := hP
  have hD : va_D A [(mo, .inr (11, [.ref mw, .ref ma, .ref mf, .ref m0, .ref m1, .ref mu, .ref mv, .ref u0, .ref u1, .ref iz, .int 0, .ref mb, .int 0, .int 0, .int 0, .int 0, .int 0, .int 0, .int 0]))] := hD
  refine lv_aload_n hx hb dX11_noSlot_5 rfl (lv_at hl 0 rfl) ?_
  refine lv_iload_n hx hb dX11_noSlot_6 rfl (lv_at hl 1 rfl) ?_
  refine lv_i2l hx hb dX11_noSlot_7 rfl ?_
  refine lv_lconst (v := 0) hx hb dX11_noSlot_8 (by decide) ?_
  refine lv_lconst (v := 1) hx hb dX11_noSlot_9 (by decide) ?_
  refine cm_ki (wr := [(mo, .inr (11, [.ref mw, .ref ma, .ref mf, .ref m0, .ref m1, .ref mu, .ref mv, .ref u0, .ref u1, .ref iz, .int 0, .ref mb, .int 0, .int 0, .int 0, .int 0, .int 0, .int 0, .int 0]))]) (va_runS (As := [.long c1.toInt64, .long 0, .long 1]) (rest := [.ref mo]) ⟨hx, hb, hml, hown, hts⟩ (m_in l D ct c1.toInt64 0 1 _) (cm_S 3 hts kc_X11_in ki_RX11 kl_RX11_70 ks_X11_in kd_X11_in ⟨Nat.le_of_ble_eq_true rfl, Nat.le_of_ble_eq_true rfl⟩) (cm_preS hP hK hD hS hA hX [] rfl rfl rfl) rfl rfl hl.1 rfl (lv_room (Nat.le_of_ble_eq_true rfl)) dX11_noSlot_10 ⟨Nat.le_of_ble_eq_true rfl, Nat.le_of_ble_eq_true rfl⟩) hP hD hS hA [] [0] rfl rfl rfl (by decide) (fun r_1 u H locs hw_2 hP hD hS => ?_)
  have hw_2 : r_1 = (cm_rng c1.toInt64 0 1) := hw_2
  obtain rfl := hw_2
  have hP : va_P D vwCl [(mo, .inr (11, [.ref mw, .ref ma, .ref mf, .ref m0, .ref m1, .ref mu, .ref mv, .ref u0, .ref u1, .ref iz, .int 0, .ref mb, .int 0, .int 0, .int 0, .int 0, .int 0, .int 0, .int 0]))] H := hP
  have hD : va_D A [(mo, .inr (11, [.ref mw, .ref ma, .ref mf, .ref m0, .ref m1, .ref mu, .ref mv, .ref u0, .ref u1, .ref iz, .int 0, .ref mb, .int 0, .int 0, .int 0, .int 0, .int 0, .int 0, .int 0]))] := hD
  refine lv_if_ne (tgt := 20) hx hb dX11_noSlot_13 (by decide) (fun hc_3 => ?_) (fun hc_3 => ?_)
  · refine lv_iconst (v := 0) hx hb dX11_noSlot_20 (by decide) ?_
    refine lv_iconst (v := 1) hx hb dX11_noSlot_21 (by decide) ?_
    refine cm_ki (wr := []) (va_runV (As := [.int 0, .int 1]) (rest := []) ⟨hx, hb, hml, hown, hts⟩ (m_throwsIf_01 l D ct mo mw ma mf m0 m1 mu mv u0 u1 iz mb _) (cm_V 2 hts kc_X11_throwsIf ki_RX11 kl_RX11_328 kv_X11_throwsIf kx_X11_throwsIf kd_X11_throwsIf ⟨Nat.le_of_ble_eq_true rfl, Nat.le_of_ble_eq_true rfl⟩) (cm_preV hP hK hD hS hA hX [0] rfl rfl rfl (q0 := 0) (ci := 11) rfl rfl) rfl rfl hl.1 rfl (lv_room (Nat.le_of_ble_eq_true rfl)) dX11_noSlot_22 ⟨Nat.le_of_ble_eq_true rfl, Nat.le_of_ble_eq_true rfl⟩) hP hD hS hA [0] [] rfl rfl rfl (by decide) (fun r_4 u H locs hw_5 hP hD hS => ?_)
    have hw_5 : r_4 = 0 := hw_5
    obtain rfl := hw_5
    have hP : va_P D vwCl [(mo, .inr (11, [.ref mw, .ref ma, .ref mf, .ref m0, .ref m1, .ref mu, .ref mv, .ref u0, .ref u1, .ref iz, .int 0, .ref mb, .int 0, .int 0, .int 0, .int 0, .int 0, .int 0, .int 0]))] H := hP
    have hD : va_D A [(mo, .inr (11, [.ref mw, .ref ma, .ref mf, .ref m0, .ref m1, .ref mu, .ref mv, .ref u0, .ref u1, .ref iz, .int 0, .ref mb, .int 0, .int 0, .int 0, .int 0, .int 0, .int 0, .int 0]))] := hD
    have hP9 := hP.sub (ws' := [(mo, .inr (11, [.ref mw, .ref ma, .ref mf, .ref m0, .ref m1, .ref mu, .ref mv, .ref u0, .ref u1, .ref iz, .int 0, .ref mb, .int 0, .int 0, .int 0, .int 0, .int 0, .int 0, .int 0]))]) [0] rfl
    have hD9 := hD.sub (ws' := [(mo, .inr (11, [.ref mw, .ref ma, .ref mf, .ref m0, .ref m1, .ref mu, .ref mv, .ref u0, .ref u1, .ref iz, .int 0, .ref mb, .int 0, .int 0, .int 0, .int 0, .int 0, .int 0, .int 0]))]) [0] (by decide) rfl
    exact W.zret (v := 0) hx hb hr (by decide) (fun t ht hW => ⟨⟨0, 0, rfl, (Or.inl ⟨rfl, cm_inT2 (by decide) (by decide) hc_3, rfl⟩), by rw [ht]; exact hP9, by rw [hAe]; exact hD9⟩, hS.F ht⟩) hS.2.2 dX11_noSlot_25
  · refine lv_iconst (v := 1) hx hb dX11_noSlot_16 (by decide) ?_
    refine lv_goto (tgt := 21) hx hb dX11_noSlot_17 (by decide) ?_
    refine lv_iconst (v := 1) hx hb dX11_noSlot_21 (by decide) ?_
    refine cm_ki (wr := []) (va_runV (As := [.int 1, .int 1]) (rest := []) ⟨hx, hb, hml, hown, hts⟩ (m_throwsIf_11 l D ct mo mw ma mf m0 m1 mu mv u0 u1 iz mb _) (cm_V 2 hts kc_X11_throwsIf ki_RX11 kl_RX11_328 kv_X11_throwsIf kx_X11_throwsIf kd_X11_throwsIf ⟨Nat.le_of_ble_eq_true rfl, Nat.le_of_ble_eq_true rfl⟩) (cm_preV hP hK hD hS hA hX [0] rfl rfl rfl (q0 := 0) (ci := 11) rfl rfl) rfl rfl hl.1 rfl (lv_room (Nat.le_of_ble_eq_true rfl)) dX11_noSlot_22 ⟨Nat.le_of_ble_eq_true rfl, Nat.le_of_ble_eq_true rfl⟩) hP hD hS hA [0] [] rfl rfl rfl (by decide) (fun r_6 u H locs hw_7 hP hD hS => ?_)
    have hw_7 : r_6 = 1 := hw_7
    obtain rfl := hw_7
    have hP : va_P D vwCl [(mo, .inr (11, [.ref mw, .ref ma, .ref mf, .ref m0, .ref m1, .ref mu, .ref mv, .ref u0, .ref u1, .ref iz, .int 1, .ref mb, .int 0, .int 0, .int 0, .int 0, .int 0, .int 0, .int 0]))] H := hP
    have hD : va_D A [(mo, .inr (11, [.ref mw, .ref ma, .ref mf, .ref m0, .ref m1, .ref mu, .ref mv, .ref u0, .ref u1, .ref iz, .int 1, .ref mb, .int 0, .int 0, .int 0, .int 0, .int 0, .int 0, .int 0]))] := hD
    have hP9 := hP.sub (ws' := [(mo, .inr (11, [.ref mw, .ref ma, .ref mf, .ref m0, .ref m1, .ref mu, .ref mv, .ref u0, .ref u1, .ref iz, .int 1, .ref mb, .int 0, .int 0, .int 0, .int 0, .int 0, .int 0, .int 0]))]) [0] rfl
    have hD9 := hD.sub (ws' := [(mo, .inr (11, [.ref mw, .ref ma, .ref mf, .ref m0, .ref m1, .ref mu, .ref mv, .ref u0, .ref u1, .ref iz, .int 1, .ref mb, .int 0, .int 0, .int 0, .int 0, .int 0, .int 0, .int 0]))]) [0] (by decide) rfl
    exact W.zret (v := 1) hx hb hr (by decide) (fun t ht hW => ⟨⟨1, 1, rfl, (Or.inr ⟨rfl, cm_inF (by decide) (by decide) hc_3, rfl⟩), by rw [ht]; exact hP9, by rw [hAe]; exact hD9⟩, hS.F ht⟩) hS.2.2 dX11_noSlot_25
theorem dX11_saveSnapshot_0 : decode cX11_saveSnapshot 0 = .ok (.aload_n 0, 1) := by decide +kernel
theorem dX11_saveSnapshot_1 : decode cX11_saveSnapshot 1 = .ok (.iload_n 1, 1) := by decide +kernel
theorem dX11_saveSnapshot_2 : decode cX11_saveSnapshot 2 = .ok (.invokevirtual 402, 3) := by decide +kernel
theorem dX11_saveSnapshot_5 : decode cX11_saveSnapshot 5 = .ok (.ifCond .eq 5, 3) := by decide +kernel
theorem dX11_saveSnapshot_8 : decode cX11_saveSnapshot 8 = .ok (.iconst 0, 1) := by decide +kernel
theorem dX11_saveSnapshot_9 : decode cX11_saveSnapshot 9 = .ok (.ireturn, 1) := by decide +kernel
theorem dX11_saveSnapshot_10 : decode cX11_saveSnapshot 10 = .ok (.aload_n 0, 1) := by decide +kernel
theorem dX11_saveSnapshot_11 : decode cX11_saveSnapshot 11 = .ok (.getfield 9, 3) := by decide +kernel
theorem dX11_saveSnapshot_14 : decode cX11_saveSnapshot 14 = .ok (.iload_n 1, 1) := by decide +kernel
theorem dX11_saveSnapshot_15 : decode cX11_saveSnapshot 15 = .ok (.ifCond .ne 10, 3) := by decide +kernel
theorem dX11_saveSnapshot_18 : decode cX11_saveSnapshot 18 = .ok (.aload_n 0, 1) := by decide +kernel
theorem dX11_saveSnapshot_19 : decode cX11_saveSnapshot 19 = .ok (.getfield 19, 3) := by decide +kernel
theorem dX11_saveSnapshot_22 : decode cX11_saveSnapshot 22 = .ok (.goto 7, 3) := by decide +kernel
theorem dX11_saveSnapshot_25 : decode cX11_saveSnapshot 25 = .ok (.aload_n 0, 1) := by decide +kernel
theorem dX11_saveSnapshot_26 : decode cX11_saveSnapshot 26 = .ok (.getfield 22, 3) := by decide +kernel
theorem dX11_saveSnapshot_29 : decode cX11_saveSnapshot 29 = .ok (.invokestatic 205, 3) := by decide +kernel
theorem dX11_saveSnapshot_32 : decode cX11_saveSnapshot 32 = .ok (.aload_n 0, 1) := by decide +kernel
theorem dX11_saveSnapshot_33 : decode cX11_saveSnapshot 33 = .ok (.getfield 25, 3) := by decide +kernel
theorem dX11_saveSnapshot_36 : decode cX11_saveSnapshot 36 = .ok (.iload_n 1, 1) := by decide +kernel
theorem dX11_saveSnapshot_37 : decode cX11_saveSnapshot 37 = .ok (.ifCond .ne 10, 3) := by decide +kernel
theorem dX11_saveSnapshot_40 : decode cX11_saveSnapshot 40 = .ok (.aload_n 0, 1) := by decide +kernel
theorem dX11_saveSnapshot_41 : decode cX11_saveSnapshot 41 = .ok (.getfield 32, 3) := by decide +kernel
theorem dX11_saveSnapshot_44 : decode cX11_saveSnapshot 44 = .ok (.goto 7, 3) := by decide +kernel
theorem dX11_saveSnapshot_47 : decode cX11_saveSnapshot 47 = .ok (.aload_n 0, 1) := by decide +kernel
theorem dX11_saveSnapshot_48 : decode cX11_saveSnapshot 48 = .ok (.getfield 35, 3) := by decide +kernel
theorem dX11_saveSnapshot_51 : decode cX11_saveSnapshot 51 = .ok (.invokestatic 375, 3) := by decide +kernel
theorem dX11_saveSnapshot_54 : decode cX11_saveSnapshot 54 = .ok (.aload_n 0, 1) := by decide +kernel
theorem dX11_saveSnapshot_55 : decode cX11_saveSnapshot 55 = .ok (.getfield 38, 3) := by decide +kernel
theorem dX11_saveSnapshot_58 : decode cX11_saveSnapshot 58 = .ok (.iload_n 1, 1) := by decide +kernel
theorem dX11_saveSnapshot_59 : decode cX11_saveSnapshot 59 = .ok (.iconst 1, 1) := by decide +kernel
theorem dX11_saveSnapshot_60 : decode cX11_saveSnapshot 60 = .ok (.bastore, 1) := by decide +kernel
theorem dX11_saveSnapshot_61 : decode cX11_saveSnapshot 61 = .ok (.aload_n 0, 1) := by decide +kernel
theorem dX11_saveSnapshot_62 : decode cX11_saveSnapshot 62 = .ok (.getfield 9, 3) := by decide +kernel
theorem dX11_saveSnapshot_65 : decode cX11_saveSnapshot 65 = .ok (.bipush 8, 2) := by decide +kernel
theorem dX11_saveSnapshot_67 : decode cX11_saveSnapshot 67 = .ok (.iaload, 1) := by decide +kernel
theorem dX11_saveSnapshot_68 : decode cX11_saveSnapshot 68 = .ok (.ireturn, 1) := by decide +kernel
set_option maxRecDepth 100000 in
set_option maxHeartbeats 4000000 in
theorem m_saveSnapshot_0 (l : Launch) (D : va_G) (ct : Nat → ClassId) (mo : Nat) (mw : Nat) (ma : Nat) (mf : Nat) (m0 : Nat) (m1 : Nat) (mu : Nat) (mv : Nat) (u0 : Nat) (u1 : Nat) (iz : Nat) (mb : Nat) (p1 : Int32) (sz : Nat) : Met l yX11_saveSnapshot (ws_ yX11_saveSnapshot cX11_saveSnapshot 2 (some .int)) ({ frames := 2, cells := 0, slots := 0, locals := 46 } : Room) (va_Pc [.ref mo, .int p1] (cmP D ct sz [(mo, .inr (11, [.ref mw, .ref ma, .ref mf, .ref m0, .ref m1, .ref mu, .ref mv, .ref u0, .ref u1, .ref iz, .int 0, .ref mb, .int 0, .int 0, .int 0, .int 0, .int 0, .int 0, .int 0])), (mw, .inl (ct 0, 958, .inl m_w0)), (m0, .inl (ct 0, 958, .inl (fun _ => 0))), (m1, .inl (ct 0, 958, .inl (fun _ => 0))), (mu, .inl (ct 1, 42, .inr (.inl (fun _ => 0)))), (u0, .inl (ct 1, 42, .inr (.inl (fun _ => 0)))), (u1, .inl (ct 1, 42, .inr (.inl (fun _ => 0)))), (iz, .inl (ct 2, 2, .inl (fun _ => 0)))])) (va_Qi (fun (r : Int32) (th : Int32) => (th = 0 ∧ (0 ≤ p1 ∧ p1 ≤ 1) ∧ r = 0) ∨ (th = 1 ∧ (p1 < 0 ∨ 1 < p1))) (cmB D [(mo, .inr (11, [.ref mw, .ref ma, .ref mf, .ref m0, .ref m1, .ref mu, .ref mv, .ref u0, .ref u1, .ref iz, .int 0, .ref mb, .int 0, .int 0, .int 0, .int 0, .int 0, .int 0, .int 0])), (mw, .inl (ct 0, 958, .inl m_w0)), (m0, .inl (ct 0, 958, .inl (fun _ => 0))), (m1, .inl (ct 0, 958, .inl (fun _ => 0))), (mu, .inl (ct 1, 42, .inr (.inl (fun _ => 0)))), (u0, .inl (ct 1, 42, .inr (.inl (fun _ => 0)))), (u1, .inl (ct 1, 42, .inr (.inl (fun _ => 0)))), (iz, .inl (ct 2, 2, .inl (fun _ => 0)))] sz (fun th : Int32 => [(mo, .inr (11, [.ref mw, .ref ma, .ref mf, .ref m0, .ref m1, .ref mu, .ref mv, .ref u0, .ref u1, .ref iz, .int th, .ref mb, .int 0, .int 0, .int 0, .int 0, .int 0, .int 0, .int 0]))])) (va_A [(mo, .inr (11, [.ref mw, .ref ma, .ref mf, .ref m0, .ref m1, .ref mu, .ref mv, .ref u0, .ref u1, .ref iz, .int 0, .ref mb, .int 0, .int 0, .int 0, .int 0, .int 0, .int 0, .int 0])), (mw, .inl (ct 0, 958, .inl m_w0)), (m0, .inl (ct 0, 958, .inl (fun _ => 0))), (m1, .inl (ct 0, 958, .inl (fun _ => 0))), (mu, .inl (ct 1, 42, .inr (.inl (fun _ => 0)))), (u0, .inl (ct 1, 42, .inr (.inl (fun _ => 0)))), (u1, .inl (ct 1, 42, .inr (.inl (fun _ => 0)))), (iz, .inl (ct 2, 2, .inl (fun _ => 0)))] sz)) 0 0 (va_A [(mo, .inr (11, [.ref mw, .ref ma, .ref mf, .ref m0, .ref m1, .ref mu, .ref mv, .ref u0, .ref u1, .ref iz, .int 0, .ref mb, .int 0, .int 0, .int 0, .int 0, .int 0, .int 0, .int 0])), (mw, .inl (ct 0, 958, .inl m_w0)), (m0, .inl (ct 0, 958, .inl (fun _ => 0))), (m1, .inl (ct 0, 958, .inl (fun _ => 0))), (mu, .inl (ct 1, 42, .inr (.inl (fun _ => 0)))), (u0, .inl (ct 1, 42, .inr (.inl (fun _ => 0)))), (u1, .inl (ct 1, 42, .inr (.inl (fun _ => 0)))), (iz, .inl (ct 2, 2, .inl (fun _ => 0)))] sz) := by
  refine Met.ofW (cc := cX11_saveSnapshot) (maxL := 2) (ret := (some .int)) (by decide) rfl ?_
  intro p e s m args below meth c s₁ B hml hv
  obtain ⟨rfl, hsz, hP, hK, hD0, hX⟩ := hv
  have hx := B.exec
  have hb := B.bytes
  have hr := B.returns
  have hts := ws_all (atoms_spec (ws := ws_ yX11_saveSnapshot cX11_saveSnapshot 2 (some .int)) B.pre)
  have hown : s.vm.findClass RX11 = some m.cls := findClass_of_methodNamed B.named
  have hlocks := B.notSynchronized
  subst hsz
  have hD := hD0.self (sz := s.heap.size)
  generalize hAe : va_A [(mo, .inr (11, [.ref mw, .ref ma, .ref mf, .ref m0, .ref m1, .ref mu, .ref mv, .ref u0, .ref u1, .ref iz, .int 0, .ref mb, .int 0, .int 0, .int 0, .int 0, .int 0, .int 0, .int 0])), (mw, .inl (ct 0, 958, .inl m_w0)), (m0, .inl (ct 0, 958, .inl (fun _ => 0))), (m1, .inl (ct 0, 958, .inl (fun _ => 0))), (mu, .inl (ct 1, 42, .inr (.inl (fun _ => 0)))), (u0, .inl (ct 1, 42, .inr (.inl (fun _ => 0)))), (u1, .inl (ct 1, 42, .inr (.inl (fun _ => 0)))), (iz, .inl (ct 2, 2, .inl (fun _ => 0)))] s.heap.size = A at hD hX ⊢
  have hA : ∀ q : Nat, s.heap.size ≤ q → A q := fun q h => by rw [← hAe]; exact Or.inr h
  have hS : va_S A s.heap s.heap [] := va_S.rf
  have hl := lv_entry ([.ref mo, .int p1]) (n := 2) (Nat.le_of_ble_eq_true rfl)
  rw [lg_entry_eq]
  generalize (lg_sl ([.ref mo, .int p1]) ++ List.replicate (2 - (lg_sl ([.ref mo, .int p1])).length) Slot.unset).toArray = ls at hl ⊢
  have hl : lv_has ls 2 [(0, .ref mo), (1, .int p1)] := hl
  refine lv_aload_n hx hb dX11_saveSnapshot_0 rfl (lv_at hl 0 rfl) ?_
  refine lv_iload_n hx hb dX11_saveSnapshot_1 rfl (lv_at hl 1 rfl) ?_
  refine cm_ki (wr := [(mw, .inl (ct 0, 958, .inl m_w0)), (m0, .inl (ct 0, 958, .inl (fun _ => 0))), (m1, .inl (ct 0, 958, .inl (fun _ => 0))), (mu, .inl (ct 1, 42, .inr (.inl (fun _ => 0)))), (u0, .inl (ct 1, 42, .inr (.inl (fun _ => 0)))), (u1, .inl (ct 1, 42, .inr (.inl (fun _ => 0)))), (iz, .inl (ct 2, 2, .inl (fun _ => 0)))]) (va_runV (As := [.int p1]) (rest := []) ⟨hx, hb, hml, hown, hts⟩ (m_noSlot l D ct mo mw ma mf m0 m1 mu mv u0 u1 iz mb p1 _) (cm_V 1 hts kc_X11_noSlot ki_RX11 kl_RX11_402 kv_X11_noSlot kx_X11_noSlot kd_X11_noSlot ⟨Nat.le_of_ble_eq_true rfl, Nat.le_of_ble_eq_true rfl⟩) (cm_preV hP hK hD hS hA hX [0] rfl rfl rfl (q0 := 0) (ci := 11) rfl rfl) rfl rfl hl.1 rfl (lv_room (Nat.le_of_ble_eq_true rfl)) dX11_saveSnapshot_2 ⟨Nat.le_of_ble_eq_true rfl, Nat.le_of_ble_eq_true rfl⟩) hP hD hS hA [0] [1, 2, 3, 4, 5, 6, 7] rfl rfl rfl (by decide) (fun r_1 u H locs hw_2 hP hD hS => ?_)
  obtain ⟨th_3, rfl⟩ : ∃ z, z = u := ⟨_, rfl⟩
  have hw_2 : (th_3 = 0 ∧ (0 ≤ p1 ∧ p1 ≤ 1) ∧ r_1 = 0) ∨ (th_3 = 1 ∧ (p1 < 0 ∨ 1 < p1) ∧ r_1 = 1) := hw_2
  have hP : va_P D vwCl [(mw, .inl (ct 0, 958, .inl m_w0)), (m0, .inl (ct 0, 958, .inl (fun _ => 0))), (m1, .inl (ct 0, 958, .inl (fun _ => 0))), (mu, .inl (ct 1, 42, .inr (.inl (fun _ => 0)))), (u0, .inl (ct 1, 42, .inr (.inl (fun _ => 0)))), (u1, .inl (ct 1, 42, .inr (.inl (fun _ => 0)))), (iz, .inl (ct 2, 2, .inl (fun _ => 0))), (mo, .inr (11, [.ref mw, .ref ma, .ref mf, .ref m0, .ref m1, .ref mu, .ref mv, .ref u0, .ref u1, .ref iz, .int th_3, .ref mb, .int 0, .int 0, .int 0, .int 0, .int 0, .int 0, .int 0]))] H := hP
  have hD : va_D A [(mw, .inl (ct 0, 958, .inl m_w0)), (m0, .inl (ct 0, 958, .inl (fun _ => 0))), (m1, .inl (ct 0, 958, .inl (fun _ => 0))), (mu, .inl (ct 1, 42, .inr (.inl (fun _ => 0)))), (u0, .inl (ct 1, 42, .inr (.inl (fun _ => 0)))), (u1, .inl (ct 1, 42, .inr (.inl (fun _ => 0)))), (iz, .inl (ct 2, 2, .inl (fun _ => 0))), (mo, .inr (11, [.ref mw, .ref ma, .ref mf, .ref m0, .ref m1, .ref mu, .ref mv, .ref u0, .ref u1, .ref iz, .int th_3, .ref mb, .int 0, .int 0, .int 0, .int 0, .int 0, .int 0, .int 0]))] := hD
  rcases hw_2 with ⟨rfl, hs1, rfl⟩ | ⟨rfl, hs1, rfl⟩
  · refine lv_if_eq (tgt := 10) hx hb dX11_saveSnapshot_5 (by decide) (fun _ => ?_) (fun hc => absurd (by decide) hc)
    rcases cm_upto1 hs1 with rfl | rfl
    · refine lv_aload_n hx hb dX11_saveSnapshot_10 rfl (lv_at hl 0 rfl) ?_
      refine va_get (v := .ref mw) (D := D) (ci := 11) (C := RX11) (T := TX11) (N := 19) hx hb hts in_X11 hown hK hP 7 rfl rfl 0 (by decide) (hts _ kl_RX11_9) (fun _ h9 => h9) rfl dX11_saveSnapshot_11 ?_
      refine lv_iload_n hx hb dX11_saveSnapshot_14 rfl (lv_at hl 1 rfl) ?_
      refine lv_if_ne (tgt := 25) hx hb dX11_saveSnapshot_15 (by decide) (fun hc => absurd (by decide) hc) (fun _ => ?_)
      refine lv_aload_n hx hb dX11_saveSnapshot_18 rfl (lv_at hl 0 rfl) ?_
      refine va_get (v := .ref m0) (D := D) (ci := 11) (C := RX11) (T := TX11) (N := 19) hx hb hts in_X11 hown hK hP 7 rfl rfl 3 (by decide) (hts _ kl_RX11_19) (fun _ h9 => h9) rfl dX11_saveSnapshot_19 ?_
      refine lv_goto (tgt := 29) hx hb dX11_saveSnapshot_22 (by decide) ?_
      refine cm_kv (wr := [(m1, .inl (ct 0, 958, .inl (fun _ => 0))), (mu, .inl (ct 1, 42, .inr (.inl (fun _ => 0)))), (u0, .inl (ct 1, 42, .inr (.inl (fun _ => 0)))), (u1, .inl (ct 1, 42, .inr (.inl (fun _ => 0)))), (iz, .inl (ct 2, 2, .inl (fun _ => 0))), (mo, .inr (11, [.ref mw, .ref ma, .ref mf, .ref m0, .ref m1, .ref mu, .ref mv, .ref u0, .ref u1, .ref iz, .int 0, .ref mb, .int 0, .int 0, .int 0, .int 0, .int 0, .int 0, .int 0]))]) (va_runS (As := [.ref mw, .ref m0]) (rest := []) ⟨hx, hb, hml, hown, hts⟩ (m_copies l D ct mw m0 m_w0 (fun _ => 0) _) (cm_S 2 hts kc_X11_copies ki_RX11 kl_RX11_205 ks_X11_copies kd_X11_copies ⟨Nat.le_of_ble_eq_true rfl, Nat.le_of_ble_eq_true rfl⟩) (cm_preS hP hK hD hS hA hX [0, 1] rfl rfl rfl) rfl rfl hl.1 rfl (lv_room (Nat.le_of_ble_eq_true rfl)) dX11_saveSnapshot_29 ⟨Nat.le_of_ble_eq_true rfl, Nat.le_of_ble_eq_true rfl⟩) hP hD hS hA [0, 1] [2, 3, 4, 5, 6, 7] rfl rfl rfl (by decide) (fun u H locs hw_5 hP hD hS => ?_)
      obtain ⟨h_6, rfl⟩ : ∃ z, z = u := ⟨_, rfl⟩
      have hP : va_P D vwCl [(m1, .inl (ct 0, 958, .inl (fun _ => 0))), (mu, .inl (ct 1, 42, .inr (.inl (fun _ => 0)))), (u0, .inl (ct 1, 42, .inr (.inl (fun _ => 0)))), (u1, .inl (ct 1, 42, .inr (.inl (fun _ => 0)))), (iz, .inl (ct 2, 2, .inl (fun _ => 0))), (mo, .inr (11, [.ref mw, .ref ma, .ref mf, .ref m0, .ref m1, .ref mu, .ref mv, .ref u0, .ref u1, .ref iz, .int 0, .ref mb, .int 0, .int 0, .int 0, .int 0, .int 0, .int 0, .int 0])), (mw, .inl (ct 0, 958, .inl m_w0)), (m0, .inl (ct 0, 958, .inl h_6))] H := hP
      have hD : va_D A [(m1, .inl (ct 0, 958, .inl (fun _ => 0))), (mu, .inl (ct 1, 42, .inr (.inl (fun _ => 0)))), (u0, .inl (ct 1, 42, .inr (.inl (fun _ => 0)))), (u1, .inl (ct 1, 42, .inr (.inl (fun _ => 0)))), (iz, .inl (ct 2, 2, .inl (fun _ => 0))), (mo, .inr (11, [.ref mw, .ref ma, .ref mf, .ref m0, .ref m1, .ref mu, .ref mv, .ref u0, .ref u1, .ref iz, .int 0, .ref mb, .int 0, .int 0, .int 0, .int 0, .int 0, .int 0, .int 0])), (mw, .inl (ct 0, 958, .inl m_w0)), (m0, .inl (ct 0, 958, .inl h_6))] := hD
      refine lv_aload_n hx hb dX11_saveSnapshot_32 rfl (lv_at hl 0 rfl) ?_
      refine va_get (v := .ref mu) (D := D) (ci := 11) (C := RX11) (T := TX11) (N := 19) hx hb hts in_X11 hown hK hP 5 rfl rfl 5 (by decide) (hts _ kl_RX11_25) (fun _ h9 => h9) rfl dX11_saveSnapshot_33 ?_
      refine lv_iload_n hx hb dX11_saveSnapshot_36 rfl (lv_at hl 1 rfl) ?_
      refine lv_if_ne (tgt := 47) hx hb dX11_saveSnapshot_37 (by decide) (fun hc => absurd (by decide) hc) (fun _ => ?_)
      refine lv_aload_n hx hb dX11_saveSnapshot_40 rfl (lv_at hl 0 rfl) ?_
      refine va_get (v := .ref u0) (D := D) (ci := 11) (C := RX11) (T := TX11) (N := 19) hx hb hts in_X11 hown hK hP 5 rfl rfl 7 (by decide) (hts _ kl_RX11_32) (fun _ h9 => h9) rfl dX11_saveSnapshot_41 ?_
      refine lv_goto (tgt := 51) hx hb dX11_saveSnapshot_44 (by decide) ?_
      refine cm_kv (wr := [(m1, .inl (ct 0, 958, .inl (fun _ => 0))), (u1, .inl (ct 1, 42, .inr (.inl (fun _ => 0)))), (iz, .inl (ct 2, 2, .inl (fun _ => 0))), (mo, .inr (11, [.ref mw, .ref ma, .ref mf, .ref m0, .ref m1, .ref mu, .ref mv, .ref u0, .ref u1, .ref iz, .int 0, .ref mb, .int 0, .int 0, .int 0, .int 0, .int 0, .int 0, .int 0])), (mw, .inl (ct 0, 958, .inl m_w0)), (m0, .inl (ct 0, 958, .inl h_6))]) (va_runS (As := [.ref mu, .ref u0]) (rest := []) ⟨hx, hb, hml, hown, hts⟩ (m_copiesSums l D ct mu u0 (fun _ => 0) (fun _ => 0) _) (cm_S 2 hts kc_X11_copiesSums ki_RX11 kl_RX11_375 ks_X11_copiesSums kd_X11_copiesSums ⟨Nat.le_of_ble_eq_true rfl, Nat.le_of_ble_eq_true rfl⟩) (cm_preS hP hK hD hS hA hX [1, 2] rfl rfl rfl) rfl rfl hl.1 rfl (lv_room (Nat.le_of_ble_eq_true rfl)) dX11_saveSnapshot_51 ⟨Nat.le_of_ble_eq_true rfl, Nat.le_of_ble_eq_true rfl⟩) hP hD hS hA [1, 2] [0, 3, 4, 5, 6, 7] rfl rfl rfl (by decide) (fun u H locs hw_8 hP hD hS => ?_)
      obtain ⟨h_9, rfl⟩ : ∃ z, z = u := ⟨_, rfl⟩
      have hP : va_P D vwCl [(m1, .inl (ct 0, 958, .inl (fun _ => 0))), (u1, .inl (ct 1, 42, .inr (.inl (fun _ => 0)))), (iz, .inl (ct 2, 2, .inl (fun _ => 0))), (mo, .inr (11, [.ref mw, .ref ma, .ref mf, .ref m0, .ref m1, .ref mu, .ref mv, .ref u0, .ref u1, .ref iz, .int 0, .ref mb, .int 0, .int 0, .int 0, .int 0, .int 0, .int 0, .int 0])), (mw, .inl (ct 0, 958, .inl m_w0)), (m0, .inl (ct 0, 958, .inl h_6)), (mu, .inl (ct 1, 42, .inr (.inl (fun _ => 0)))), (u0, .inl (ct 1, 42, .inr (.inl h_9)))] H := hP
      have hD : va_D A [(m1, .inl (ct 0, 958, .inl (fun _ => 0))), (u1, .inl (ct 1, 42, .inr (.inl (fun _ => 0)))), (iz, .inl (ct 2, 2, .inl (fun _ => 0))), (mo, .inr (11, [.ref mw, .ref ma, .ref mf, .ref m0, .ref m1, .ref mu, .ref mv, .ref u0, .ref u1, .ref iz, .int 0, .ref mb, .int 0, .int 0, .int 0, .int 0, .int 0, .int 0, .int 0])), (mw, .inl (ct 0, 958, .inl m_w0)), (m0, .inl (ct 0, 958, .inl h_6)), (mu, .inl (ct 1, 42, .inr (.inl (fun _ => 0)))), (u0, .inl (ct 1, 42, .inr (.inl h_9)))] := hD
      refine lv_aload_n hx hb dX11_saveSnapshot_54 rfl (lv_at hl 0 rfl) ?_
      refine va_get (v := .ref iz) (D := D) (ci := 11) (C := RX11) (T := TX11) (N := 19) hx hb hts in_X11 hown hK hP 3 rfl rfl 9 (by decide) (hts _ kl_RX11_38) (fun _ h9 => h9) rfl dX11_saveSnapshot_55 ?_
      refine lv_iload_n hx hb dX11_saveSnapshot_58 rfl (lv_at hl 1 rfl) ?_
      refine lv_iconst (v := 1) hx hb dX11_saveSnapshot_59 (by decide) ?_
      refine va_zast hx hb hK hP hD hS 2 2 rfl rfl (cm_vin (by decide)) dX11_saveSnapshot_60 (fun H locs hP hD hS => ?_)
      have hP : va_P D vwCl [(m1, .inl (ct 0, 958, .inl (fun _ => 0))), (u1, .inl (ct 1, 42, .inr (.inl (fun _ => 0)))), (iz, .inl (ct 2, 2, .inl (upd (fun _ => 0) (0 : Int32).toNatClampNeg (vp_nar .boolean 1)))), (mo, .inr (11, [.ref mw, .ref ma, .ref mf, .ref m0, .ref m1, .ref mu, .ref mv, .ref u0, .ref u1, .ref iz, .int 0, .ref mb, .int 0, .int 0, .int 0, .int 0, .int 0, .int 0, .int 0])), (mw, .inl (ct 0, 958, .inl m_w0)), (m0, .inl (ct 0, 958, .inl h_6)), (mu, .inl (ct 1, 42, .inr (.inl (fun _ => 0)))), (u0, .inl (ct 1, 42, .inr (.inl h_9)))] H := hP
      have hD : va_D A [(m1, .inl (ct 0, 958, .inl (fun _ => 0))), (u1, .inl (ct 1, 42, .inr (.inl (fun _ => 0)))), (iz, .inl (ct 2, 2, .inl (upd (fun _ => 0) (0 : Int32).toNatClampNeg (vp_nar .boolean 1)))), (mo, .inr (11, [.ref mw, .ref ma, .ref mf, .ref m0, .ref m1, .ref mu, .ref mv, .ref u0, .ref u1, .ref iz, .int 0, .ref mb, .int 0, .int 0, .int 0, .int 0, .int 0, .int 0, .int 0])), (mw, .inl (ct 0, 958, .inl m_w0)), (m0, .inl (ct 0, 958, .inl h_6)), (mu, .inl (ct 1, 42, .inr (.inl (fun _ => 0)))), (u0, .inl (ct 1, 42, .inr (.inl h_9)))] := hD
      refine lv_aload_n hx hb dX11_saveSnapshot_61 rfl (lv_at hl 0 rfl) ?_
      refine va_get (v := .ref mw) (D := D) (ci := 11) (C := RX11) (T := TX11) (N := 19) hx hb hts in_X11 hown hK hP 3 rfl rfl 0 (by decide) (hts _ kl_RX11_9) (fun _ h9 => h9) rfl dX11_saveSnapshot_62 ?_
      refine lv_bipush (v := 8) hx hb dX11_saveSnapshot_65 (by decide) ?_
      refine va_iald hx hb hK hP 4 0 rfl rfl (cm_vin (by decide)) dX11_saveSnapshot_67 ?_
      refine cm_cst (y := 0) (by first | rfl | decide +kernel) ?_
      have hP9 := hP.sub (ws' := [(mo, .inr (11, [.ref mw, .ref ma, .ref mf, .ref m0, .ref m1, .ref mu, .ref mv, .ref u0, .ref u1, .ref iz, .int 0, .ref mb, .int 0, .int 0, .int 0, .int 0, .int 0, .int 0, .int 0]))]) [3] rfl
      have hD9 := hD.sub (ws' := [(mo, .inr (11, [.ref mw, .ref ma, .ref mf, .ref m0, .ref m1, .ref mu, .ref mv, .ref u0, .ref u1, .ref iz, .int 0, .ref mb, .int 0, .int 0, .int 0, .int 0, .int 0, .int 0, .int 0]))]) [3] (by decide) rfl
      exact W.iret (v := 0) hx hb hr (fun t ht hW => ⟨⟨0, 0, rfl, (Or.inl ⟨rfl, hs1, rfl⟩), by rw [ht]; exact hP9, by rw [hAe]; exact hD9⟩, hS.F ht⟩) hS.2.2 dX11_saveSnapshot_68
    · refine lv_aload_n hx hb dX11_saveSnapshot_10 rfl (lv_at hl 0 rfl) ?_
      refine va_get (v := .ref mw) (D := D) (ci := 11) (C := RX11) (T := TX11) (N := 19) hx hb hts in_X11 hown hK hP 7 rfl rfl 0 (by decide) (hts _ kl_RX11_9) (fun _ h9 => h9) rfl dX11_saveSnapshot_11 ?_
      refine lv_iload_n hx hb dX11_saveSnapshot_14 rfl (lv_at hl 1 rfl) ?_
      refine lv_if_ne (tgt := 25) hx hb dX11_saveSnapshot_15 (by decide) (fun _ => ?_) (fun hc => absurd hc (by decide))
      refine lv_aload_n hx hb dX11_saveSnapshot_25 rfl (lv_at hl 0 rfl) ?_
      refine va_get (v := .ref m1) (D := D) (ci := 11) (C := RX11) (T := TX11) (N := 19) hx hb hts in_X11 hown hK hP 7 rfl rfl 4 (by decide) (hts _ kl_RX11_22) (fun _ h9 => h9) rfl dX11_saveSnapshot_26 ?_
      refine cm_kv (wr := [(m0, .inl (ct 0, 958, .inl (fun _ => 0))), (mu, .inl (ct 1, 42, .inr (.inl (fun _ => 0)))), (u0, .inl (ct 1, 42, .inr (.inl (fun _ => 0)))), (u1, .inl (ct 1, 42, .inr (.inl (fun _ => 0)))), (iz, .inl (ct 2, 2, .inl (fun _ => 0))), (mo, .inr (11, [.ref mw, .ref ma, .ref mf, .ref m0, .ref m1, .ref mu, .ref mv, .ref u0, .ref u1, .ref iz, .int 0, .ref mb, .int 0, .int 0, .int 0, .int 0, .int 0, .int 0, .int 0]))]) (va_runS (As := [.ref mw, .ref m1]) (rest := []) ⟨hx, hb, hml, hown, hts⟩ (m_copies l D ct mw m1 m_w0 (fun _ => 0) _) (cm_S 2 hts kc_X11_copies ki_RX11 kl_RX11_205 ks_X11_copies kd_X11_copies ⟨Nat.le_of_ble_eq_true rfl, Nat.le_of_ble_eq_true rfl⟩) (cm_preS hP hK hD hS hA hX [0, 2] rfl rfl rfl) rfl rfl hl.1 rfl (lv_room (Nat.le_of_ble_eq_true rfl)) dX11_saveSnapshot_29 ⟨Nat.le_of_ble_eq_true rfl, Nat.le_of_ble_eq_true rfl⟩) hP hD hS hA [0, 2] [1, 3, 4, 5, 6, 7] rfl rfl rfl (by decide) (fun u H locs hw_11 hP hD hS => ?_)
      obtain ⟨h_12, rfl⟩ : ∃ z, z = u := ⟨_, rfl⟩
      have hP : va_P D vwCl [(m0, .inl (ct 0, 958, .inl (fun _ => 0))), (mu, .inl (ct 1, 42, .inr (.inl (fun _ => 0)))), (u0, .inl (ct 1, 42, .inr (.inl (fun _ => 0)))), (u1, .inl (ct 1, 42, .inr (.inl (fun _ => 0)))), (iz, .inl (ct 2, 2, .inl (fun _ => 0))), (mo, .inr (11, [.ref mw, .ref ma, .ref mf, .ref m0, .ref m1, .ref mu, .ref mv, .ref u0, .ref u1, .ref iz, .int 0, .ref mb, .int 0, .int 0, .int 0, .int 0, .int 0, .int 0, .int 0])), (mw, .inl (ct 0, 958, .inl m_w0)), (m1, .inl (ct 0, 958, .inl h_12))] H := hP
      have hD : va_D A [(m0, .inl (ct 0, 958, .inl (fun _ => 0))), (mu, .inl (ct 1, 42, .inr (.inl (fun _ => 0)))), (u0, .inl (ct 1, 42, .inr (.inl (fun _ => 0)))), (u1, .inl (ct 1, 42, .inr (.inl (fun _ => 0)))), (iz, .inl (ct 2, 2, .inl (fun _ => 0))), (mo, .inr (11, [.ref mw, .ref ma, .ref mf, .ref m0, .ref m1, .ref mu, .ref mv, .ref u0, .ref u1, .ref iz, .int 0, .ref mb, .int 0, .int 0, .int 0, .int 0, .int 0, .int 0, .int 0])), (mw, .inl (ct 0, 958, .inl m_w0)), (m1, .inl (ct 0, 958, .inl h_12))] := hD
      refine lv_aload_n hx hb dX11_saveSnapshot_32 rfl (lv_at hl 0 rfl) ?_
      refine va_get (v := .ref mu) (D := D) (ci := 11) (C := RX11) (T := TX11) (N := 19) hx hb hts in_X11 hown hK hP 5 rfl rfl 5 (by decide) (hts _ kl_RX11_25) (fun _ h9 => h9) rfl dX11_saveSnapshot_33 ?_
      refine lv_iload_n hx hb dX11_saveSnapshot_36 rfl (lv_at hl 1 rfl) ?_
      refine lv_if_ne (tgt := 47) hx hb dX11_saveSnapshot_37 (by decide) (fun _ => ?_) (fun hc => absurd hc (by decide))
      refine lv_aload_n hx hb dX11_saveSnapshot_47 rfl (lv_at hl 0 rfl) ?_
      refine va_get (v := .ref u1) (D := D) (ci := 11) (C := RX11) (T := TX11) (N := 19) hx hb hts in_X11 hown hK hP 5 rfl rfl 8 (by decide) (hts _ kl_RX11_35) (fun _ h9 => h9) rfl dX11_saveSnapshot_48 ?_
      refine cm_kv (wr := [(m0, .inl (ct 0, 958, .inl (fun _ => 0))), (u0, .inl (ct 1, 42, .inr (.inl (fun _ => 0)))), (iz, .inl (ct 2, 2, .inl (fun _ => 0))), (mo, .inr (11, [.ref mw, .ref ma, .ref mf, .ref m0, .ref m1, .ref mu, .ref mv, .ref u0, .ref u1, .ref iz, .int 0, .ref mb, .int 0, .int 0, .int 0, .int 0, .int 0, .int 0, .int 0])), (mw, .inl (ct 0, 958, .inl m_w0)), (m1, .inl (ct 0, 958, .inl h_12))]) (va_runS (As := [.ref mu, .ref u1]) (rest := []) ⟨hx, hb, hml, hown, hts⟩ (m_copiesSums l D ct mu u1 (fun _ => 0) (fun _ => 0) _) (cm_S 2 hts kc_X11_copiesSums ki_RX11 kl_RX11_375 ks_X11_copiesSums kd_X11_copiesSums ⟨Nat.le_of_ble_eq_true rfl, Nat.le_of_ble_eq_true rfl⟩) (cm_preS hP hK hD hS hA hX [1, 3] rfl rfl rfl) rfl rfl hl.1 rfl (lv_room (Nat.le_of_ble_eq_true rfl)) dX11_saveSnapshot_51 ⟨Nat.le_of_ble_eq_true rfl, Nat.le_of_ble_eq_true rfl⟩) hP hD hS hA [1, 3] [0, 2, 4, 5, 6, 7] rfl rfl rfl (by decide) (fun u H locs hw_14 hP hD hS => ?_)
      obtain ⟨h_15, rfl⟩ : ∃ z, z = u := ⟨_, rfl⟩
      have hP : va_P D vwCl [(m0, .inl (ct 0, 958, .inl (fun _ => 0))), (u0, .inl (ct 1, 42, .inr (.inl (fun _ => 0)))), (iz, .inl (ct 2, 2, .inl (fun _ => 0))), (mo, .inr (11, [.ref mw, .ref ma, .ref mf, .ref m0, .ref m1, .ref mu, .ref mv, .ref u0, .ref u1, .ref iz, .int 0, .ref mb, .int 0, .int 0, .int 0, .int 0, .int 0, .int 0, .int 0])), (mw, .inl (ct 0, 958, .inl m_w0)), (m1, .inl (ct 0, 958, .inl h_12)), (mu, .inl (ct 1, 42, .inr (.inl (fun _ => 0)))), (u1, .inl (ct 1, 42, .inr (.inl h_15)))] H := hP
      have hD : va_D A [(m0, .inl (ct 0, 958, .inl (fun _ => 0))), (u0, .inl (ct 1, 42, .inr (.inl (fun _ => 0)))), (iz, .inl (ct 2, 2, .inl (fun _ => 0))), (mo, .inr (11, [.ref mw, .ref ma, .ref mf, .ref m0, .ref m1, .ref mu, .ref mv, .ref u0, .ref u1, .ref iz, .int 0, .ref mb, .int 0, .int 0, .int 0, .int 0, .int 0, .int 0, .int 0])), (mw, .inl (ct 0, 958, .inl m_w0)), (m1, .inl (ct 0, 958, .inl h_12)), (mu, .inl (ct 1, 42, .inr (.inl (fun _ => 0)))), (u1, .inl (ct 1, 42, .inr (.inl h_15)))] := hD
      refine lv_aload_n hx hb dX11_saveSnapshot_54 rfl (lv_at hl 0 rfl) ?_
      refine va_get (v := .ref iz) (D := D) (ci := 11) (C := RX11) (T := TX11) (N := 19) hx hb hts in_X11 hown hK hP 3 rfl rfl 9 (by decide) (hts _ kl_RX11_38) (fun _ h9 => h9) rfl dX11_saveSnapshot_55 ?_
      refine lv_iload_n hx hb dX11_saveSnapshot_58 rfl (lv_at hl 1 rfl) ?_
      refine lv_iconst (v := 1) hx hb dX11_saveSnapshot_59 (by decide) ?_
      refine va_zast hx hb hK hP hD hS 2 2 rfl rfl (cm_vin (by decide)) dX11_saveSnapshot_60 (fun H locs hP hD hS => ?_)
      have hP : va_P D vwCl [(m0, .inl (ct 0, 958, .inl (fun _ => 0))), (u0, .inl (ct 1, 42, .inr (.inl (fun _ => 0)))), (iz, .inl (ct 2, 2, .inl (upd (fun _ => 0) (1 : Int32).toNatClampNeg (vp_nar .boolean 1)))), (mo, .inr (11, [.ref mw, .ref ma, .ref mf, .ref m0, .ref m1, .ref mu, .ref mv, .ref u0, .ref u1, .ref iz, .int 0, .ref mb, .int 0, .int 0, .int 0, .int 0, .int 0, .int 0, .int 0])), (mw, .inl (ct 0, 958, .inl m_w0)), (m1, .inl (ct 0, 958, .inl h_12)), (mu, .inl (ct 1, 42, .inr (.inl (fun _ => 0)))), (u1, .inl (ct 1, 42, .inr (.inl h_15)))] H := hP
      have hD : va_D A [(m0, .inl (ct 0, 958, .inl (fun _ => 0))), (u0, .inl (ct 1, 42, .inr (.inl (fun _ => 0)))), (iz, .inl (ct 2, 2, .inl (upd (fun _ => 0) (1 : Int32).toNatClampNeg (vp_nar .boolean 1)))), (mo, .inr (11, [.ref mw, .ref ma, .ref mf, .ref m0, .ref m1, .ref mu, .ref mv, .ref u0, .ref u1, .ref iz, .int 0, .ref mb, .int 0, .int 0, .int 0, .int 0, .int 0, .int 0, .int 0])), (mw, .inl (ct 0, 958, .inl m_w0)), (m1, .inl (ct 0, 958, .inl h_12)), (mu, .inl (ct 1, 42, .inr (.inl (fun _ => 0)))), (u1, .inl (ct 1, 42, .inr (.inl h_15)))] := hD
      refine lv_aload_n hx hb dX11_saveSnapshot_61 rfl (lv_at hl 0 rfl) ?_
      refine va_get (v := .ref mw) (D := D) (ci := 11) (C := RX11) (T := TX11) (N := 19) hx hb hts in_X11 hown hK hP 3 rfl rfl 0 (by decide) (hts _ kl_RX11_9) (fun _ h9 => h9) rfl dX11_saveSnapshot_62 ?_
      refine lv_bipush (v := 8) hx hb dX11_saveSnapshot_65 (by decide) ?_
      refine va_iald hx hb hK hP 4 0 rfl rfl (cm_vin (by decide)) dX11_saveSnapshot_67 ?_
      refine cm_cst (y := 0) (by first | rfl | decide +kernel) ?_
      have hP9 := hP.sub (ws' := [(mo, .inr (11, [.ref mw, .ref ma, .ref mf, .ref m0, .ref m1, .ref mu, .ref mv, .ref u0, .ref u1, .ref iz, .int 0, .ref mb, .int 0, .int 0, .int 0, .int 0, .int 0, .int 0, .int 0]))]) [3] rfl
      have hD9 := hD.sub (ws' := [(mo, .inr (11, [.ref mw, .ref ma, .ref mf, .ref m0, .ref m1, .ref mu, .ref mv, .ref u0, .ref u1, .ref iz, .int 0, .ref mb, .int 0, .int 0, .int 0, .int 0, .int 0, .int 0, .int 0]))]) [3] (by decide) rfl
      exact W.iret (v := 0) hx hb hr (fun t ht hW => ⟨⟨0, 0, rfl, (Or.inl ⟨rfl, hs1, rfl⟩), by rw [ht]; exact hP9, by rw [hAe]; exact hD9⟩, hS.F ht⟩) hS.2.2 dX11_saveSnapshot_68
  · refine lv_if_eq (tgt := 10) hx hb dX11_saveSnapshot_5 (by decide) (fun hc => absurd hc (by decide)) (fun _ => ?_)
    refine lv_iconst (v := 0) hx hb dX11_saveSnapshot_8 (by decide) ?_
    have hP9 := hP.sub (ws' := [(mo, .inr (11, [.ref mw, .ref ma, .ref mf, .ref m0, .ref m1, .ref mu, .ref mv, .ref u0, .ref u1, .ref iz, .int 1, .ref mb, .int 0, .int 0, .int 0, .int 0, .int 0, .int 0, .int 0]))]) [7] rfl
    have hD9 := hD.sub (ws' := [(mo, .inr (11, [.ref mw, .ref ma, .ref mf, .ref m0, .ref m1, .ref mu, .ref mv, .ref u0, .ref u1, .ref iz, .int 1, .ref mb, .int 0, .int 0, .int 0, .int 0, .int 0, .int 0, .int 0]))]) [7] (by decide) rfl
    exact W.iret (v := 0) hx hb hr (fun t ht hW => ⟨⟨0, 1, rfl, (Or.inr ⟨rfl, hs1⟩), by rw [ht]; exact hP9, by rw [hAe]; exact hD9⟩, hS.F ht⟩) hS.2.2 dX11_saveSnapshot_9
theorem dX11_restoreSnapshot_0 : decode cX11_restoreSnapshot 0 = .ok (.aload_n 0, 1) := by decide +kernel
theorem dX11_restoreSnapshot_1 : decode cX11_restoreSnapshot 1 = .ok (.iload_n 1, 1) := by decide +kernel
theorem dX11_restoreSnapshot_2 : decode cX11_restoreSnapshot 2 = .ok (.invokevirtual 402, 3) := by decide +kernel
theorem dX11_restoreSnapshot_5 : decode cX11_restoreSnapshot 5 = .ok (.ifCond .eq 5, 3) := by decide +kernel
theorem dX11_restoreSnapshot_8 : decode cX11_restoreSnapshot 8 = .ok (.iconst 0, 1) := by decide +kernel
theorem dX11_restoreSnapshot_9 : decode cX11_restoreSnapshot 9 = .ok (.ireturn, 1) := by decide +kernel
theorem dX11_restoreSnapshot_10 : decode cX11_restoreSnapshot 10 = .ok (.aload_n 0, 1) := by decide +kernel
theorem dX11_restoreSnapshot_11 : decode cX11_restoreSnapshot 11 = .ok (.getfield 38, 3) := by decide +kernel
theorem dX11_restoreSnapshot_14 : decode cX11_restoreSnapshot 14 = .ok (.iload_n 1, 1) := by decide +kernel
theorem dX11_restoreSnapshot_15 : decode cX11_restoreSnapshot 15 = .ok (.baload, 1) := by decide +kernel
theorem dX11_restoreSnapshot_16 : decode cX11_restoreSnapshot 16 = .ok (.ifCond .ne 5, 3) := by decide +kernel
theorem dX11_restoreSnapshot_19 : decode cX11_restoreSnapshot 19 = .ok (.iconst (-1), 1) := by decide +kernel
theorem dX11_restoreSnapshot_20 : decode cX11_restoreSnapshot 20 = .ok (.ireturn, 1) := by decide +kernel
set_option maxRecDepth 100000 in
set_option maxHeartbeats 4000000 in
theorem m_restoreSnapshot_0 (l : Launch) (D : va_G) (ct : Nat → ClassId) (mo : Nat) (mw : Nat) (ma : Nat) (mf : Nat) (m0 : Nat) (m1 : Nat) (mu : Nat) (mv : Nat) (u0 : Nat) (u1 : Nat) (iz : Nat) (mb : Nat) (p1 : Int32) (sz : Nat) : Met l yX11_restoreSnapshot (ws_ yX11_restoreSnapshot cX11_restoreSnapshot 2 (some .int)) ({ frames := 2, cells := 0, slots := 0, locals := 46 } : Room) (va_Pc [.ref mo, .int p1] (cmP D ct sz [(mo, .inr (11, [.ref mw, .ref ma, .ref mf, .ref m0, .ref m1, .ref mu, .ref mv, .ref u0, .ref u1, .ref iz, .int 0, .ref mb, .int 0, .int 0, .int 0, .int 0, .int 0, .int 0, .int 0])), (mw, .inl (ct 0, 958, .inl m_w0)), (m0, .inl (ct 0, 958, .inl (fun _ => 0))), (m1, .inl (ct 0, 958, .inl (fun _ => 0))), (mu, .inl (ct 1, 42, .inr (.inl (fun _ => 0)))), (u0, .inl (ct 1, 42, .inr (.inl (fun _ => 0)))), (u1, .inl (ct 1, 42, .inr (.inl (fun _ => 0)))), (iz, .inl (ct 2, 2, .inl (fun _ => 0)))])) (va_Qi (fun (r : Int32) (th : Int32) => (th = 0 ∧ (0 ≤ p1 ∧ p1 ≤ 1) ∧ r = (-1)) ∨ (th = 1 ∧ (p1 < 0 ∨ 1 < p1))) (cmB D [(mo, .inr (11, [.ref mw, .ref ma, .ref mf, .ref m0, .ref m1, .ref mu, .ref mv, .ref u0, .ref u1, .ref iz, .int 0, .ref mb, .int 0, .int 0, .int 0, .int 0, .int 0, .int 0, .int 0])), (mw, .inl (ct 0, 958, .inl m_w0)), (m0, .inl (ct 0, 958, .inl (fun _ => 0))), (m1, .inl (ct 0, 958, .inl (fun _ => 0))), (mu, .inl (ct 1, 42, .inr (.inl (fun _ => 0)))), (u0, .inl (ct 1, 42, .inr (.inl (fun _ => 0)))), (u1, .inl (ct 1, 42, .inr (.inl (fun _ => 0)))), (iz, .inl (ct 2, 2, .inl (fun _ => 0)))] sz (fun th : Int32 => [(mo, .inr (11, [.ref mw, .ref ma, .ref mf, .ref m0, .ref m1, .ref mu, .ref mv, .ref u0, .ref u1, .ref iz, .int th, .ref mb, .int 0, .int 0, .int 0, .int 0, .int 0, .int 0, .int 0]))])) (va_A [(mo, .inr (11, [.ref mw, .ref ma, .ref mf, .ref m0, .ref m1, .ref mu, .ref mv, .ref u0, .ref u1, .ref iz, .int 0, .ref mb, .int 0, .int 0, .int 0, .int 0, .int 0, .int 0, .int 0])), (mw, .inl (ct 0, 958, .inl m_w0)), (m0, .inl (ct 0, 958, .inl (fun _ => 0))), (m1, .inl (ct 0, 958, .inl (fun _ => 0))), (mu, .inl (ct 1, 42, .inr (.inl (fun _ => 0)))), (u0, .inl (ct 1, 42, .inr (.inl (fun _ => 0)))), (u1, .inl (ct 1, 42, .inr (.inl (fun _ => 0)))), (iz, .inl (ct 2, 2, .inl (fun _ => 0)))] sz)) 0 0 (va_A [(mo, .inr (11, [.ref mw, .ref ma, .ref mf, .ref m0, .ref m1, .ref mu, .ref mv, .ref u0, .ref u1, .ref iz, .int 0, .ref mb, .int 0, .int 0, .int 0, .int 0, .int 0, .int 0, .int 0])), (mw, .inl (ct 0, 958, .inl m_w0)), (m0, .inl (ct 0, 958, .inl (fun _ => 0))), (m1, .inl (ct 0, 958, .inl (fun _ => 0))), (mu, .inl (ct 1, 42, .inr (.inl (fun _ => 0)))), (u0, .inl (ct 1, 42, .inr (.inl (fun _ => 0)))), (u1, .inl (ct 1, 42, .inr (.inl (fun _ => 0)))), (iz, .inl (ct 2, 2, .inl (fun _ => 0)))] sz) := by
  refine Met.ofW (cc := cX11_restoreSnapshot) (maxL := 2) (ret := (some .int)) (by decide) rfl ?_
  intro p e s m args below meth c s₁ B hml hv
  obtain ⟨rfl, hsz, hP, hK, hD0, hX⟩ := hv
  have hx := B.exec
  have hb := B.bytes
  have hr := B.returns
  have hts := ws_all (atoms_spec (ws := ws_ yX11_restoreSnapshot cX11_restoreSnapshot 2 (some .int)) B.pre)
  have hown : s.vm.findClass RX11 = some m.cls := findClass_of_methodNamed B.named
  have hlocks := B.notSynchronized
  subst hsz
  have hD := hD0.self (sz := s.heap.size)
  generalize hAe : va_A [(mo, .inr (11, [.ref mw, .ref ma, .ref mf, .ref m0, .ref m1, .ref mu, .ref mv, .ref u0, .ref u1, .ref iz, .int 0, .ref mb, .int 0, .int 0, .int 0, .int 0, .int 0, .int 0, .int 0])), (mw, .inl (ct 0, 958, .inl m_w0)), (m0, .inl (ct 0, 958, .inl (fun _ => 0))), (m1, .inl (ct 0, 958, .inl (fun _ => 0))), (mu, .inl (ct 1, 42, .inr (.inl (fun _ => 0)))), (u0, .inl (ct 1, 42, .inr (.inl (fun _ => 0)))), (u1, .inl (ct 1, 42, .inr (.inl (fun _ => 0)))), (iz, .inl (ct 2, 2, .inl (fun _ => 0)))] s.heap.size = A at hD hX ⊢
  have hA : ∀ q : Nat, s.heap.size ≤ q → A q := fun q h => by rw [← hAe]; exact Or.inr h
  have hS : va_S A s.heap s.heap [] := va_S.rf
  have hl := lv_entry ([.ref mo, .int p1]) (n := 2) (Nat.le_of_ble_eq_true rfl)
  rw [lg_entry_eq]
  generalize (lg_sl ([.ref mo, .int p1]) ++ List.replicate (2 - (lg_sl ([.ref mo, .int p1])).length) Slot.unset).toArray = ls at hl ⊢
  have hl : lv_has ls 2 [(0, .ref mo), (1, .int p1)] := hl
  refine lv_aload_n hx hb dX11_restoreSnapshot_0 rfl (lv_at hl 0 rfl) ?_
  refine lv_iload_n hx hb dX11_restoreSnapshot_1 rfl (lv_at hl 1 rfl) ?_
  refine cm_ki (wr := [(mw, .inl (ct 0, 958, .inl m_w0)), (m0, .inl (ct 0, 958, .inl (fun _ => 0))), (m1, .inl (ct 0, 958, .inl (fun _ => 0))), (mu, .inl (ct 1, 42, .inr (.inl (fun _ => 0)))), (u0, .inl (ct 1, 42, .inr (.inl (fun _ => 0)))), (u1, .inl (ct 1, 42, .inr (.inl (fun _ => 0)))), (iz, .inl (ct 2, 2, .inl (fun _ => 0)))]) (va_runV (As := [.int p1]) (rest := []) ⟨hx, hb, hml, hown, hts⟩ (m_noSlot l D ct mo mw ma mf m0 m1 mu mv u0 u1 iz mb p1 _) (cm_V 1 hts kc_X11_noSlot ki_RX11 kl_RX11_402 kv_X11_noSlot kx_X11_noSlot kd_X11_noSlot ⟨Nat.le_of_ble_eq_true rfl, Nat.le_of_ble_eq_true rfl⟩) (cm_preV hP hK hD hS hA hX [0] rfl rfl rfl (q0 := 0) (ci := 11) rfl rfl) rfl rfl hl.1 rfl (lv_room (Nat.le_of_ble_eq_true rfl)) dX11_restoreSnapshot_2 ⟨Nat.le_of_ble_eq_true rfl, Nat.le_of_ble_eq_true rfl⟩) hP hD hS hA [0] [1, 2, 3, 4, 5, 6, 7] rfl rfl rfl (by decide) (fun r_1 u H locs hw_2 hP hD hS => ?_)
  obtain ⟨th_3, rfl⟩ : ∃ z, z = u := ⟨_, rfl⟩
  have hw_2 : (th_3 = 0 ∧ (0 ≤ p1 ∧ p1 ≤ 1) ∧ r_1 = 0) ∨ (th_3 = 1 ∧ (p1 < 0 ∨ 1 < p1) ∧ r_1 = 1) := hw_2
  have hP : va_P D vwCl [(mw, .inl (ct 0, 958, .inl m_w0)), (m0, .inl (ct 0, 958, .inl (fun _ => 0))), (m1, .inl (ct 0, 958, .inl (fun _ => 0))), (mu, .inl (ct 1, 42, .inr (.inl (fun _ => 0)))), (u0, .inl (ct 1, 42, .inr (.inl (fun _ => 0)))), (u1, .inl (ct 1, 42, .inr (.inl (fun _ => 0)))), (iz, .inl (ct 2, 2, .inl (fun _ => 0))), (mo, .inr (11, [.ref mw, .ref ma, .ref mf, .ref m0, .ref m1, .ref mu, .ref mv, .ref u0, .ref u1, .ref iz, .int th_3, .ref mb, .int 0, .int 0, .int 0, .int 0, .int 0, .int 0, .int 0]))] H := hP
  have hD : va_D A [(mw, .inl (ct 0, 958, .inl m_w0)), (m0, .inl (ct 0, 958, .inl (fun _ => 0))), (m1, .inl (ct 0, 958, .inl (fun _ => 0))), (mu, .inl (ct 1, 42, .inr (.inl (fun _ => 0)))), (u0, .inl (ct 1, 42, .inr (.inl (fun _ => 0)))), (u1, .inl (ct 1, 42, .inr (.inl (fun _ => 0)))), (iz, .inl (ct 2, 2, .inl (fun _ => 0))), (mo, .inr (11, [.ref mw, .ref ma, .ref mf, .ref m0, .ref m1, .ref mu, .ref mv, .ref u0, .ref u1, .ref iz, .int th_3, .ref mb, .int 0, .int 0, .int 0, .int 0, .int 0, .int 0, .int 0]))] := hD
  rcases hw_2 with ⟨rfl, hs1, rfl⟩ | ⟨rfl, hs1, rfl⟩
  · refine lv_if_eq (tgt := 10) hx hb dX11_restoreSnapshot_5 (by decide) (fun _ => ?_) (fun hc => absurd (by decide) hc)
    rcases cm_upto1 hs1 with rfl | rfl
    · refine lv_aload_n hx hb dX11_restoreSnapshot_10 rfl (lv_at hl 0 rfl) ?_
      refine va_get (v := .ref iz) (D := D) (ci := 11) (C := RX11) (T := TX11) (N := 19) hx hb hts in_X11 hown hK hP 7 rfl rfl 9 (by decide) (hts _ kl_RX11_38) (fun _ h9 => h9) rfl dX11_restoreSnapshot_11 ?_
      refine lv_iload_n hx hb dX11_restoreSnapshot_14 rfl (lv_at hl 1 rfl) ?_
      refine va_zald hx hb hK hP 6 2 rfl rfl (cm_vin (by decide)) dX11_restoreSnapshot_15 ?_
      refine cm_cst (y := 0) (by first | rfl | decide +kernel) ?_
      refine lv_if_ne (tgt := 21) hx hb dX11_restoreSnapshot_16 (by decide) (fun hc => absurd (by decide) hc) (fun _ => ?_)
      refine lv_iconst (v := (-1)) hx hb dX11_restoreSnapshot_19 (by decide) ?_
      have hP9 := hP.sub (ws' := [(mo, .inr (11, [.ref mw, .ref ma, .ref mf, .ref m0, .ref m1, .ref mu, .ref mv, .ref u0, .ref u1, .ref iz, .int 0, .ref mb, .int 0, .int 0, .int 0, .int 0, .int 0, .int 0, .int 0]))]) [7] rfl
      have hD9 := hD.sub (ws' := [(mo, .inr (11, [.ref mw, .ref ma, .ref mf, .ref m0, .ref m1, .ref mu, .ref mv, .ref u0, .ref u1, .ref iz, .int 0, .ref mb, .int 0, .int 0, .int 0, .int 0, .int 0, .int 0, .int 0]))]) [7] (by decide) rfl
      exact W.iret (v := (-1)) hx hb hr (fun t ht hW => ⟨⟨(-1), 0, rfl, (Or.inl ⟨rfl, hs1, rfl⟩), by rw [ht]; exact hP9, by rw [hAe]; exact hD9⟩, hS.F ht⟩) hS.2.2 dX11_restoreSnapshot_20
    · refine lv_aload_n hx hb dX11_restoreSnapshot_10 rfl (lv_at hl 0 rfl) ?_
      refine va_get (v := .ref iz) (D := D) (ci := 11) (C := RX11) (T := TX11) (N := 19) hx hb hts in_X11 hown hK hP 7 rfl rfl 9 (by decide) (hts _ kl_RX11_38) (fun _ h9 => h9) rfl dX11_restoreSnapshot_11 ?_
      refine lv_iload_n hx hb dX11_restoreSnapshot_14 rfl (lv_at hl 1 rfl) ?_
      refine va_zald hx hb hK hP 6 2 rfl rfl (cm_vin (by decide)) dX11_restoreSnapshot_15 ?_
      refine cm_cst (y := 0) (by first | rfl | decide +kernel) ?_
      refine lv_if_ne (tgt := 21) hx hb dX11_restoreSnapshot_16 (by decide) (fun hc => absurd (by decide) hc) (fun _ => ?_)
      refine lv_iconst (v := (-1)) hx hb dX11_restoreSnapshot_19 (by decide) ?_
      have hP9 := hP.sub (ws' := [(mo, .inr (11, [.ref mw, .ref ma, .ref mf, .ref m0, .ref m1, .ref mu, .ref mv, .ref u0, .ref u1, .ref iz, .int 0, .ref mb, .int 0, .int 0, .int 0, .int 0, .int 0, .int 0, .int 0]))]) [7] rfl
      have hD9 := hD.sub (ws' := [(mo, .inr (11, [.ref mw, .ref ma, .ref mf, .ref m0, .ref m1, .ref mu, .ref mv, .ref u0, .ref u1, .ref iz, .int 0, .ref mb, .int 0, .int 0, .int 0, .int 0, .int 0, .int 0, .int 0]))]) [7] (by decide) rfl
      exact W.iret (v := (-1)) hx hb hr (fun t ht hW => ⟨⟨(-1), 0, rfl, (Or.inl ⟨rfl, hs1, rfl⟩), by rw [ht]; exact hP9, by rw [hAe]; exact hD9⟩, hS.F ht⟩) hS.2.2 dX11_restoreSnapshot_20
  · refine lv_if_eq (tgt := 10) hx hb dX11_restoreSnapshot_5 (by decide) (fun hc => absurd hc (by decide)) (fun _ => ?_)
    refine lv_iconst (v := 0) hx hb dX11_restoreSnapshot_8 (by decide) ?_
    have hP9 := hP.sub (ws' := [(mo, .inr (11, [.ref mw, .ref ma, .ref mf, .ref m0, .ref m1, .ref mu, .ref mv, .ref u0, .ref u1, .ref iz, .int 1, .ref mb, .int 0, .int 0, .int 0, .int 0, .int 0, .int 0, .int 0]))]) [7] rfl
    have hD9 := hD.sub (ws' := [(mo, .inr (11, [.ref mw, .ref ma, .ref mf, .ref m0, .ref m1, .ref mu, .ref mv, .ref u0, .ref u1, .ref iz, .int 1, .ref mb, .int 0, .int 0, .int 0, .int 0, .int 0, .int 0, .int 0]))]) [7] (by decide) rfl
    exact W.iret (v := 0) hx hb hr (fun t ht hW => ⟨⟨0, 1, rfl, (Or.inr ⟨rfl, hs1⟩), by rw [ht]; exact hP9, by rw [hAe]; exact hD9⟩, hS.F ht⟩) hS.2.2 dX11_restoreSnapshot_9
theorem dX11_ticks_0 : decode cX11_ticks 0 = .ok (.aload_n 0, 1) := by decide +kernel
theorem dX11_ticks_1 : decode cX11_ticks 1 = .ok (.getfield 9, 3) := by decide +kernel
theorem dX11_ticks_4 : decode cX11_ticks 4 = .ok (.bipush 8, 2) := by decide +kernel
theorem dX11_ticks_6 : decode cX11_ticks 6 = .ok (.dup2, 1) := by decide +kernel
theorem dX11_ticks_7 : decode cX11_ticks 7 = .ok (.iaload, 1) := by decide +kernel
theorem dX11_ticks_8 : decode cX11_ticks 8 = .ok (.iconst 1, 1) := by decide +kernel
theorem dX11_ticks_9 : decode cX11_ticks 9 = .ok (.iadd, 1) := by decide +kernel
theorem dX11_ticks_10 : decode cX11_ticks 10 = .ok (.iastore, 1) := by decide +kernel
theorem dX11_ticks_11 : decode cX11_ticks 11 = .ok (.iconst 0, 1) := by decide +kernel
theorem dX11_ticks_12 : decode cX11_ticks 12 = .ok (.istore_n 1, 1) := by decide +kernel
theorem dX11_ticks_13 : decode cX11_ticks 13 = .ok (.iload_n 1, 1) := by decide +kernel
theorem dX11_ticks_14 : decode cX11_ticks 14 = .ok (.aload_n 0, 1) := by decide +kernel
theorem dX11_ticks_15 : decode cX11_ticks 15 = .ok (.getfield 9, 3) := by decide +kernel
theorem dX11_ticks_18 : decode cX11_ticks 18 = .ok (.bipush 9, 2) := by decide +kernel
theorem dX11_ticks_20 : decode cX11_ticks 20 = .ok (.iaload, 1) := by decide +kernel
theorem dX11_ticks_21 : decode cX11_ticks 21 = .ok (.if_icmp .ge 14, 3) := by decide +kernel
theorem dX11_ticks_35 : decode cX11_ticks 35 = .ok (.return_, 1) := by decide +kernel
set_option maxRecDepth 100000 in
set_option maxHeartbeats 4000000 in
theorem m_ticks_0 (l : Launch) (D : va_G) (ct : Nat → ClassId) (mo : Nat) (mw : Nat) (ma : Nat) (mf : Nat) (m0 : Nat) (m1 : Nat) (mu : Nat) (mv : Nat) (u0 : Nat) (u1 : Nat) (iz : Nat) (mb : Nat) (i : Nat) (sz : Nat) : Met l yX11_ticks (ws_ yX11_ticks cX11_ticks 2 none) ({ frames := 0, cells := 0, slots := 0, locals := 0 } : Room) (va_Pc [.ref mo] (cmP D ct sz [(mo, .inr (11, [.ref mw, .ref ma, .ref mf, .ref m0, .ref m1, .ref mu, .ref mv, .ref u0, .ref u1, .ref iz, .int 0, .ref mb, .int 0, .int 0, .int 0, .int 0, .int 0, .int 0, .int 0])), (mw, .inl (ct 0, 958, .inl (upd m_w0 8 (nI i))))])) (va_Qv (fun (_ : Unit) => True) (cmB D [(mo, .inr (11, [.ref mw, .ref ma, .ref mf, .ref m0, .ref m1, .ref mu, .ref mv, .ref u0, .ref u1, .ref iz, .int 0, .ref mb, .int 0, .int 0, .int 0, .int 0, .int 0, .int 0, .int 0])), (mw, .inl (ct 0, 958, .inl (upd m_w0 8 (nI i))))] sz (fun _ : Unit => [(mo, .inr (11, [.ref mw, .ref ma, .ref mf, .ref m0, .ref m1, .ref mu, .ref mv, .ref u0, .ref u1, .ref iz, .int 0, .ref mb, .int 0, .int 0, .int 0, .int 0, .int 0, .int 0, .int 0])), (mw, .inl (ct 0, 958, .inl (upd m_w0 8 (nI (i + 1)))))])) (va_A [(mo, .inr (11, [.ref mw, .ref ma, .ref mf, .ref m0, .ref m1, .ref mu, .ref mv, .ref u0, .ref u1, .ref iz, .int 0, .ref mb, .int 0, .int 0, .int 0, .int 0, .int 0, .int 0, .int 0])), (mw, .inl (ct 0, 958, .inl (upd m_w0 8 (nI i))))] sz)) 0 0 (va_A [(mo, .inr (11, [.ref mw, .ref ma, .ref mf, .ref m0, .ref m1, .ref mu, .ref mv, .ref u0, .ref u1, .ref iz, .int 0, .ref mb, .int 0, .int 0, .int 0, .int 0, .int 0, .int 0, .int 0])), (mw, .inl (ct 0, 958, .inl (upd m_w0 8 (nI i))))] sz) := by
  refine Met.ofW (cc := cX11_ticks) (maxL := 2) (ret := none) (by decide) rfl ?_
  intro p e s m args below meth c s₁ B hml hv
  obtain ⟨rfl, hsz, hP, hK, hD0, hX⟩ := hv
  have hx := B.exec
  have hb := B.bytes
  have hr := B.returns
  have hts := ws_all (atoms_spec (ws := ws_ yX11_ticks cX11_ticks 2 none) B.pre)
  have hown : s.vm.findClass RX11 = some m.cls := findClass_of_methodNamed B.named
  have hlocks := B.notSynchronized
  subst hsz
  have hD := hD0.self (sz := s.heap.size)
  generalize hAe : va_A [(mo, .inr (11, [.ref mw, .ref ma, .ref mf, .ref m0, .ref m1, .ref mu, .ref mv, .ref u0, .ref u1, .ref iz, .int 0, .ref mb, .int 0, .int 0, .int 0, .int 0, .int 0, .int 0, .int 0])), (mw, .inl (ct 0, 958, .inl (upd m_w0 8 (nI i))))] s.heap.size = A at hD hX ⊢
  have hA : ∀ q : Nat, s.heap.size ≤ q → A q := fun q h => by rw [← hAe]; exact Or.inr h
  have hS : va_S A s.heap s.heap [] := va_S.rf
  have hl := lv_entry ([.ref mo]) (n := 2) (Nat.le_of_ble_eq_true rfl)
  rw [lg_entry_eq]
  generalize (lg_sl ([.ref mo]) ++ List.replicate (2 - (lg_sl ([.ref mo])).length) Slot.unset).toArray = ls at hl ⊢
  have hl : lv_has ls 2 [(0, .ref mo)] := hl
  refine lv_aload_n hx hb dX11_ticks_0 rfl (lv_at hl 0 rfl) ?_
  refine va_get (v := .ref mw) (D := D) (ci := 11) (C := RX11) (T := TX11) (N := 19) hx hb hts in_X11 hown hK hP 0 rfl rfl 0 (by decide) (hts _ kl_RX11_9) (fun _ h9 => h9) rfl dX11_ticks_1 ?_
  refine lv_bipush (v := 8) hx hb dX11_ticks_4 (by decide) ?_
  refine lv_dup2_11 hx hb dX11_ticks_6 rfl rfl ?_
  refine va_iald hx hb hK hP 1 0 rfl rfl (cm_vin (by decide)) dX11_ticks_7 ?_
  refine cm_cst (y := (nI i)) rfl ?_
  refine lv_iconst (v := 1) hx hb dX11_ticks_8 (by decide) ?_
  refine lv_iadd hx hb dX11_ticks_9 ?_
  refine cm_cst (y := (nI (i + 1))) (nI_1 i) ?_
  refine va_iast hx hb hK hP hD hS 1 0 rfl rfl (cm_vin (by decide)) dX11_ticks_10 (fun H locs hP hD hS => ?_)
  have hP : va_P D vwCl [(mo, .inr (11, [.ref mw, .ref ma, .ref mf, .ref m0, .ref m1, .ref mu, .ref mv, .ref u0, .ref u1, .ref iz, .int 0, .ref mb, .int 0, .int 0, .int 0, .int 0, .int 0, .int 0, .int 0])), (mw, .inl (ct 0, 958, .inl (upd (upd m_w0 8 (nI i)) (8 : Int32).toNatClampNeg (nI (i + 1)))))] H := hP
  have hD : va_D A [(mo, .inr (11, [.ref mw, .ref ma, .ref mf, .ref m0, .ref m1, .ref mu, .ref mv, .ref u0, .ref u1, .ref iz, .int 0, .ref mb, .int 0, .int 0, .int 0, .int 0, .int 0, .int 0, .int 0])), (mw, .inl (ct 0, 958, .inl (upd (upd m_w0 8 (nI i)) (8 : Int32).toNatClampNeg (nI (i + 1)))))] := hD
  have ec_1 : ((upd m_w0 8 (nI (i + 1))) : Nat → Int32) = (upd (upd m_w0 8 (nI i)) (8 : Int32).toNatClampNeg (nI (i + 1))) := (cm_w8s i)
  have hP : va_P D vwCl [(mo, .inr (11, [.ref mw, .ref ma, .ref mf, .ref m0, .ref m1, .ref mu, .ref mv, .ref u0, .ref u1, .ref iz, .int 0, .ref mb, .int 0, .int 0, .int 0, .int 0, .int 0, .int 0, .int 0])), (mw, .inl (ct 0, 958, .inl (upd m_w0 8 (nI (i + 1)))))] H := by rw [ec_1]; exact hP
  have hD : va_D A [(mo, .inr (11, [.ref mw, .ref ma, .ref mf, .ref m0, .ref m1, .ref mu, .ref mv, .ref u0, .ref u1, .ref iz, .int 0, .ref mb, .int 0, .int 0, .int 0, .int 0, .int 0, .int 0, .int 0])), (mw, .inl (ct 0, 958, .inl (upd m_w0 8 (nI (i + 1)))))] := by rw [ec_1]; exact hD
  refine lv_iconst (v := 0) hx hb dX11_ticks_11 (by decide) ?_
  refine lv_istore_n (lv' := [(1, .int 0), (0, .ref mo)]) hx hb dX11_ticks_12 rfl hl (by decide) rfl (fun ls hl => ?_)
  refine lv_iload_n hx hb dX11_ticks_13 rfl (lv_at hl 0 rfl) ?_
  refine lv_aload_n hx hb dX11_ticks_14 rfl (lv_at hl 1 rfl) ?_
  refine va_get (v := .ref mw) (D := D) (ci := 11) (C := RX11) (T := TX11) (N := 19) hx hb hts in_X11 hown hK hP 0 rfl rfl 0 (by decide) (hts _ kl_RX11_9) (fun _ h9 => h9) rfl dX11_ticks_15 ?_
  refine lv_bipush (v := 9) hx hb dX11_ticks_18 (by decide) ?_
  refine va_iald hx hb hK hP 1 0 rfl rfl (cm_vin (by decide)) dX11_ticks_20 ?_
  refine cm_cst (y := 0) (by first | rfl | decide +kernel) ?_
  refine lv_icmp_ge (tgt := 35) hx hb dX11_ticks_21 (by decide) (fun _ => ?_) (fun hc => absurd (by decide) hc)
  have hP9 := hP.sub (ws' := [(mo, .inr (11, [.ref mw, .ref ma, .ref mf, .ref m0, .ref m1, .ref mu, .ref mv, .ref u0, .ref u1, .ref iz, .int 0, .ref mb, .int 0, .int 0, .int 0, .int 0, .int 0, .int 0, .int 0])), (mw, .inl (ct 0, 958, .inl (upd m_w0 8 (nI (i + 1)))))]) [0, 1] rfl
  have hD9 := hD.sub (ws' := [(mo, .inr (11, [.ref mw, .ref ma, .ref mf, .ref m0, .ref m1, .ref mu, .ref mv, .ref u0, .ref u1, .ref iz, .int 0, .ref mb, .int 0, .int 0, .int 0, .int 0, .int 0, .int 0, .int 0])), (mw, .inl (ct 0, 958, .inl (upd m_w0 8 (nI (i + 1)))))]) [0, 1] (by decide) rfl
  exact W.vret hx hb hr (fun t ht hW => ⟨⟨(), rfl, trivial, by rw [ht]; exact hP9, by rw [hAe]; exact hD9⟩, hS.F ht⟩) hS.2.2 dX11_ticks_35
theorem dX11_advance_0 : decode cX11_advance 0 = .ok (.aload_n 0, 1) := by decide +kernel
theorem dX11_advance_1 : decode cX11_advance 1 = .ok (.iconst 0, 1) := by decide +kernel
theorem dX11_advance_2 : decode cX11_advance 2 = .ok (.putfield 49, 3) := by decide +kernel
theorem dX11_advance_5 : decode cX11_advance 5 = .ok (.aload_n 0, 1) := by decide +kernel
theorem dX11_advance_6 : decode cX11_advance 6 = .ok (.iload_n 1, 1) := by decide +kernel
theorem dX11_advance_7 : decode cX11_advance 7 = .ok (.i2l, 1) := by decide +kernel
theorem dX11_advance_8 : decode cX11_advance 8 = .ok (.lconst 1, 1) := by decide +kernel
theorem dX11_advance_9 : decode cX11_advance 9 = .ok (.ldc2_w 338, 3) := by decide +kernel
theorem dX11_advance_12 : decode cX11_advance 12 = .ok (.invokestatic 70, 3) := by decide +kernel
theorem dX11_advance_15 : decode cX11_advance 15 = .ok (.ifCond .ne 7, 3) := by decide +kernel
theorem dX11_advance_18 : decode cX11_advance 18 = .ok (.iconst 1, 1) := by decide +kernel
theorem dX11_advance_19 : decode cX11_advance 19 = .ok (.goto 4, 3) := by decide +kernel
theorem dX11_advance_22 : decode cX11_advance 22 = .ok (.iconst 0, 1) := by decide +kernel
theorem dX11_advance_23 : decode cX11_advance 23 = .ok (.iconst 1, 1) := by decide +kernel
theorem dX11_advance_24 : decode cX11_advance 24 = .ok (.invokevirtual 328, 3) := by decide +kernel
theorem dX11_advance_27 : decode cX11_advance 27 = .ok (.ifCond .eq 5, 3) := by decide +kernel
theorem dX11_advance_30 : decode cX11_advance 30 = .ok (.iconst 0, 1) := by decide +kernel
theorem dX11_advance_31 : decode cX11_advance 31 = .ok (.ireturn, 1) := by decide +kernel
theorem dX11_advance_32 : decode cX11_advance 32 = .ok (.aload_n 0, 1) := by decide +kernel
theorem dX11_advance_33 : decode cX11_advance 33 = .ok (.getfield 9, 3) := by decide +kernel
theorem dX11_advance_36 : decode cX11_advance 36 = .ok (.bipush 8, 2) := by decide +kernel
theorem dX11_advance_38 : decode cX11_advance 38 = .ok (.iaload, 1) := by decide +kernel
theorem dX11_advance_39 : decode cX11_advance 39 = .ok (.iload_n 1, 1) := by decide +kernel
theorem dX11_advance_40 : decode cX11_advance 40 = .ok (.iadd, 1) := by decide +kernel
theorem dX11_advance_41 : decode cX11_advance 41 = .ok (.ldc_w 340, 3) := by decide +kernel
theorem dX11_advance_44 : decode cX11_advance 44 = .ok (.if_icmp .le 6, 3) := by decide +kernel
theorem dX11_advance_50 : decode cX11_advance 50 = .ok (.aload_n 0, 1) := by decide +kernel
theorem dX11_advance_51 : decode cX11_advance 51 = .ok (.iconst 0, 1) := by decide +kernel
theorem dX11_advance_52 : decode cX11_advance 52 = .ok (.putfield 300, 3) := by decide +kernel
theorem dX11_advance_55 : decode cX11_advance 55 = .ok (.iconst 0, 1) := by decide +kernel
theorem dX11_advance_56 : decode cX11_advance 56 = .ok (.istore_n 2, 1) := by decide +kernel
theorem dX11_advance_57 : decode cX11_advance 57 = .ok (.iload_n 2, 1) := by decide +kernel
theorem dX11_advance_58 : decode cX11_advance 58 = .ok (.iload_n 1, 1) := by decide +kernel
theorem dX11_advance_59 : decode cX11_advance 59 = .ok (.if_icmp .ge 13, 3) := by decide +kernel
theorem dX11_advance_62 : decode cX11_advance 62 = .ok (.aload_n 0, 1) := by decide +kernel
theorem dX11_advance_63 : decode cX11_advance 63 = .ok (.invokevirtual 341, 3) := by decide +kernel
theorem dX11_advance_66 : decode cX11_advance 66 = .ok (.iinc 2 1, 3) := by decide +kernel
theorem dX11_advance_69 : decode cX11_advance 69 = .ok (.goto (-12), 3) := by decide +kernel
theorem dX11_advance_72 : decode cX11_advance 72 = .ok (.aload_n 0, 1) := by decide +kernel
theorem dX11_advance_73 : decode cX11_advance 73 = .ok (.getfield 300, 3) := by decide +kernel
theorem dX11_advance_76 : decode cX11_advance 76 = .ok (.ireturn, 1) := by decide +kernel
set_option maxRecDepth 100000 in
set_option maxHeartbeats 4000000 in
theorem m_advance_0 (l : Launch) (D : va_G) (ct : Nat → ClassId) (mo : Nat) (mw : Nat) (ma : Nat) (mf : Nat) (m0 : Nat) (m1 : Nat) (mu : Nat) (mv : Nat) (u0 : Nat) (u1 : Nat) (iz : Nat) (mb : Nat) (p1 : Int32) (sz : Nat) : Met l yX11_advance (ws_ yX11_advance cX11_advance 3 (some .int)) ({ frames := 1, cells := 0, slots := 0, locals := 25 } : Room) (va_Pc [.ref mo, .int p1] (cmP D ct sz [(mo, .inr (11, [.ref mw, .ref ma, .ref mf, .ref m0, .ref m1, .ref mu, .ref mv, .ref u0, .ref u1, .ref iz, .int 0, .ref mb, .int 0, .int 0, .int 0, .int 0, .int 0, .int 0, .int 0])), (mw, .inl (ct 0, 958, .inl m_w0))])) (va_Qi (fun (r : Int32) (th : Int32) => (th = 0 ∧ (1 ≤ p1 ∧ p1 ≤ 5000) ∧ r = 0) ∨ (th = 1 ∧ (p1 < 1 ∨ 5000 < p1))) (cmB D [(mo, .inr (11, [.ref mw, .ref ma, .ref mf, .ref m0, .ref m1, .ref mu, .ref mv, .ref u0, .ref u1, .ref iz, .int 0, .ref mb, .int 0, .int 0, .int 0, .int 0, .int 0, .int 0, .int 0])), (mw, .inl (ct 0, 958, .inl m_w0))] sz (fun th : Int32 => [(mo, .inr (11, [.ref mw, .ref ma, .ref mf, .ref m0, .ref m1, .ref mu, .ref mv, .ref u0, .ref u1, .ref iz, .int th, .ref mb, .int 0, .int 0, .int 0, .int 0, .int 0, .int 0, .int 0]))])) (va_A [(mo, .inr (11, [.ref mw, .ref ma, .ref mf, .ref m0, .ref m1, .ref mu, .ref mv, .ref u0, .ref u1, .ref iz, .int 0, .ref mb, .int 0, .int 0, .int 0, .int 0, .int 0, .int 0, .int 0])), (mw, .inl (ct 0, 958, .inl m_w0))] sz)) 0 0 (va_A [(mo, .inr (11, [.ref mw, .ref ma, .ref mf, .ref m0, .ref m1, .ref mu, .ref mv, .ref u0, .ref u1, .ref iz, .int 0, .ref mb, .int 0, .int 0, .int 0, .int 0, .int 0, .int 0, .int 0])), (mw, .inl (ct 0, 958, .inl m_w0))] sz) := by
  refine Met.ofW (cc := cX11_advance) (maxL := 3) (ret := (some .int)) (by decide) rfl ?_
  intro p e s m args below meth c s₁ B hml hv
  obtain ⟨rfl, hsz, hP, hK, hD0, hX⟩ := hv
  have hx := B.exec
  have hb := B.bytes
  have hr := B.returns
  have hts := ws_all (atoms_spec (ws := ws_ yX11_advance cX11_advance 3 (some .int)) B.pre)
  have hown : s.vm.findClass RX11 = some m.cls := findClass_of_methodNamed B.named
  have hlocks := B.notSynchronized
  subst hsz
  have hD := hD0.self (sz := s.heap.size)
  generalize hAe : va_A [(mo, .inr (11, [.ref mw, .ref ma, .ref mf, .ref m0, .ref m1, .ref mu, .ref mv, .ref u0, .ref u1, .ref iz, .int 0, .ref mb, .int 0, .int 0, .int 0, .int 0, .int 0, .int 0, .int 0])), (mw, .inl (ct 0, 958, .inl m_w0))] s.heap.size = A at hD hX ⊢
  have hA : ∀ q : Nat, s.heap.size ≤ q → A q := fun q h => by rw [← hAe]; exact Or.inr h
  have hS : va_S A s.heap s.heap [] := va_S.rf
  have hl := lv_entry ([.ref mo, .int p1]) (n := 3) (Nat.le_of_ble_eq_true rfl)
  rw [lg_entry_eq]
  generalize (lg_sl ([.ref mo, .int p1]) ++ List.replicate (3 - (lg_sl ([.ref mo, .int p1])).length) Slot.unset).toArray = ls at hl ⊢
  have hl : lv_has ls 3 [(0, .ref mo), (1, .int p1)] := hl
  refine lv_aload_n hx hb dX11_advance_0 rfl (lv_at hl 0 rfl) ?_
  refine lv_iconst (v := 0) hx hb dX11_advance_1 (by decide) ?_
  refine va_put (v := .int 0) (ty := .int) (D := D) (ci := 11) (C := RX11) (T := TX11) (N := 19) hx hb hts in_X11 tyX11 tyX11_ok nmX11 hown hK hP hD hS 0 rfl rfl 10 (by decide) (hts _ kl_RX11_49) (fun _ h9 => h9) rfl (by decide +kernel) rfl rfl (Nat.le_of_ble_eq_true rfl) dX11_advance_2 (fun H locs hP hD hS => ?_)
  have hP : va_P D vwCl [(mo, .inr (11, [.ref mw, .ref ma, .ref mf, .ref m0, .ref m1, .ref mu, .ref mv, .ref u0, .ref u1, .ref iz, .int 0, .ref mb, .int 0, .int 0, .int 0, .int 0, .int 0, .int 0, .int 0])), (mw, .inl (ct 0, 958, .inl m_w0))] H := hP
  have hD : va_D A [(mo, .inr (11, [.ref mw, .ref ma, .ref mf, .ref m0, .ref m1, .ref mu, .ref mv, .ref u0, .ref u1, .ref iz, .int 0, .ref mb, .int 0, .int 0, .int 0, .int 0, .int 0, .int 0, .int 0])), (mw, .inl (ct 0, 958, .inl m_w0))] := hD
  refine lv_aload_n hx hb dX11_advance_5 rfl (lv_at hl 0 rfl) ?_
  refine lv_iload_n hx hb dX11_advance_6 rfl (lv_at hl 1 rfl) ?_
  refine lv_i2l hx hb dX11_advance_7 rfl ?_
  refine lv_lconst (v := 1) hx hb dX11_advance_8 (by decide) ?_
  refine lv_ldc2 hx hb hown (hts _ kl_RX11_338) dX11_advance_9 ?_
  refine cm_ki (wr := [(mo, .inr (11, [.ref mw, .ref ma, .ref mf, .ref m0, .ref m1, .ref mu, .ref mv, .ref u0, .ref u1, .ref iz, .int 0, .ref mb, .int 0, .int 0, .int 0, .int 0, .int 0, .int 0, .int 0])), (mw, .inl (ct 0, 958, .inl m_w0))]) (va_runS (As := [.long p1.toInt64, .long 1, .long 5000]) (rest := [.ref mo]) ⟨hx, hb, hml, hown, hts⟩ (m_in l D ct p1.toInt64 1 5000 _) (cm_S 3 hts kc_X11_in ki_RX11 kl_RX11_70 ks_X11_in kd_X11_in ⟨Nat.le_of_ble_eq_true rfl, Nat.le_of_ble_eq_true rfl⟩) (cm_preS hP hK hD hS hA hX [] rfl rfl rfl) rfl rfl hl.1 rfl (lv_room (Nat.le_of_ble_eq_true rfl)) dX11_advance_12 ⟨Nat.le_of_ble_eq_true rfl, Nat.le_of_ble_eq_true rfl⟩) hP hD hS hA [] [0, 1] rfl rfl rfl (by decide) (fun r_1 u H locs hw_2 hP hD hS => ?_)
  have hw_2 : r_1 = (cm_rng p1.toInt64 1 5000) := hw_2
  obtain rfl := hw_2
  have hP : va_P D vwCl [(mo, .inr (11, [.ref mw, .ref ma, .ref mf, .ref m0, .ref m1, .ref mu, .ref mv, .ref u0, .ref u1, .ref iz, .int 0, .ref mb, .int 0, .int 0, .int 0, .int 0, .int 0, .int 0, .int 0])), (mw, .inl (ct 0, 958, .inl m_w0))] H := hP
  have hD : va_D A [(mo, .inr (11, [.ref mw, .ref ma, .ref mf, .ref m0, .ref m1, .ref mu, .ref mv, .ref u0, .ref u1, .ref iz, .int 0, .ref mb, .int 0, .int 0, .int 0, .int 0, .int 0, .int 0, .int 0])), (mw, .inl (ct 0, 958, .inl m_w0))] := hD
  refine lv_if_ne (tgt := 22) hx hb dX11_advance_15 (by decide) (fun hc_3 => ?_) (fun hc_3 => ?_)
  · refine lv_iconst (v := 0) hx hb dX11_advance_22 (by decide) ?_
    refine lv_iconst (v := 1) hx hb dX11_advance_23 (by decide) ?_
    refine cm_ki (wr := [(mw, .inl (ct 0, 958, .inl m_w0))]) (va_runV (As := [.int 0, .int 1]) (rest := []) ⟨hx, hb, hml, hown, hts⟩ (m_throwsIf_01 l D ct mo mw ma mf m0 m1 mu mv u0 u1 iz mb _) (cm_V 2 hts kc_X11_throwsIf ki_RX11 kl_RX11_328 kv_X11_throwsIf kx_X11_throwsIf kd_X11_throwsIf ⟨Nat.le_of_ble_eq_true rfl, Nat.le_of_ble_eq_true rfl⟩) (cm_preV hP hK hD hS hA hX [0] rfl rfl rfl (q0 := 0) (ci := 11) rfl rfl) rfl rfl hl.1 rfl (lv_room (Nat.le_of_ble_eq_true rfl)) dX11_advance_24 ⟨Nat.le_of_ble_eq_true rfl, Nat.le_of_ble_eq_true rfl⟩) hP hD hS hA [0] [1] rfl rfl rfl (by decide) (fun r_4 u H locs hw_5 hP hD hS => ?_)
    have hw_5 : r_4 = 0 := hw_5
    obtain rfl := hw_5
    have hP : va_P D vwCl [(mw, .inl (ct 0, 958, .inl m_w0)), (mo, .inr (11, [.ref mw, .ref ma, .ref mf, .ref m0, .ref m1, .ref mu, .ref mv, .ref u0, .ref u1, .ref iz, .int 0, .ref mb, .int 0, .int 0, .int 0, .int 0, .int 0, .int 0, .int 0]))] H := hP
    have hD : va_D A [(mw, .inl (ct 0, 958, .inl m_w0)), (mo, .inr (11, [.ref mw, .ref ma, .ref mf, .ref m0, .ref m1, .ref mu, .ref mv, .ref u0, .ref u1, .ref iz, .int 0, .ref mb, .int 0, .int 0, .int 0, .int 0, .int 0, .int 0, .int 0]))] := hD
    refine lv_if_eq (tgt := 32) hx hb dX11_advance_27 (by decide) (fun _ => ?_) (fun hc => absurd (by decide) hc)
    obtain ⟨t, ht1, ht2, rfl⟩ := cm_tk (cm_inT2 (lo := 1) (hi := 5000) (by decide) (by decide) hc_3)
    refine lv_aload_n hx hb dX11_advance_32 rfl (lv_at hl 0 rfl) ?_
    refine va_get (v := .ref mw) (D := D) (ci := 11) (C := RX11) (T := TX11) (N := 19) hx hb hts in_X11 hown hK hP 1 rfl rfl 0 (by decide) (hts _ kl_RX11_9) (fun _ h9 => h9) rfl dX11_advance_33 ?_
    refine lv_bipush (v := 8) hx hb dX11_advance_36 (by decide) ?_
    refine va_iald hx hb hK hP 0 0 rfl rfl (cm_vin (by decide)) dX11_advance_38 ?_
    refine cm_cst (y := 0) (by first | rfl | decide +kernel) ?_
    refine lv_iload_n hx hb dX11_advance_39 rfl (lv_at hl 1 rfl) ?_
    refine lv_iadd hx hb dX11_advance_40 ?_
    refine lv_ldcw hx hb hown (hts _ kl_RX11_340) dX11_advance_41 ?_
    refine lv_icmp_le (tgt := 50) hx hb dX11_advance_44 (by decide) (fun _ => ?_) (fun hc => absurd (cm_tk3 ht2) hc)
    refine lv_aload_n hx hb dX11_advance_50 rfl (lv_at hl 0 rfl) ?_
    refine lv_iconst (v := 0) hx hb dX11_advance_51 (by decide) ?_
    refine va_put (v := .int 0) (ty := .int) (D := D) (ci := 11) (C := RX11) (T := TX11) (N := 19) hx hb hts in_X11 tyX11 tyX11_ok nmX11 hown hK hP hD hS 1 rfl rfl 18 (by decide) (hts _ kl_RX11_300) (fun _ h9 => h9) rfl (by decide +kernel) rfl rfl (Nat.le_of_ble_eq_true rfl) dX11_advance_52 (fun H locs hP hD hS => ?_)
    have hP : va_P D vwCl [(mw, .inl (ct 0, 958, .inl m_w0)), (mo, .inr (11, [.ref mw, .ref ma, .ref mf, .ref m0, .ref m1, .ref mu, .ref mv, .ref u0, .ref u1, .ref iz, .int 0, .ref mb, .int 0, .int 0, .int 0, .int 0, .int 0, .int 0, .int 0]))] H := hP
    have hD : va_D A [(mw, .inl (ct 0, 958, .inl m_w0)), (mo, .inr (11, [.ref mw, .ref ma, .ref mf, .ref m0, .ref m1, .ref mu, .ref mv, .ref u0, .ref u1, .ref iz, .int 0, .ref mb, .int 0, .int 0, .int 0, .int 0, .int 0, .int 0, .int 0]))] := hD
    refine lv_iconst (v := 0) hx hb dX11_advance_55 (by decide) ?_
    refine lv_istore_n (lv' := [(2, .int 0), (0, .ref mo), (1, .int (nI t))]) hx hb dX11_advance_56 rfl hl (by decide) rfl (fun ls hl => ?_)
    have ec_6 : ((upd m_w0 8 (nI 0)) : Nat → Int32) = m_w0 := cm_w8
    have hP : va_P D vwCl [(mw, .inl (ct 0, 958, .inl (upd m_w0 8 (nI 0)))), (mo, .inr (11, [.ref mw, .ref ma, .ref mf, .ref m0, .ref m1, .ref mu, .ref mv, .ref u0, .ref u1, .ref iz, .int 0, .ref mb, .int 0, .int 0, .int 0, .int 0, .int 0, .int 0, .int 0]))] H := by rw [ec_6]; exact hP
    have hD : va_D A [(mw, .inl (ct 0, 958, .inl (upd m_w0 8 (nI 0)))), (mo, .inr (11, [.ref mw, .ref ma, .ref mf, .ref m0, .ref m1, .ref mu, .ref mv, .ref u0, .ref u1, .ref iz, .int 0, .ref mb, .int 0, .int 0, .int 0, .int 0, .int 0, .int 0, .int 0]))] := by rw [ec_6]; exact hD
    refine cm_loop (N := t) (I := fun i H locs ls => va_P D vwCl [(mo, .inr (11, [.ref mw, .ref ma, .ref mf, .ref m0, .ref m1, .ref mu, .ref mv, .ref u0, .ref u1, .ref iz, .int 0, .ref mb, .int 0, .int 0, .int 0, .int 0, .int 0, .int 0, .int 0])), (mw, .inl (ct 0, 958, .inl (upd m_w0 8 (nI i))))] H ∧ va_D A [(mo, .inr (11, [.ref mw, .ref ma, .ref mf, .ref m0, .ref m1, .ref mu, .ref mv, .ref u0, .ref u1, .ref iz, .int 0, .ref mb, .int 0, .int 0, .int 0, .int 0, .int 0, .int 0, .int 0])), (mw, .inl (ct 0, 958, .inl (upd m_w0 8 (nI i))))] ∧ va_S A s.heap H locs ∧ lv_has ls 3 [(0, .ref mo), (1, .int (nI t)), (2, .int (nI i))]) ⟨(hP.sub [1, 0] rfl), (hD.sub [1, 0] (by decide) rfl), hS, (lv_sub hl [1, 2, 0] rfl)⟩ (fun i H locs ls hi hI ih => ?_) (fun H locs ls hI => ?_)
    · obtain ⟨hP, hD, hS, hl⟩ := hI
      have hP : va_P D vwCl [(mo, .inr (11, [.ref mw, .ref ma, .ref mf, .ref m0, .ref m1, .ref mu, .ref mv, .ref u0, .ref u1, .ref iz, .int 0, .ref mb, .int 0, .int 0, .int 0, .int 0, .int 0, .int 0, .int 0])), (mw, .inl (ct 0, 958, .inl (upd m_w0 8 (nI i))))] H := hP
      have hD : va_D A [(mo, .inr (11, [.ref mw, .ref ma, .ref mf, .ref m0, .ref m1, .ref mu, .ref mv, .ref u0, .ref u1, .ref iz, .int 0, .ref mb, .int 0, .int 0, .int 0, .int 0, .int 0, .int 0, .int 0])), (mw, .inl (ct 0, 958, .inl (upd m_w0 8 (nI i))))] := hD
      have hl : lv_has ls 3 [(0, .ref mo), (1, .int (nI t)), (2, .int (nI i))] := hl
      refine lv_iload_n hx hb dX11_advance_57 rfl (lv_at hl 2 rfl) ?_
      refine lv_iload_n hx hb dX11_advance_58 rfl (lv_at hl 1 rfl) ?_
      refine lv_icmp_ge (tgt := 72) hx hb dX11_advance_59 (by decide) (fun hc => absurd hc (nI_ge hi (by omega))) (fun _ => ?_)
      refine lv_aload_n hx hb dX11_advance_62 rfl (lv_at hl 0 rfl) ?_
      refine cm_kv (wr := []) (va_runV (As := []) (rest := []) ⟨hx, hb, hml, hown, hts⟩ (m_ticks_0 l D ct mo mw ma mf m0 m1 mu mv u0 u1 iz mb i _) (cm_V 0 hts kc_X11_ticks ki_RX11 kl_RX11_341 kv_X11_ticks kx_X11_ticks kd_X11_ticks ⟨Nat.le_of_ble_eq_true rfl, Nat.le_of_ble_eq_true rfl⟩) (cm_preV hP hK hD hS hA hX [0, 1] rfl rfl rfl (q0 := 0) (ci := 11) rfl rfl) rfl rfl hl.1 rfl (lv_room (Nat.le_of_ble_eq_true rfl)) dX11_advance_63 ⟨Nat.le_of_ble_eq_true rfl, Nat.le_of_ble_eq_true rfl⟩) hP hD hS hA [0, 1] [] rfl rfl rfl (by decide) (fun u H locs hw_8 hP hD hS => ?_)
      have hP : va_P D vwCl [(mo, .inr (11, [.ref mw, .ref ma, .ref mf, .ref m0, .ref m1, .ref mu, .ref mv, .ref u0, .ref u1, .ref iz, .int 0, .ref mb, .int 0, .int 0, .int 0, .int 0, .int 0, .int 0, .int 0])), (mw, .inl (ct 0, 958, .inl (upd m_w0 8 (nI (i + 1)))))] H := hP
      have hD : va_D A [(mo, .inr (11, [.ref mw, .ref ma, .ref mf, .ref m0, .ref m1, .ref mu, .ref mv, .ref u0, .ref u1, .ref iz, .int 0, .ref mb, .int 0, .int 0, .int 0, .int 0, .int 0, .int 0, .int 0])), (mw, .inl (ct 0, 958, .inl (upd m_w0 8 (nI (i + 1)))))] := hD
      refine lv_iinc (v := (nI (i + 1))) (lv' := [(2, .int (nI (i + 1))), (0, .ref mo), (1, .int (nI t))]) hx hb dX11_advance_66 hl (k := 2) rfl (nI_1 i) (by decide) rfl (fun ls hl => ?_)
      refine lv_goto (tgt := 57) hx hb dX11_advance_69 (by decide) ?_
      exact ih _ _ _ ⟨hP, hD, hS, (lv_sub hl [1, 2, 0] rfl)⟩
    · obtain ⟨hP, hD, hS, hl⟩ := hI
      have hP : va_P D vwCl [(mo, .inr (11, [.ref mw, .ref ma, .ref mf, .ref m0, .ref m1, .ref mu, .ref mv, .ref u0, .ref u1, .ref iz, .int 0, .ref mb, .int 0, .int 0, .int 0, .int 0, .int 0, .int 0, .int 0])), (mw, .inl (ct 0, 958, .inl (upd m_w0 8 (nI t))))] H := hP
      have hD : va_D A [(mo, .inr (11, [.ref mw, .ref ma, .ref mf, .ref m0, .ref m1, .ref mu, .ref mv, .ref u0, .ref u1, .ref iz, .int 0, .ref mb, .int 0, .int 0, .int 0, .int 0, .int 0, .int 0, .int 0])), (mw, .inl (ct 0, 958, .inl (upd m_w0 8 (nI t))))] := hD
      have hl : lv_has ls 3 [(0, .ref mo), (1, .int (nI t)), (2, .int (nI t))] := hl
      refine lv_iload_n hx hb dX11_advance_57 rfl (lv_at hl 2 rfl) ?_
      refine lv_iload_n hx hb dX11_advance_58 rfl (lv_at hl 1 rfl) ?_
      refine lv_icmp_ge (tgt := 72) hx hb dX11_advance_59 (by decide) (fun _ => ?_) (fun hc => absurd (nI_le (Nat.le_refl t) (by omega)) hc)
      refine lv_aload_n hx hb dX11_advance_72 rfl (lv_at hl 0 rfl) ?_
      refine va_get (v := .int 0) (D := D) (ci := 11) (C := RX11) (T := TX11) (N := 19) hx hb hts in_X11 hown hK hP 0 rfl rfl 18 (by decide) (hts _ kl_RX11_300) (fun _ h9 => h9) rfl dX11_advance_73 ?_
      have hP9 := hP.sub (ws' := [(mo, .inr (11, [.ref mw, .ref ma, .ref mf, .ref m0, .ref m1, .ref mu, .ref mv, .ref u0, .ref u1, .ref iz, .int 0, .ref mb, .int 0, .int 0, .int 0, .int 0, .int 0, .int 0, .int 0]))]) [0] rfl
      have hD9 := hD.sub (ws' := [(mo, .inr (11, [.ref mw, .ref ma, .ref mf, .ref m0, .ref m1, .ref mu, .ref mv, .ref u0, .ref u1, .ref iz, .int 0, .ref mb, .int 0, .int 0, .int 0, .int 0, .int 0, .int 0, .int 0]))]) [0] (by decide) rfl
      exact W.iret (v := 0) hx hb hr (fun t ht hW => ⟨⟨0, 0, rfl, (Or.inl ⟨rfl, cm_inT2 (by decide) (by decide) hc_3, rfl⟩), by rw [ht]; exact hP9, by rw [hAe]; exact hD9⟩, hS.F ht⟩) hS.2.2 dX11_advance_76
  · refine lv_iconst (v := 1) hx hb dX11_advance_18 (by decide) ?_
    refine lv_goto (tgt := 23) hx hb dX11_advance_19 (by decide) ?_
    refine lv_iconst (v := 1) hx hb dX11_advance_23 (by decide) ?_
    refine cm_ki (wr := [(mw, .inl (ct 0, 958, .inl m_w0))]) (va_runV (As := [.int 1, .int 1]) (rest := []) ⟨hx, hb, hml, hown, hts⟩ (m_throwsIf_11 l D ct mo mw ma mf m0 m1 mu mv u0 u1 iz mb _) (cm_V 2 hts kc_X11_throwsIf ki_RX11 kl_RX11_328 kv_X11_throwsIf kx_X11_throwsIf kd_X11_throwsIf ⟨Nat.le_of_ble_eq_true rfl, Nat.le_of_ble_eq_true rfl⟩) (cm_preV hP hK hD hS hA hX [0] rfl rfl rfl (q0 := 0) (ci := 11) rfl rfl) rfl rfl hl.1 rfl (lv_room (Nat.le_of_ble_eq_true rfl)) dX11_advance_24 ⟨Nat.le_of_ble_eq_true rfl, Nat.le_of_ble_eq_true rfl⟩) hP hD hS hA [0] [1] rfl rfl rfl (by decide) (fun r_9 u H locs hw_10 hP hD hS => ?_)
    have hw_10 : r_9 = 1 := hw_10
    obtain rfl := hw_10
    have hP : va_P D vwCl [(mw, .inl (ct 0, 958, .inl m_w0)), (mo, .inr (11, [.ref mw, .ref ma, .ref mf, .ref m0, .ref m1, .ref mu, .ref mv, .ref u0, .ref u1, .ref iz, .int 1, .ref mb, .int 0, .int 0, .int 0, .int 0, .int 0, .int 0, .int 0]))] H := hP
    have hD : va_D A [(mw, .inl (ct 0, 958, .inl m_w0)), (mo, .inr (11, [.ref mw, .ref ma, .ref mf, .ref m0, .ref m1, .ref mu, .ref mv, .ref u0, .ref u1, .ref iz, .int 1, .ref mb, .int 0, .int 0, .int 0, .int 0, .int 0, .int 0, .int 0]))] := hD
    refine lv_if_eq (tgt := 32) hx hb dX11_advance_27 (by decide) (fun hc => absurd hc (by decide)) (fun _ => ?_)
    refine lv_iconst (v := 0) hx hb dX11_advance_30 (by decide) ?_
    have hP9 := hP.sub (ws' := [(mo, .inr (11, [.ref mw, .ref ma, .ref mf, .ref m0, .ref m1, .ref mu, .ref mv, .ref u0, .ref u1, .ref iz, .int 1, .ref mb, .int 0, .int 0, .int 0, .int 0, .int 0, .int 0, .int 0]))]) [1] rfl
    have hD9 := hD.sub (ws' := [(mo, .inr (11, [.ref mw, .ref ma, .ref mf, .ref m0, .ref m1, .ref mu, .ref mv, .ref u0, .ref u1, .ref iz, .int 1, .ref mb, .int 0, .int 0, .int 0, .int 0, .int 0, .int 0, .int 0]))]) [1] (by decide) rfl
    exact W.iret (v := 0) hx hb hr (fun t ht hW => ⟨⟨0, 1, rfl, (Or.inr ⟨rfl, cm_inF (by decide) (by decide) hc_3⟩), by rw [ht]; exact hP9, by rw [hAe]; exact hD9⟩, hS.F ht⟩) hS.2.2 dX11_advance_31
theorem cm_vin3 (b : Int64) {i : Nat} (hi : i < 8) : vp_in (cm_cn2 b i) 800 := by
  have h := cm_cn2_le b i (by omega)
  rw [vp_in_iff]
  omega
theorem dX11_append_0 : decode cX11_append 0 = .ok (.aload_n 0, 1) := by decide +kernel
theorem dX11_append_1 : decode cX11_append 1 = .ok (.iconst 0, 1) := by decide +kernel
theorem dX11_append_2 : decode cX11_append 2 = .ok (.putfield 49, 3) := by decide +kernel
theorem dX11_append_5 : decode cX11_append 5 = .ok (.iconst 0, 1) := by decide +kernel
theorem dX11_append_6 : decode cX11_append 6 = .ok (.istore_n 3, 1) := by decide +kernel
theorem dX11_append_7 : decode cX11_append 7 = .ok (.bipush 56, 2) := by decide +kernel
theorem dX11_append_9 : decode cX11_append 9 = .ok (.istore 4, 2) := by decide +kernel
theorem dX11_append_11 : decode cX11_append 11 = .ok (.iload 4, 2) := by decide +kernel
theorem dX11_append_13 : decode cX11_append 13 = .ok (.ifCond .lt 30, 3) := by decide +kernel
theorem dX11_append_16 : decode cX11_append 16 = .ok (.iload_n 3, 1) := by decide +kernel
theorem dX11_append_17 : decode cX11_append 17 = .ok (.lload_n 1, 1) := by decide +kernel
theorem dX11_append_18 : decode cX11_append 18 = .ok (.iload 4, 2) := by decide +kernel
theorem dX11_append_20 : decode cX11_append 20 = .ok (.lushr, 1) := by decide +kernel
theorem dX11_append_21 : decode cX11_append 21 = .ok (.ldc2_w 54, 3) := by decide +kernel
theorem dX11_append_24 : decode cX11_append 24 = .ok (.land, 1) := by decide +kernel
theorem dX11_append_25 : decode cX11_append 25 = .ok (.lconst 0, 1) := by decide +kernel
theorem dX11_append_26 : decode cX11_append 26 = .ok (.lcmp, 1) := by decide +kernel
theorem dX11_append_27 : decode cX11_append 27 = .ok (.ifCond .eq 7, 3) := by decide +kernel
theorem dX11_append_30 : decode cX11_append 30 = .ok (.iconst 1, 1) := by decide +kernel
theorem dX11_append_31 : decode cX11_append 31 = .ok (.goto 4, 3) := by decide +kernel
theorem dX11_append_34 : decode cX11_append 34 = .ok (.iconst 0, 1) := by decide +kernel
theorem dX11_append_35 : decode cX11_append 35 = .ok (.iadd, 1) := by decide +kernel
theorem dX11_append_36 : decode cX11_append 36 = .ok (.istore_n 3, 1) := by decide +kernel
theorem dX11_append_37 : decode cX11_append 37 = .ok (.iinc 4 (-8), 3) := by decide +kernel
theorem dX11_append_40 : decode cX11_append 40 = .ok (.goto (-29), 3) := by decide +kernel
theorem dX11_append_43 : decode cX11_append 43 = .ok (.aload_n 0, 1) := by decide +kernel
theorem dX11_append_44 : decode cX11_append 44 = .ok (.getfield 56, 3) := by decide +kernel
theorem dX11_append_47 : decode cX11_append 47 = .ok (.iload_n 3, 1) := by decide +kernel
theorem dX11_append_48 : decode cX11_append 48 = .ok (.iadd, 1) := by decide +kernel
theorem dX11_append_49 : decode cX11_append 49 = .ok (.sipush 800, 3) := by decide +kernel
theorem dX11_append_52 : decode cX11_append 52 = .ok (.if_icmp .le 6, 3) := by decide +kernel
theorem dX11_append_58 : decode cX11_append 58 = .ok (.bipush 56, 2) := by decide +kernel
theorem dX11_append_60 : decode cX11_append 60 = .ok (.istore 4, 2) := by decide +kernel
theorem dX11_append_62 : decode cX11_append 62 = .ok (.iload 4, 2) := by decide +kernel
theorem dX11_append_64 : decode cX11_append 64 = .ok (.ifCond .lt 49, 3) := by decide +kernel
theorem dX11_append_67 : decode cX11_append 67 = .ok (.lload_n 1, 1) := by decide +kernel
theorem dX11_append_68 : decode cX11_append 68 = .ok (.iload 4, 2) := by decide +kernel
theorem dX11_append_70 : decode cX11_append 70 = .ok (.lushr, 1) := by decide +kernel
theorem dX11_append_71 : decode cX11_append 71 = .ok (.ldc2_w 54, 3) := by decide +kernel
theorem dX11_append_74 : decode cX11_append 74 = .ok (.land, 1) := by decide +kernel
theorem dX11_append_75 : decode cX11_append 75 = .ok (.l2i, 1) := by decide +kernel
theorem dX11_append_76 : decode cX11_append 76 = .ok (.istore 5, 2) := by decide +kernel
theorem dX11_append_78 : decode cX11_append 78 = .ok (.iload 5, 2) := by decide +kernel
theorem dX11_append_80 : decode cX11_append 80 = .ok (.ifCond .ne 6, 3) := by decide +kernel
theorem dX11_append_83 : decode cX11_append 83 = .ok (.goto 24, 3) := by decide +kernel
theorem dX11_append_86 : decode cX11_append 86 = .ok (.aload_n 0, 1) := by decide +kernel
theorem dX11_append_87 : decode cX11_append 87 = .ok (.getfield 42, 3) := by decide +kernel
theorem dX11_append_90 : decode cX11_append 90 = .ok (.aload_n 0, 1) := by decide +kernel
theorem dX11_append_91 : decode cX11_append 91 = .ok (.getfield 56, 3) := by decide +kernel
theorem dX11_append_94 : decode cX11_append 94 = .ok (.iload 5, 2) := by decide +kernel
theorem dX11_append_96 : decode cX11_append 96 = .ok (.iastore, 1) := by decide +kernel
theorem dX11_append_97 : decode cX11_append 97 = .ok (.aload_n 0, 1) := by decide +kernel
theorem dX11_append_98 : decode cX11_append 98 = .ok (.dup, 1) := by decide +kernel
theorem dX11_append_99 : decode cX11_append 99 = .ok (.getfield 56, 3) := by decide +kernel
theorem dX11_append_102 : decode cX11_append 102 = .ok (.iconst 1, 1) := by decide +kernel
theorem dX11_append_103 : decode cX11_append 103 = .ok (.iadd, 1) := by decide +kernel
theorem dX11_append_104 : decode cX11_append 104 = .ok (.putfield 56, 3) := by decide +kernel
theorem dX11_append_107 : decode cX11_append 107 = .ok (.iinc 4 (-8), 3) := by decide +kernel
theorem dX11_append_110 : decode cX11_append 110 = .ok (.goto (-48), 3) := by decide +kernel
theorem dX11_append_113 : decode cX11_append 113 = .ok (.aload_n 0, 1) := by decide +kernel
theorem dX11_append_114 : decode cX11_append 114 = .ok (.getfield 56, 3) := by decide +kernel
theorem dX11_append_117 : decode cX11_append 117 = .ok (.ireturn, 1) := by decide +kernel
set_option maxRecDepth 100000 in
set_option maxHeartbeats 4000000 in
theorem m_append_0 (l : Launch) (D : va_G) (ct : Nat → ClassId) (mo : Nat) (mw : Nat) (ma : Nat) (mf : Nat) (m0 : Nat) (m1 : Nat) (mu : Nat) (mv : Nat) (u0 : Nat) (u1 : Nat) (iz : Nat) (mb : Nat) (p1 : Int64) (sz : Nat) : Met l yX11_append (ws_ yX11_append cX11_append 6 (some .int)) ({ frames := 0, cells := 0, slots := 0, locals := 0 } : Room) (va_Pc [.ref mo, .long p1] (cmP D ct sz [(mo, .inr (11, [.ref mw, .ref ma, .ref mf, .ref m0, .ref m1, .ref mu, .ref mv, .ref u0, .ref u1, .ref iz, .int 0, .ref mb, .int 0, .int 0, .int 0, .int 0, .int 0, .int 0, .int 0])), (mb, .inl (ct 0, 800, .inl (fun _ => 0)))])) (va_Qi (fun (r : Int32) (_ : Unit) => r = (cm_cn2 p1 8)) (cmB D [(mo, .inr (11, [.ref mw, .ref ma, .ref mf, .ref m0, .ref m1, .ref mu, .ref mv, .ref u0, .ref u1, .ref iz, .int 0, .ref mb, .int 0, .int 0, .int 0, .int 0, .int 0, .int 0, .int 0])), (mb, .inl (ct 0, 800, .inl (fun _ => 0)))] sz (fun _ : Unit => [(mo, .inr (11, [.ref mw, .ref ma, .ref mf, .ref m0, .ref m1, .ref mu, .ref mv, .ref u0, .ref u1, .ref iz, .int 0, .ref mb, .int (cm_cn2 p1 8), .int 0, .int 0, .int 0, .int 0, .int 0, .int 0]))])) (va_A [(mo, .inr (11, [.ref mw, .ref ma, .ref mf, .ref m0, .ref m1, .ref mu, .ref mv, .ref u0, .ref u1, .ref iz, .int 0, .ref mb, .int 0, .int 0, .int 0, .int 0, .int 0, .int 0, .int 0])), (mb, .inl (ct 0, 800, .inl (fun _ => 0)))] sz)) 0 0 (va_A [(mo, .inr (11, [.ref mw, .ref ma, .ref mf, .ref m0, .ref m1, .ref mu, .ref mv, .ref u0, .ref u1, .ref iz, .int 0, .ref mb, .int 0, .int 0, .int 0, .int 0, .int 0, .int 0, .int 0])), (mb, .inl (ct 0, 800, .inl (fun _ => 0)))] sz) := by
  refine Met.ofW (cc := cX11_append) (maxL := 6) (ret := (some .int)) (by decide) rfl ?_
  intro p e s m args below meth c s₁ B hml hv
  obtain ⟨rfl, hsz, hP, hK, hD0, hX⟩ := hv
  have hx := B.exec
  have hb := B.bytes
  have hr := B.returns
  have hts := ws_all (atoms_spec (ws := ws_ yX11_append cX11_append 6 (some .int)) B.pre)
  have hown : s.vm.findClass RX11 = some m.cls := findClass_of_methodNamed B.named
  have hlocks := B.notSynchronized
  subst hsz
  have hD := hD0.self (sz := s.heap.size)
  generalize hAe : va_A [(mo, .inr (11, [.ref mw, .ref ma, .ref mf, .ref m0, .ref m1, .ref mu, .ref mv, .ref u0, .ref u1, .ref iz, .int 0, .ref mb, .int 0, .int 0, .int 0, .int 0, .int 0, .int 0, .int 0])), (mb, .inl (ct 0, 800, .inl (fun _ => 0)))] s.heap.size = A at hD hX ⊢
  have hA : ∀ q : Nat, s.heap.size ≤ q → A q := fun q h => by rw [← hAe]; exact Or.inr h
  have hS : va_S A s.heap s.heap [] := va_S.rf
  have hl := lv_entry ([.ref mo, .long p1]) (n := 6) (Nat.le_of_ble_eq_true rfl)
  rw [lg_entry_eq]
  generalize (lg_sl ([.ref mo, .long p1]) ++ List.replicate (6 - (lg_sl ([.ref mo, .long p1])).length) Slot.unset).toArray = ls at hl ⊢
  have hl : lv_has ls 6 [(0, .ref mo), (1, .long p1)] := hl
  refine lv_aload_n hx hb dX11_append_0 rfl (lv_at hl 0 rfl) ?_
  refine lv_iconst (v := 0) hx hb dX11_append_1 (by decide) ?_
  refine va_put (v := .int 0) (ty := .int) (D := D) (ci := 11) (C := RX11) (T := TX11) (N := 19) hx hb hts in_X11 tyX11 tyX11_ok nmX11 hown hK hP hD hS 0 rfl rfl 10 (by decide) (hts _ kl_RX11_49) (fun _ h9 => h9) rfl (by decide +kernel) rfl rfl (Nat.le_of_ble_eq_true rfl) dX11_append_2 (fun H locs hP hD hS => ?_)
  have hP : va_P D vwCl [(mo, .inr (11, [.ref mw, .ref ma, .ref mf, .ref m0, .ref m1, .ref mu, .ref mv, .ref u0, .ref u1, .ref iz, .int 0, .ref mb, .int 0, .int 0, .int 0, .int 0, .int 0, .int 0, .int 0])), (mb, .inl (ct 0, 800, .inl (fun _ => 0)))] H := hP
  have hD : va_D A [(mo, .inr (11, [.ref mw, .ref ma, .ref mf, .ref m0, .ref m1, .ref mu, .ref mv, .ref u0, .ref u1, .ref iz, .int 0, .ref mb, .int 0, .int 0, .int 0, .int 0, .int 0, .int 0, .int 0])), (mb, .inl (ct 0, 800, .inl (fun _ => 0)))] := hD
  refine lv_iconst (v := 0) hx hb dX11_append_5 (by decide) ?_
  refine lv_istore_n (lv' := [(3, .int 0), (0, .ref mo), (1, .long p1)]) hx hb dX11_append_6 rfl hl (by decide) rfl (fun ls hl => ?_)
  refine lv_bipush (v := 56) hx hb dX11_append_7 (by decide) ?_
  refine lv_istore (lv' := [(4, .int 56), (3, .int 0), (0, .ref mo), (1, .long p1)]) hx hb dX11_append_9 hl (by decide) rfl (fun ls hl => ?_)
  refine cm_loop (N := 8) (I := fun i H locs ls => va_P D vwCl [(mo, .inr (11, [.ref mw, .ref ma, .ref mf, .ref m0, .ref m1, .ref mu, .ref mv, .ref u0, .ref u1, .ref iz, .int 0, .ref mb, .int 0, .int 0, .int 0, .int 0, .int 0, .int 0, .int 0])), (mb, .inl (ct 0, 800, .inl (fun _ => 0)))] H ∧ va_D A [(mo, .inr (11, [.ref mw, .ref ma, .ref mf, .ref m0, .ref m1, .ref mu, .ref mv, .ref u0, .ref u1, .ref iz, .int 0, .ref mb, .int 0, .int 0, .int 0, .int 0, .int 0, .int 0, .int 0])), (mb, .inl (ct 0, 800, .inl (fun _ => 0)))] ∧ va_S A s.heap H locs ∧ lv_has ls 6 [(0, .ref mo), (1, .long p1), (3, .int (cm_cnt p1 i)), (4, .int (cm_sh i))]) ⟨hP, hD, hS, (lv_sub hl [2, 3, 1, 0] rfl)⟩ (fun i H locs ls hi hI ih => ?_) (fun H locs ls hI => ?_)
  · obtain ⟨hP, hD, hS, hl⟩ := hI
    have hP : va_P D vwCl [(mo, .inr (11, [.ref mw, .ref ma, .ref mf, .ref m0, .ref m1, .ref mu, .ref mv, .ref u0, .ref u1, .ref iz, .int 0, .ref mb, .int 0, .int 0, .int 0, .int 0, .int 0, .int 0, .int 0])), (mb, .inl (ct 0, 800, .inl (fun _ => 0)))] H := hP
    have hD : va_D A [(mo, .inr (11, [.ref mw, .ref ma, .ref mf, .ref m0, .ref m1, .ref mu, .ref mv, .ref u0, .ref u1, .ref iz, .int 0, .ref mb, .int 0, .int 0, .int 0, .int 0, .int 0, .int 0, .int 0])), (mb, .inl (ct 0, 800, .inl (fun _ => 0)))] := hD
    have hl : lv_has ls 6 [(0, .ref mo), (1, .long p1), (3, .int (cm_cnt p1 i)), (4, .int (cm_sh i))] := hl
    refine lv_iload hx hb dX11_append_11 (lv_at hl 3 rfl) ?_
    refine lv_if_lt (tgt := 43) hx hb dX11_append_13 (by decide) (fun hc => absurd hc (cm_sh_nn i hi)) (fun _ => ?_)
    refine lv_iload_n hx hb dX11_append_16 rfl (lv_at hl 2 rfl) ?_
    refine lv_lload_n hx hb dX11_append_17 rfl (lv_at hl 1 rfl) ?_
    refine lv_iload hx hb dX11_append_18 (lv_at hl 3 rfl) ?_
    refine lv_lushr (v := (p1.toUInt64 >>> ((cm_sh i).toInt64.toUInt64 &&& Int64.toUInt64 63)).toInt64) hx hb dX11_append_20 rfl ?_
    refine lv_ldc2 hx hb hown (hts _ kl_RX11_54) dX11_append_21 ?_
    refine lv_land hx hb dX11_append_24 ?_
    refine cm_cstl (y := (cm_byte p1 (cm_sh i))) rfl ?_
    refine lv_lconst (v := 0) hx hb dX11_append_25 (by decide) ?_
    refine W.lcmp hx hb dX11_append_26 ?_
    refine lv_if_eq (tgt := 34) hx hb dX11_append_27 (by decide) (fun hc_1 => ?_) (fun hc_1 => ?_)
    · refine lv_iconst (v := 0) hx hb dX11_append_34 (by decide) ?_
      refine lv_iadd hx hb dX11_append_35 ?_
      refine lv_istore_n (lv' := [(3, .int ((cm_cnt p1 i) + 0)), (0, .ref mo), (1, .long p1), (4, .int (cm_sh i))]) hx hb dX11_append_36 rfl hl (by decide) rfl (fun ls hl => ?_)
      refine lv_iinc (v := (cm_sh (i + 1))) (lv' := [(4, .int (cm_sh (i + 1))), (3, .int ((cm_cnt p1 i) + 0)), (0, .ref mo), (1, .long p1)]) hx hb dX11_append_37 hl (k := 3) rfl rfl (by decide) rfl (fun ls hl => ?_)
      refine lv_goto (tgt := 11) hx hb dX11_append_40 (by decide) ?_
      have ec_2 : ((cm_cnt p1 (i + 1)) : Int32) = ((cm_cnt p1 i) + 0) := (show (if lg_cmp (cm_byte p1 (cm_sh i)) 0 = 0 then cm_cnt p1 i else cm_cnt p1 i + 1) = cm_cnt p1 i + 0 from by rw [if_pos hc_1, Int32.add_zero])
      have hl : lv_has ls 6 [(4, .int (cm_sh (i + 1))), (3, .int (cm_cnt p1 (i + 1))), (0, .ref mo), (1, .long p1)] := by rw [ec_2]; exact hl
      exact ih _ _ _ ⟨hP, hD, hS, (lv_sub hl [2, 3, 1, 0] rfl)⟩
    · refine lv_iconst (v := 1) hx hb dX11_append_30 (by decide) ?_
      refine lv_goto (tgt := 35) hx hb dX11_append_31 (by decide) ?_
      refine lv_iadd hx hb dX11_append_35 ?_
      refine lv_istore_n (lv' := [(3, .int ((cm_cnt p1 i) + 1)), (0, .ref mo), (1, .long p1), (4, .int (cm_sh i))]) hx hb dX11_append_36 rfl hl (by decide) rfl (fun ls hl => ?_)
      refine lv_iinc (v := (cm_sh (i + 1))) (lv' := [(4, .int (cm_sh (i + 1))), (3, .int ((cm_cnt p1 i) + 1)), (0, .ref mo), (1, .long p1)]) hx hb dX11_append_37 hl (k := 3) rfl rfl (by decide) rfl (fun ls hl => ?_)
      refine lv_goto (tgt := 11) hx hb dX11_append_40 (by decide) ?_
      have ec_3 : ((cm_cnt p1 (i + 1)) : Int32) = ((cm_cnt p1 i) + 1) := (show (if lg_cmp (cm_byte p1 (cm_sh i)) 0 = 0 then cm_cnt p1 i else cm_cnt p1 i + 1) = cm_cnt p1 i + 1 from if_neg hc_1)
      have hl : lv_has ls 6 [(4, .int (cm_sh (i + 1))), (3, .int (cm_cnt p1 (i + 1))), (0, .ref mo), (1, .long p1)] := by rw [ec_3]; exact hl
      exact ih _ _ _ ⟨hP, hD, hS, (lv_sub hl [2, 3, 1, 0] rfl)⟩
  · obtain ⟨hP, hD, hS, hl⟩ := hI
    have hP : va_P D vwCl [(mo, .inr (11, [.ref mw, .ref ma, .ref mf, .ref m0, .ref m1, .ref mu, .ref mv, .ref u0, .ref u1, .ref iz, .int 0, .ref mb, .int 0, .int 0, .int 0, .int 0, .int 0, .int 0, .int 0])), (mb, .inl (ct 0, 800, .inl (fun _ => 0)))] H := hP
    have hD : va_D A [(mo, .inr (11, [.ref mw, .ref ma, .ref mf, .ref m0, .ref m1, .ref mu, .ref mv, .ref u0, .ref u1, .ref iz, .int 0, .ref mb, .int 0, .int 0, .int 0, .int 0, .int 0, .int 0, .int 0])), (mb, .inl (ct 0, 800, .inl (fun _ => 0)))] := hD
    have hl : lv_has ls 6 [(0, .ref mo), (1, .long p1), (3, .int (cm_cnt p1 8)), (4, .int (cm_sh 8))] := hl
    refine lv_iload hx hb dX11_append_11 (lv_at hl 3 rfl) ?_
    refine lv_if_lt (tgt := 43) hx hb dX11_append_13 (by decide) (fun _ => ?_) (fun hc => absurd (by decide) hc)
    refine lv_aload_n hx hb dX11_append_43 rfl (lv_at hl 0 rfl) ?_
    refine va_get (v := .int 0) (D := D) (ci := 11) (C := RX11) (T := TX11) (N := 19) hx hb hts in_X11 hown hK hP 0 rfl rfl 12 (by decide) (hts _ kl_RX11_56) (fun _ h9 => h9) rfl dX11_append_44 ?_
    refine lv_iload_n hx hb dX11_append_47 rfl (lv_at hl 2 rfl) ?_
    refine lv_iadd hx hb dX11_append_48 ?_
    refine lv_sipush (v := 800) hx hb dX11_append_49 (by decide) ?_
    refine lv_icmp_le (tgt := 58) hx hb dX11_append_52 (by decide) (fun _ => ?_) (fun hc => absurd (by rw [Int32.le_iff_toInt_le, show (800 : Int32).toInt = 800 from by decide, show (0 + cm_cnt p1 8) = cm_cnt p1 8 from by rw [Int32.zero_add]]; have := cm_cnt_le p1 8 (by decide); omega) hc)
    refine lv_bipush (v := 56) hx hb dX11_append_58 (by decide) ?_
    refine lv_istore (lv' := [(4, .int 56), (0, .ref mo), (1, .long p1), (3, .int (cm_cnt p1 8))]) hx hb dX11_append_60 hl (by decide) rfl (fun ls hl => ?_)
    refine cm_loop (N := 8) (I := fun i H locs ls => ∃ (g : Nat → Int32), va_P D vwCl [(mo, .inr (11, [.ref mw, .ref ma, .ref mf, .ref m0, .ref m1, .ref mu, .ref mv, .ref u0, .ref u1, .ref iz, .int 0, .ref mb, .int (cm_cn2 p1 i), .int 0, .int 0, .int 0, .int 0, .int 0, .int 0])), (mb, .inl (ct 0, 800, .inl g))] H ∧ va_D A [(mo, .inr (11, [.ref mw, .ref ma, .ref mf, .ref m0, .ref m1, .ref mu, .ref mv, .ref u0, .ref u1, .ref iz, .int 0, .ref mb, .int (cm_cn2 p1 i), .int 0, .int 0, .int 0, .int 0, .int 0, .int 0])), (mb, .inl (ct 0, 800, .inl g))] ∧ va_S A s.heap H locs ∧ lv_has ls 6 [(0, .ref mo), (1, .long p1), (4, .int (cm_sh i))]) ⟨(fun _ => 0), hP, hD, hS, (lv_sub hl [1, 2, 0] rfl)⟩ (fun i H locs ls hi hI ih => ?_) (fun H locs ls hI => ?_)
    · obtain ⟨g, hP, hD, hS, hl⟩ := hI
      have hP : va_P D vwCl [(mo, .inr (11, [.ref mw, .ref ma, .ref mf, .ref m0, .ref m1, .ref mu, .ref mv, .ref u0, .ref u1, .ref iz, .int 0, .ref mb, .int (cm_cn2 p1 i), .int 0, .int 0, .int 0, .int 0, .int 0, .int 0])), (mb, .inl (ct 0, 800, .inl g))] H := hP
      have hD : va_D A [(mo, .inr (11, [.ref mw, .ref ma, .ref mf, .ref m0, .ref m1, .ref mu, .ref mv, .ref u0, .ref u1, .ref iz, .int 0, .ref mb, .int (cm_cn2 p1 i), .int 0, .int 0, .int 0, .int 0, .int 0, .int 0])), (mb, .inl (ct 0, 800, .inl g))] := hD
      have hl : lv_has ls 6 [(0, .ref mo), (1, .long p1), (4, .int (cm_sh i))] := hl
      refine lv_iload hx hb dX11_append_62 (lv_at hl 2 rfl) ?_
      refine lv_if_lt (tgt := 113) hx hb dX11_append_64 (by decide) (fun hc => absurd hc (cm_sh_nn i hi)) (fun _ => ?_)
      refine lv_lload_n hx hb dX11_append_67 rfl (lv_at hl 1 rfl) ?_
      refine lv_iload hx hb dX11_append_68 (lv_at hl 2 rfl) ?_
      refine lv_lushr (v := (p1.toUInt64 >>> ((cm_sh i).toInt64.toUInt64 &&& Int64.toUInt64 63)).toInt64) hx hb dX11_append_70 rfl ?_
      refine lv_ldc2 hx hb hown (hts _ kl_RX11_54) dX11_append_71 ?_
      refine lv_land hx hb dX11_append_74 ?_
      refine cm_cstl (y := (cm_byte p1 (cm_sh i))) rfl ?_
      refine lv_l2i hx hb dX11_append_75 rfl ?_
      refine lv_istore (lv' := [(5, .int ((cm_byte p1 (cm_sh i)).toInt32)), (0, .ref mo), (1, .long p1), (4, .int (cm_sh i))]) hx hb dX11_append_76 hl (by decide) rfl (fun ls hl => ?_)
      refine lv_iload hx hb dX11_append_78 (lv_at hl 0 rfl) ?_
      refine lv_if_ne (tgt := 86) hx hb dX11_append_80 (by decide) (fun hc_4 => ?_) (fun hc_4 => ?_)
      · refine lv_aload_n hx hb dX11_append_86 rfl (lv_at hl 1 rfl) ?_
        refine va_get (v := .ref mb) (D := D) (ci := 11) (C := RX11) (T := TX11) (N := 19) hx hb hts in_X11 hown hK hP 0 rfl rfl 11 (by decide) (hts _ kl_RX11_42) (fun _ h9 => h9) rfl dX11_append_87 ?_
        refine lv_aload_n hx hb dX11_append_90 rfl (lv_at hl 1 rfl) ?_
        refine va_get (v := .int (cm_cn2 p1 i)) (D := D) (ci := 11) (C := RX11) (T := TX11) (N := 19) hx hb hts in_X11 hown hK hP 0 rfl rfl 12 (by decide) (hts _ kl_RX11_56) (fun _ h9 => h9) rfl dX11_append_91 ?_
        refine lv_iload hx hb dX11_append_94 (lv_at hl 0 rfl) ?_
        refine va_iast hx hb hK hP hD hS 1 0 rfl rfl (cm_vin3 p1 hi) dX11_append_96 (fun H locs hP hD hS => ?_)
        have hP : va_P D vwCl [(mo, .inr (11, [.ref mw, .ref ma, .ref mf, .ref m0, .ref m1, .ref mu, .ref mv, .ref u0, .ref u1, .ref iz, .int 0, .ref mb, .int (cm_cn2 p1 i), .int 0, .int 0, .int 0, .int 0, .int 0, .int 0])), (mb, .inl (ct 0, 800, .inl (upd g (cm_cn2 p1 i).toNatClampNeg ((cm_byte p1 (cm_sh i)).toInt32))))] H := hP
        have hD : va_D A [(mo, .inr (11, [.ref mw, .ref ma, .ref mf, .ref m0, .ref m1, .ref mu, .ref mv, .ref u0, .ref u1, .ref iz, .int 0, .ref mb, .int (cm_cn2 p1 i), .int 0, .int 0, .int 0, .int 0, .int 0, .int 0])), (mb, .inl (ct 0, 800, .inl (upd g (cm_cn2 p1 i).toNatClampNeg ((cm_byte p1 (cm_sh i)).toInt32))))] := hD
        refine lv_aload_n hx hb dX11_append_97 rfl (lv_at hl 1 rfl) ?_
        refine lv_dup hx hb dX11_append_98 rfl ?_
        refine va_get (v := .int (cm_cn2 p1 i)) (D := D) (ci := 11) (C := RX11) (T := TX11) (N := 19) hx hb hts in_X11 hown hK hP 0 rfl rfl 12 (by decide) (hts _ kl_RX11_56) (fun _ h9 => h9) rfl dX11_append_99 ?_
        refine lv_iconst (v := 1) hx hb dX11_append_102 (by decide) ?_
        refine lv_iadd hx hb dX11_append_103 ?_
        refine va_put (v := .int ((cm_cn2 p1 i) + 1)) (ty := .int) (D := D) (ci := 11) (C := RX11) (T := TX11) (N := 19) hx hb hts in_X11 tyX11 tyX11_ok nmX11 hown hK hP hD hS 0 rfl rfl 12 (by decide) (hts _ kl_RX11_56) (fun _ h9 => h9) rfl (by decide +kernel) rfl rfl (Nat.le_of_ble_eq_true rfl) dX11_append_104 (fun H locs hP hD hS => ?_)
        have hP : va_P D vwCl [(mo, .inr (11, [.ref mw, .ref ma, .ref mf, .ref m0, .ref m1, .ref mu, .ref mv, .ref u0, .ref u1, .ref iz, .int 0, .ref mb, .int ((cm_cn2 p1 i) + 1), .int 0, .int 0, .int 0, .int 0, .int 0, .int 0])), (mb, .inl (ct 0, 800, .inl (upd g (cm_cn2 p1 i).toNatClampNeg ((cm_byte p1 (cm_sh i)).toInt32))))] H := hP
        have hD : va_D A [(mo, .inr (11, [.ref mw, .ref ma, .ref mf, .ref m0, .ref m1, .ref mu, .ref mv, .ref u0, .ref u1, .ref iz, .int 0, .ref mb, .int ((cm_cn2 p1 i) + 1), .int 0, .int 0, .int 0, .int 0, .int 0, .int 0])), (mb, .inl (ct 0, 800, .inl (upd g (cm_cn2 p1 i).toNatClampNeg ((cm_byte p1 (cm_sh i)).toInt32))))] := hD
        refine lv_iinc (v := (cm_sh (i + 1))) (lv' := [(4, .int (cm_sh (i + 1))), (5, .int ((cm_byte p1 (cm_sh i)).toInt32)), (0, .ref mo), (1, .long p1)]) hx hb dX11_append_107 hl (k := 3) rfl rfl (by decide) rfl (fun ls hl => ?_)
        refine lv_goto (tgt := 62) hx hb dX11_append_110 (by decide) ?_
        have ec_5 : ((cm_cn2 p1 (i + 1)) : Int32) = ((cm_cn2 p1 i) + 1) := (show (if (cm_byte p1 (cm_sh i)).toInt32 = 0 then cm_cn2 p1 i else cm_cn2 p1 i + 1) = cm_cn2 p1 i + 1 from if_neg hc_4)
        have hP : va_P D vwCl [(mo, .inr (11, [.ref mw, .ref ma, .ref mf, .ref m0, .ref m1, .ref mu, .ref mv, .ref u0, .ref u1, .ref iz, .int 0, .ref mb, .int (cm_cn2 p1 (i + 1)), .int 0, .int 0, .int 0, .int 0, .int 0, .int 0])), (mb, .inl (ct 0, 800, .inl (upd g (cm_cn2 p1 i).toNatClampNeg ((cm_byte p1 (cm_sh i)).toInt32))))] H := by rw [ec_5]; exact hP
        have hD : va_D A [(mo, .inr (11, [.ref mw, .ref ma, .ref mf, .ref m0, .ref m1, .ref mu, .ref mv, .ref u0, .ref u1, .ref iz, .int 0, .ref mb, .int (cm_cn2 p1 (i + 1)), .int 0, .int 0, .int 0, .int 0, .int 0, .int 0])), (mb, .inl (ct 0, 800, .inl (upd g (cm_cn2 p1 i).toNatClampNeg ((cm_byte p1 (cm_sh i)).toInt32))))] := by rw [ec_5]; exact hD
        exact ih _ _ _ ⟨(upd g (cm_cn2 p1 i).toNatClampNeg ((cm_byte p1 (cm_sh i)).toInt32)), hP, hD, hS, (lv_sub hl [2, 3, 0] rfl)⟩
      · refine lv_goto (tgt := 107) hx hb dX11_append_83 (by decide) ?_
        refine lv_iinc (v := (cm_sh (i + 1))) (lv' := [(4, .int (cm_sh (i + 1))), (5, .int ((cm_byte p1 (cm_sh i)).toInt32)), (0, .ref mo), (1, .long p1)]) hx hb dX11_append_107 hl (k := 3) rfl rfl (by decide) rfl (fun ls hl => ?_)
        refine lv_goto (tgt := 62) hx hb dX11_append_110 (by decide) ?_
        have ec_6 : ((cm_cn2 p1 (i + 1)) : Int32) = (cm_cn2 p1 i) := (show (if (cm_byte p1 (cm_sh i)).toInt32 = 0 then cm_cn2 p1 i else cm_cn2 p1 i + 1) = cm_cn2 p1 i from if_pos hc_4)
        have hP : va_P D vwCl [(mo, .inr (11, [.ref mw, .ref ma, .ref mf, .ref m0, .ref m1, .ref mu, .ref mv, .ref u0, .ref u1, .ref iz, .int 0, .ref mb, .int (cm_cn2 p1 (i + 1)), .int 0, .int 0, .int 0, .int 0, .int 0, .int 0])), (mb, .inl (ct 0, 800, .inl g))] H := by rw [ec_6]; exact hP
        have hD : va_D A [(mo, .inr (11, [.ref mw, .ref ma, .ref mf, .ref m0, .ref m1, .ref mu, .ref mv, .ref u0, .ref u1, .ref iz, .int 0, .ref mb, .int (cm_cn2 p1 (i + 1)), .int 0, .int 0, .int 0, .int 0, .int 0, .int 0])), (mb, .inl (ct 0, 800, .inl g))] := by rw [ec_6]; exact hD
        exact ih _ _ _ ⟨g, hP, hD, hS, (lv_sub hl [2, 3, 0] rfl)⟩
    · obtain ⟨g, hP, hD, hS, hl⟩ := hI
      have hP : va_P D vwCl [(mo, .inr (11, [.ref mw, .ref ma, .ref mf, .ref m0, .ref m1, .ref mu, .ref mv, .ref u0, .ref u1, .ref iz, .int 0, .ref mb, .int (cm_cn2 p1 8), .int 0, .int 0, .int 0, .int 0, .int 0, .int 0])), (mb, .inl (ct 0, 800, .inl g))] H := hP
      have hD : va_D A [(mo, .inr (11, [.ref mw, .ref ma, .ref mf, .ref m0, .ref m1, .ref mu, .ref mv, .ref u0, .ref u1, .ref iz, .int 0, .ref mb, .int (cm_cn2 p1 8), .int 0, .int 0, .int 0, .int 0, .int 0, .int 0])), (mb, .inl (ct 0, 800, .inl g))] := hD
      have hl : lv_has ls 6 [(0, .ref mo), (1, .long p1), (4, .int (cm_sh 8))] := hl
      refine lv_iload hx hb dX11_append_62 (lv_at hl 2 rfl) ?_
      refine lv_if_lt (tgt := 113) hx hb dX11_append_64 (by decide) (fun _ => ?_) (fun hc => absurd (by decide) hc)
      refine lv_aload_n hx hb dX11_append_113 rfl (lv_at hl 0 rfl) ?_
      refine va_get (v := .int (cm_cn2 p1 8)) (D := D) (ci := 11) (C := RX11) (T := TX11) (N := 19) hx hb hts in_X11 hown hK hP 0 rfl rfl 12 (by decide) (hts _ kl_RX11_56) (fun _ h9 => h9) rfl dX11_append_114 ?_
      have hP9 := hP.sub (ws' := [(mo, .inr (11, [.ref mw, .ref ma, .ref mf, .ref m0, .ref m1, .ref mu, .ref mv, .ref u0, .ref u1, .ref iz, .int 0, .ref mb, .int (cm_cn2 p1 8), .int 0, .int 0, .int 0, .int 0, .int 0, .int 0]))]) [0] rfl
      have hD9 := hD.sub (ws' := [(mo, .inr (11, [.ref mw, .ref ma, .ref mf, .ref m0, .ref m1, .ref mu, .ref mv, .ref u0, .ref u1, .ref iz, .int 0, .ref mb, .int (cm_cn2 p1 8), .int 0, .int 0, .int 0, .int 0, .int 0, .int 0]))]) [0] (by decide) rfl
      exact W.iret (v := (cm_cn2 p1 8)) hx hb hr (fun t ht hW => ⟨⟨(cm_cn2 p1 8), (), rfl, rfl, by rw [ht]; exact hP9, by rw [hAe]; exact hD9⟩, hS.F ht⟩) hS.2.2 dX11_append_117
