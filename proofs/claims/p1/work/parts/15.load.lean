/-! String constants as arguments -/
def cmPs (D : va_G) (ct : Nat → ClassId) (sz : Nat) (W0 : va_W) (q : cm_sq) (a : Nat) (U : State) : Prop := cmP D ct sz W0 U ∧ vk_R q.1 q.2.1 q.2.2.1 a U
theorem cm_sinj {own tx : String} {k a b : Nat} {U : State} (h1 : vk_R own k tx a U) (h2 : vk_R own k tx b U) : a = b := by
  have h := Option.some.inj (h1.2.symm.trans h2.2)
  cases h
  rfl
theorem cm_blinds {D : va_G} {ct : Nat → ClassId} {sz : Nat} {W0 : va_W} {av : List Value} {q : cm_sq} {a : Nat} : FrameBlind (va_Pc av (cmPs D ct sz W0 q a)) := by
  intro b U g mk h
  exact ⟨h.1, (cm_blind (ct := ct) b U g mk ⟨h.1, h.2.1⟩).2, vk_R.same (u := U) (U := U.calling g mk b) rfl h.2.2⟩
theorem cm_preSs {s : State} {H : Heap} {D : va_G} {ct : Nat → ClassId} {wc : va_W} {As : List Value} {q : cm_sq} {a : Nat} (h : PreS s H (va_Pc As (cmP D ct H.size wc)) As) (hR : vk_R q.1 q.2.1 q.2.2.1 a s) : PreS s H (va_Pc As (cmPs D ct H.size wc q a)) As := ⟨cm_blinds, fun U hU hW => ⟨(h.2 U hU hW).1, (h.2 U hU hW).2, vk_R.warm hW hR⟩⟩
theorem cm_preVs {s : State} {H : Heap} {D : va_G} {ct : Nat → ClassId} {wc : va_W} {C : String} {b : Addr} {As : List Value} {q : cm_sq} {a : Nat} (h : PreV s H C b (va_Pc (.ref b :: As) (cmP D ct H.size wc)) As) (hR : vk_R q.1 q.2.1 q.2.2.1 a s) : PreV s H C b (va_Pc (.ref b :: As) (cmPs D ct H.size wc q a)) As := ⟨cm_blinds, h.2.1, fun U hU hW => ⟨(h.2.2 U hU hW).1, (h.2.2 U hU hW).2, vk_R.warm hW hR⟩⟩
theorem cm_preVt {s : State} {H : Heap} {D : va_G} {ct : Nat → ClassId} {wc : va_W} {b : Nat} {As : List Value} {q : cm_sq} (h : PreS s H (va_Pc (.ref b :: As) (cmP D ct H.size wc)) (.ref b :: As)) (hc : ∃ cell : Cell, H[b]? = some cell ∧ cell.vm.isStatics = false ∧ s.vm.findClass "java/lang/String" = some cell.cls) (hR : vk_R q.1 q.2.1 q.2.2.1 b s) : PreV s H "java/lang/String" b (va_Pc (.ref b :: As) (cmPs D ct H.size wc q b)) As := ⟨cm_blinds, hc, fun U hU hW => ⟨(h.2 U hU hW).1, (h.2 U hU hW).2, vk_R.warm hW hR⟩⟩
theorem cm_shr0 (x : Int32) : x >>> ((0 : Int32) &&& 31) = x := by
  apply Int32.toInt_inj.mp
  rw [show ((0 : Int32) &&& 31) = 0 from by decide]
  simp
theorem dJ0_coder_7d493_0 : decode cJ0_coder_7d493 0 = .ok (.getstatic 38, 3) := by decide +kernel
theorem dJ0_coder_7d493_3 : decode cJ0_coder_7d493 3 = .ok (.ifCond .eq 10, 3) := by decide +kernel
theorem dJ0_coder_7d493_6 : decode cJ0_coder_7d493 6 = .ok (.aload_n 0, 1) := by decide +kernel
theorem dJ0_coder_7d493_7 : decode cJ0_coder_7d493 7 = .ok (.getfield 15, 3) := by decide +kernel
theorem dJ0_coder_7d493_10 : decode cJ0_coder_7d493 10 = .ok (.goto 4, 3) := by decide +kernel
theorem dJ0_coder_7d493_14 : decode cJ0_coder_7d493 14 = .ok (.ireturn, 1) := by decide +kernel
set_option maxRecDepth 100000 in
set_option maxHeartbeats 4000000 in
theorem c_coder (l : Launch) (D : va_G) (ct : Nat → ClassId) (a : Nat) (q9 : cm_sq) (sz : Nat) (hq9 : q9 ∈ cm_strs) : Met l yJ0_coder_7d493 (ws_ yJ0_coder_7d493 cJ0_coder_7d493 1 (some .byte)) ({ frames := 0, cells := 0, slots := 0, locals := 0 } : Room) (va_Pc [.ref a] (cmPs D ct sz [] q9 a)) (va_Qi (fun (r : Int32) (_ : Unit) => r = 0) (cmB D [] sz (fun _ : Unit => [])) (va_A [] sz)) 0 0 (va_A [] sz) := by
  refine Met.ofW (cc := cJ0_coder_7d493) (maxL := 1) (ret := (some .byte)) (by decide) rfl ?_
  intro p e s m args below meth c s₁ B hml hv
  obtain ⟨rfl, ⟨hsz, hP, hK, hD0, hX⟩, hR9⟩ := hv
  have hx := B.exec
  have hb := B.bytes
  have hr := B.returns
  have hts := ws_all (atoms_spec (ws := ws_ yJ0_coder_7d493 cJ0_coder_7d493 1 (some .byte)) B.pre)
  have hown : s.vm.findClass RJ0 = some m.cls := findClass_of_methodNamed B.named
  have hlocks := B.notSynchronized
  subst hsz
  have hD := hD0.self (sz := s.heap.size)
  generalize hAe : va_A [] s.heap.size = A at hD hX ⊢
  have hA : ∀ q : Nat, s.heap.size ≤ q → A q := fun q h => by rw [← hAe]; exact Or.inr h
  have hS : va_S A s.heap s.heap [] := va_S.rf
  obtain ⟨a9, v9, hr9, hs9⟩ := hX.2.2.2 q9 hq9
  have e9 : a9 = a := cm_sinj hr9 hR9
  rw [e9] at hs9
  have hl := lv_entry ([.ref a]) (n := 1) (Nat.le_of_ble_eq_true rfl)
  rw [lg_entry_eq]
  generalize (lg_sl ([.ref a]) ++ List.replicate (1 - (lg_sl ([.ref a])).length) Slot.unset).toArray = ls at hl ⊢
  have hl : lv_has ls 1 [(0, .ref a)] := hl
  refine va_gets hx hb hX.2.2.1 hS hown (hts _ kl_RJ0_38) (fun _ h9 => h9) dJ0_coder_7d493_0 ?_
  refine lv_if_eq (tgt := 13) hx hb dJ0_coder_7d493_3 (by decide) (fun hc => absurd hc (by decide)) (fun _ => ?_)
  refine lv_aload_n hx hb dJ0_coder_7d493_6 rfl (lv_at hl 0 rfl) ?_
  refine vk_getf hx hb (hs9.1 0 Nat.zero_lt_one).2.1 hS hown (hts _ kl_RJ0_15) (fun _ h9 => h9) dJ0_coder_7d493_7 ?_
  refine lv_goto (tgt := 14) hx hb dJ0_coder_7d493_10 (by decide) ?_
  have hP9 := hP.sub (ws' := []) [] rfl
  have hD9 := hD.sub (ws' := []) [] (by decide) rfl
  exact W.zret (v := 0) hx hb hr (by decide) (fun t ht hW => ⟨⟨0, (), rfl, rfl, by rw [ht]; exact hP9, by rw [hAe]; exact hD9⟩, hS.F ht⟩) hS.2.2 dJ0_coder_7d493_14
theorem dJ0_length_8abf5_0 : decode cJ0_length_8abf5 0 = .ok (.aload_n 0, 1) := by decide +kernel
theorem dJ0_length_8abf5_1 : decode cJ0_length_8abf5 1 = .ok (.getfield 9, 3) := by decide +kernel
theorem dJ0_length_8abf5_4 : decode cJ0_length_8abf5 4 = .ok (.arraylength, 1) := by decide +kernel
theorem dJ0_length_8abf5_5 : decode cJ0_length_8abf5 5 = .ok (.aload_n 0, 1) := by decide +kernel
theorem dJ0_length_8abf5_6 : decode cJ0_length_8abf5 6 = .ok (.invokevirtual 335, 3) := by decide +kernel
theorem dJ0_length_8abf5_9 : decode cJ0_length_8abf5 9 = .ok (.ishr, 1) := by decide +kernel
theorem dJ0_length_8abf5_10 : decode cJ0_length_8abf5 10 = .ok (.ireturn, 1) := by decide +kernel
set_option maxRecDepth 100000 in
set_option maxHeartbeats 4000000 in
theorem c_strlen (l : Launch) (D : va_G) (ct : Nat → ClassId) (a : Nat) (q9 : cm_sq) (sz : Nat) (hq9 : q9 ∈ cm_strs) : Met l yJ0_length_8abf5 (ws_ yJ0_length_8abf5 cJ0_length_8abf5 1 (some .int)) ({ frames := 1, cells := 0, slots := 0, locals := 20 } : Room) (va_Pc [.ref a] (cmPs D ct sz [] q9 a)) (va_Qi (fun (r : Int32) (_ : Unit) => r = (Int32.ofNat q9.2.2.2.length)) (cmB D [] sz (fun _ : Unit => [])) (va_A [] sz)) 0 0 (va_A [] sz) := by
  refine Met.ofW (cc := cJ0_length_8abf5) (maxL := 1) (ret := (some .int)) (by decide) rfl ?_
  intro p e s m args below meth c s₁ B hml hv
  obtain ⟨rfl, ⟨hsz, hP, hK, hD0, hX⟩, hR9⟩ := hv
  have hx := B.exec
  have hb := B.bytes
  have hr := B.returns
  have hts := ws_all (atoms_spec (ws := ws_ yJ0_length_8abf5 cJ0_length_8abf5 1 (some .int)) B.pre)
  have hown : s.vm.findClass RJ0 = some m.cls := findClass_of_methodNamed B.named
  have hlocks := B.notSynchronized
  subst hsz
  have hD := hD0.self (sz := s.heap.size)
  generalize hAe : va_A [] s.heap.size = A at hD hX ⊢
  have hA : ∀ q : Nat, s.heap.size ≤ q → A q := fun q h => by rw [← hAe]; exact Or.inr h
  have hS : va_S A s.heap s.heap [] := va_S.rf
  obtain ⟨a9, v9, hr9, hs9⟩ := hX.2.2.2 q9 hq9
  have e9 : a9 = a := cm_sinj hr9 hR9
  rw [e9] at hs9
  have hl := lv_entry ([.ref a]) (n := 1) (Nat.le_of_ble_eq_true rfl)
  rw [lg_entry_eq]
  generalize (lg_sl ([.ref a]) ++ List.replicate (1 - (lg_sl ([.ref a])).length) Slot.unset).toArray = ls at hl ⊢
  have hl : lv_has ls 1 [(0, .ref a)] := hl
  refine lv_aload_n hx hb dJ0_length_8abf5_0 rfl (lv_at hl 0 rfl) ?_
  refine vk_getf hx hb (hs9.1 0 Nat.zero_lt_one).2.2.1 hS hown (hts _ kl_RJ0_9) (fun _ h9 => h9) dJ0_length_8abf5_1 ?_
  refine va_tlen hx hb (hs9.1 0 Nat.zero_lt_one).2.2.2 hS (v := Int32.ofNat q9.2.2.2.length) rfl dJ0_length_8abf5_4 ?_
  refine lv_aload_n hx hb dJ0_length_8abf5_5 rfl (lv_at hl 0 rfl) ?_
  refine cm_ki (wr := []) (va_runV (As := []) (rest := [.int (Int32.ofNat q9.2.2.2.length)]) ⟨hx, hb, hml, hown, hts⟩ (c_coder l D ct a q9 _ hq9) (cm_V 0 hts kc_J0_coder_7d493 ki_RJ0 kl_RJ0_335 kv_J0_coder_7d493 kx_J0_coder_7d493 kd_J0_coder_7d493 ⟨Nat.le_of_ble_eq_true rfl, Nat.le_of_ble_eq_true rfl⟩) (cm_preVt (cm_preS (As := [.ref a]) hP hK hD hS hA hX [] rfl rfl rfl) (vk_recv hs9 (Nat.zero_lt_one) hS) hR9) rfl rfl hl.1 rfl (lv_room (Nat.le_of_ble_eq_true rfl)) dJ0_length_8abf5_6 ⟨Nat.le_of_ble_eq_true rfl, Nat.le_of_ble_eq_true rfl⟩) hP hD hS hA [] [] rfl rfl rfl (by decide) (fun r_1 u H locs hw_2 hP hD hS => ?_)
  have hw_2 : r_1 = 0 := hw_2
  obtain rfl := hw_2
  have hP : va_P D vwCl [] H := hP
  have hD : va_D A [] := hD
  refine lv_ishr hx hb dJ0_length_8abf5_9 ?_
  refine cm_cst (y := Int32.ofNat q9.2.2.2.length) (cm_shr0 _) ?_
  have hP9 := hP.sub (ws' := []) [] rfl
  have hD9 := hD.sub (ws' := []) [] (by decide) rfl
  exact W.iret (v := (Int32.ofNat q9.2.2.2.length)) hx hb hr (fun t ht hW => ⟨⟨(Int32.ofNat q9.2.2.2.length), (), rfl, rfl, by rw [ht]; exact hP9, by rw [hAe]; exact hD9⟩, hS.F ht⟩) hS.2.2 dJ0_length_8abf5_10
theorem dX6_init_0 : decode cX6_init 0 = .ok (.aload_n 0, 1) := by decide +kernel
theorem dX6_init_1 : decode cX6_init 1 = .ok (.invokespecial 3, 3) := by decide +kernel
theorem dX6_init_4 : decode cX6_init 4 = .ok (.aload_n 0, 1) := by decide +kernel
theorem dX6_init_5 : decode cX6_init 5 = .ok (.aload_n 1, 1) := by decide +kernel
theorem dX6_init_6 : decode cX6_init 6 = .ok (.putfield 9, 3) := by decide +kernel
theorem dX6_init_9 : decode cX6_init 9 = .ok (.aload_n 0, 1) := by decide +kernel
theorem dX6_init_10 : decode cX6_init 10 = .ok (.iload_n 2, 1) := by decide +kernel
theorem dX6_init_11 : decode cX6_init 11 = .ok (.putfield 15, 3) := by decide +kernel
theorem dX6_init_14 : decode cX6_init 14 = .ok (.aload_n 0, 1) := by decide +kernel
theorem dX6_init_15 : decode cX6_init 15 = .ok (.aload_n 3, 1) := by decide +kernel
theorem dX6_init_16 : decode cX6_init 16 = .ok (.putfield 19, 3) := by decide +kernel
theorem dX6_init_19 : decode cX6_init 19 = .ok (.return_, 1) := by decide +kernel
set_option maxRecDepth 100000 in
set_option maxHeartbeats 4000000 in
theorem c_X6_init (l : Launch) (D : va_G) (ct : Nat → ClassId) (rd : Nat) (bt : Nat) (tg : Nat) (n : Int32) (sz : Nat) : Met l yX6_init (ws_ yX6_init cX6_init 4 none) ({ frames := 1, cells := 0, slots := 0, locals := 12 } : Room) (va_Pc [.ref rd, .ref bt, .int n, .ref tg] (cmP D ct sz [(rd, .inr (6, [.null, .int 0, .null, .int 0, .int 0, .int 0, .int 0]))])) (va_Qv (fun (_ : Unit) => True) (cmB D [(rd, .inr (6, [.null, .int 0, .null, .int 0, .int 0, .int 0, .int 0]))] sz (fun _ : Unit => [(rd, .inr (6, [.ref bt, .int n, .ref tg, .int 0, .int 0, .int 0, .int 0]))])) (va_A [(rd, .inr (6, [.null, .int 0, .null, .int 0, .int 0, .int 0, .int 0]))] sz)) 0 0 (va_A [(rd, .inr (6, [.null, .int 0, .null, .int 0, .int 0, .int 0, .int 0]))] sz) := by
  refine Met.ofW (cc := cX6_init) (maxL := 4) (ret := none) (by decide) rfl ?_
  intro p e s m args below meth c s₁ B hml hv
  obtain ⟨rfl, hsz, hP, hK, hD0, hX⟩ := hv
  have hx := B.exec
  have hb := B.bytes
  have hr := B.returns
  have hts := ws_all (atoms_spec (ws := ws_ yX6_init cX6_init 4 none) B.pre)
  have hown : s.vm.findClass RX6 = some m.cls := findClass_of_methodNamed B.named
  have hlocks := B.notSynchronized
  have hin : meth.name = "<init>" := (name_of_methodNamed B.named B.method).1
  subst hsz
  have hD := hD0.self (sz := s.heap.size)
  generalize hAe : va_A [(rd, .inr (6, [.null, .int 0, .null, .int 0, .int 0, .int 0, .int 0]))] s.heap.size = A at hD hX ⊢
  have hA : ∀ q : Nat, s.heap.size ≤ q → A q := fun q h => by rw [← hAe]; exact Or.inr h
  have hS : va_S A s.heap s.heap [] := va_S.rf
  have hl := lv_entry ([.ref rd, .ref bt, .int n, .ref tg]) (n := 4) (Nat.le_of_ble_eq_true rfl)
  rw [lg_entry_eq]
  generalize (lg_sl ([.ref rd, .ref bt, .int n, .ref tg]) ++ List.replicate (4 - (lg_sl ([.ref rd, .ref bt, .int n, .ref tg])).length) Slot.unset).toArray = ls at hl ⊢
  have hl : lv_has ls 4 [(0, .ref rd), (1, .ref bt), (2, .int n), (3, .ref tg)] := hl
  refine lv_aload_n hx hb dX6_init_0 rfl (lv_at hl 0 rfl) ?_
  refine W.objInit hx hb hown (hts _ kl_RX6_3) (hts _ kv_java_lang_Object_init) (hts _ kc_java_lang_Object_init) rfl (by rw [hml]; exact hl.1) rfl dX6_init_1 (Nat.le_of_ble_eq_true rfl) (Nat.le_of_ble_eq_true rfl) ?_
  refine W.eq (g2 := F0 m 4 ls []) rfl ?_
  refine lv_aload_n hx hb dX6_init_4 rfl (lv_at hl 0 rfl) ?_
  refine lv_aload_n hx hb dX6_init_5 rfl (lv_at hl 1 rfl) ?_
  refine va_putF (v := .ref bt) (ty := (tyX6 0)) (D := D) (ci := 6) (C := RX6) (T := TX6) (N := 7) hx hb hts in_X6 tyX6 tyX6_ok nmX6 hown hK hP hD hS 0 rfl rfl 0 (by decide) (hts _ kl_RX6_9) (fun _ h9 => h9) rfl hin rfl (by decide +kernel) rfl rfl (Nat.le_of_ble_eq_true rfl) dX6_init_6 (fun H locs hP hD hS => ?_)
  have hP : va_P D vwCl [(rd, .inr (6, [.ref bt, .int 0, .null, .int 0, .int 0, .int 0, .int 0]))] H := hP
  have hD : va_D A [(rd, .inr (6, [.ref bt, .int 0, .null, .int 0, .int 0, .int 0, .int 0]))] := hD
  refine lv_aload_n hx hb dX6_init_9 rfl (lv_at hl 0 rfl) ?_
  refine lv_iload_n hx hb dX6_init_10 rfl (lv_at hl 2 rfl) ?_
  refine va_putF (v := .int n) (ty := .int) (D := D) (ci := 6) (C := RX6) (T := TX6) (N := 7) hx hb hts in_X6 tyX6 tyX6_ok nmX6 hown hK hP hD hS 0 rfl rfl 1 (by decide) (hts _ kl_RX6_15) (fun _ h9 => h9) rfl hin rfl (by decide +kernel) rfl rfl (Nat.le_of_ble_eq_true rfl) dX6_init_11 (fun H locs hP hD hS => ?_)
  have hP : va_P D vwCl [(rd, .inr (6, [.ref bt, .int n, .null, .int 0, .int 0, .int 0, .int 0]))] H := hP
  have hD : va_D A [(rd, .inr (6, [.ref bt, .int n, .null, .int 0, .int 0, .int 0, .int 0]))] := hD
  refine lv_aload_n hx hb dX6_init_14 rfl (lv_at hl 0 rfl) ?_
  refine lv_aload_n hx hb dX6_init_15 rfl (lv_at hl 3 rfl) ?_
  refine va_putF (v := .ref tg) (ty := (tyX6 2)) (D := D) (ci := 6) (C := RX6) (T := TX6) (N := 7) hx hb hts in_X6 tyX6 tyX6_ok nmX6 hown hK hP hD hS 0 rfl rfl 2 (by decide) (hts _ kl_RX6_19) (fun _ h9 => h9) rfl hin rfl (by decide +kernel) rfl rfl (Nat.le_of_ble_eq_true rfl) dX6_init_16 (fun H locs hP hD hS => ?_)
  have hP : va_P D vwCl [(rd, .inr (6, [.ref bt, .int n, .ref tg, .int 0, .int 0, .int 0, .int 0]))] H := hP
  have hD : va_D A [(rd, .inr (6, [.ref bt, .int n, .ref tg, .int 0, .int 0, .int 0, .int 0]))] := hD
  have hP9 := hP.sub (ws' := [(rd, .inr (6, [.ref bt, .int n, .ref tg, .int 0, .int 0, .int 0, .int 0]))]) [0] rfl
  have hD9 := hD.sub (ws' := [(rd, .inr (6, [.ref bt, .int n, .ref tg, .int 0, .int 0, .int 0, .int 0]))]) [0] (by decide) rfl
  exact W.vret hx hb hr (fun t ht hW => ⟨⟨(), rfl, trivial, by rw [ht]; exact hP9, by rw [hAe]; exact hD9⟩, hS.F ht⟩) hS.2.2 dX6_init_19
theorem dX6_next_0 : decode cX6_next 0 = .ok (.aload_n 0, 1) := by decide +kernel
theorem dX6_next_1 : decode cX6_next 1 = .ok (.getfield 65, 3) := by decide +kernel
theorem dX6_next_4 : decode cX6_next 4 = .ok (.aload_n 0, 1) := by decide +kernel
theorem dX6_next_5 : decode cX6_next 5 = .ok (.getfield 15, 3) := by decide +kernel
theorem dX6_next_8 : decode cX6_next 8 = .ok (.if_icmp .ge 34, 3) := by decide +kernel
theorem dX6_next_42 : decode cX6_next 42 = .ok (.iconst 0, 1) := by decide +kernel
theorem dX6_next_43 : decode cX6_next 43 = .ok (.ireturn, 1) := by decide +kernel
set_option maxRecDepth 100000 in
set_option maxHeartbeats 4000000 in
theorem c_next_0 (l : Launch) (D : va_G) (ct : Nat → ClassId) (rd : Nat) (bt : Nat) (tg : Nat) (ws : Int32) (er : Int32) (ep : Int32) (sz : Nat) : Met l yX6_next (ws_ yX6_next cX6_next 1 (some .int)) ({ frames := 0, cells := 0, slots := 0, locals := 0 } : Room) (va_Pc [.ref rd] (cmP D ct sz [(rd, .inr (6, [.ref bt, .int 0, .ref tg, .int 0, .int ws, .int er, .int ep]))])) (va_Qi (fun (r : Int32) (_ : Unit) => r = 0) (cmB D [(rd, .inr (6, [.ref bt, .int 0, .ref tg, .int 0, .int ws, .int er, .int ep]))] sz (fun _ : Unit => [(rd, .inr (6, [.ref bt, .int 0, .ref tg, .int 0, .int ws, .int er, .int ep]))])) (va_A [(rd, .inr (6, [.ref bt, .int 0, .ref tg, .int 0, .int ws, .int er, .int ep]))] sz)) 0 0 (va_A [(rd, .inr (6, [.ref bt, .int 0, .ref tg, .int 0, .int ws, .int er, .int ep]))] sz) := by
  refine Met.ofW (cc := cX6_next) (maxL := 1) (ret := (some .int)) (by decide) rfl ?_
  intro p e s m args below meth c s₁ B hml hv
  obtain ⟨rfl, hsz, hP, hK, hD0, hX⟩ := hv
  have hx := B.exec
  have hb := B.bytes
  have hr := B.returns
  have hts := ws_all (atoms_spec (ws := ws_ yX6_next cX6_next 1 (some .int)) B.pre)
  have hown : s.vm.findClass RX6 = some m.cls := findClass_of_methodNamed B.named
  have hlocks := B.notSynchronized
  subst hsz
  have hD := hD0.self (sz := s.heap.size)
  generalize hAe : va_A [(rd, .inr (6, [.ref bt, .int 0, .ref tg, .int 0, .int ws, .int er, .int ep]))] s.heap.size = A at hD hX ⊢
  have hA : ∀ q : Nat, s.heap.size ≤ q → A q := fun q h => by rw [← hAe]; exact Or.inr h
  have hS : va_S A s.heap s.heap [] := va_S.rf
  have hl := lv_entry ([.ref rd]) (n := 1) (Nat.le_of_ble_eq_true rfl)
  rw [lg_entry_eq]
  generalize (lg_sl ([.ref rd]) ++ List.replicate (1 - (lg_sl ([.ref rd])).length) Slot.unset).toArray = ls at hl ⊢
  have hl : lv_has ls 1 [(0, .ref rd)] := hl
  refine lv_aload_n hx hb dX6_next_0 rfl (lv_at hl 0 rfl) ?_
  refine va_get (v := .int 0) (D := D) (ci := 6) (C := RX6) (T := TX6) (N := 7) hx hb hts in_X6 hown hK hP 0 rfl rfl 3 (by decide) (hts _ kl_RX6_65) (fun _ h9 => h9) rfl dX6_next_1 ?_
  refine lv_aload_n hx hb dX6_next_4 rfl (lv_at hl 0 rfl) ?_
  refine va_get (v := .int 0) (D := D) (ci := 6) (C := RX6) (T := TX6) (N := 7) hx hb hts in_X6 hown hK hP 0 rfl rfl 1 (by decide) (hts _ kl_RX6_15) (fun _ h9 => h9) rfl dX6_next_5 ?_
  refine lv_icmp_ge (tgt := 42) hx hb dX6_next_8 (by decide) (fun _ => ?_) (fun hc => absurd (by decide) hc)
  refine lv_iconst (v := 0) hx hb dX6_next_42 (by decide) ?_
  have hP9 := hP.sub (ws' := [(rd, .inr (6, [.ref bt, .int 0, .ref tg, .int 0, .int ws, .int er, .int ep]))]) [0] rfl
  have hD9 := hD.sub (ws' := [(rd, .inr (6, [.ref bt, .int 0, .ref tg, .int 0, .int ws, .int er, .int ep]))]) [0] (by decide) rfl
  exact W.iret (v := 0) hx hb hr (fun t ht hW => ⟨⟨0, (), rfl, rfl, by rw [ht]; exact hP9, by rw [hAe]; exact hD9⟩, hS.F ht⟩) hS.2.2 dX6_next_43
theorem dX6_skipSpaces_0 : decode cX6_skipSpaces 0 = .ok (.aload_n 0, 1) := by decide +kernel
theorem dX6_skipSpaces_1 : decode cX6_skipSpaces 1 = .ok (.getfield 65, 3) := by decide +kernel
theorem dX6_skipSpaces_4 : decode cX6_skipSpaces 4 = .ok (.aload_n 0, 1) := by decide +kernel
theorem dX6_skipSpaces_5 : decode cX6_skipSpaces 5 = .ok (.getfield 15, 3) := by decide +kernel
theorem dX6_skipSpaces_8 : decode cX6_skipSpaces 8 = .ok (.if_icmp .ge 25, 3) := by decide +kernel
theorem dX6_skipSpaces_33 : decode cX6_skipSpaces 33 = .ok (.return_, 1) := by decide +kernel
set_option maxRecDepth 100000 in
set_option maxHeartbeats 4000000 in
theorem c_rskip_0 (l : Launch) (D : va_G) (ct : Nat → ClassId) (rd : Nat) (bt : Nat) (tg : Nat) (ws : Int32) (er : Int32) (ep : Int32) (sz : Nat) : Met l yX6_skipSpaces (ws_ yX6_skipSpaces cX6_skipSpaces 1 none) ({ frames := 0, cells := 0, slots := 0, locals := 0 } : Room) (va_Pc [.ref rd] (cmP D ct sz [(rd, .inr (6, [.ref bt, .int 0, .ref tg, .int 0, .int ws, .int er, .int ep]))])) (va_Qv (fun (_ : Unit) => True) (cmB D [(rd, .inr (6, [.ref bt, .int 0, .ref tg, .int 0, .int ws, .int er, .int ep]))] sz (fun _ : Unit => [(rd, .inr (6, [.ref bt, .int 0, .ref tg, .int 0, .int ws, .int er, .int ep]))])) (va_A [(rd, .inr (6, [.ref bt, .int 0, .ref tg, .int 0, .int ws, .int er, .int ep]))] sz)) 0 0 (va_A [(rd, .inr (6, [.ref bt, .int 0, .ref tg, .int 0, .int ws, .int er, .int ep]))] sz) := by
  refine Met.ofW (cc := cX6_skipSpaces) (maxL := 1) (ret := none) (by decide) rfl ?_
  intro p e s m args below meth c s₁ B hml hv
  obtain ⟨rfl, hsz, hP, hK, hD0, hX⟩ := hv
  have hx := B.exec
  have hb := B.bytes
  have hr := B.returns
  have hts := ws_all (atoms_spec (ws := ws_ yX6_skipSpaces cX6_skipSpaces 1 none) B.pre)
  have hown : s.vm.findClass RX6 = some m.cls := findClass_of_methodNamed B.named
  have hlocks := B.notSynchronized
  subst hsz
  have hD := hD0.self (sz := s.heap.size)
  generalize hAe : va_A [(rd, .inr (6, [.ref bt, .int 0, .ref tg, .int 0, .int ws, .int er, .int ep]))] s.heap.size = A at hD hX ⊢
  have hA : ∀ q : Nat, s.heap.size ≤ q → A q := fun q h => by rw [← hAe]; exact Or.inr h
  have hS : va_S A s.heap s.heap [] := va_S.rf
  have hl := lv_entry ([.ref rd]) (n := 1) (Nat.le_of_ble_eq_true rfl)
  rw [lg_entry_eq]
  generalize (lg_sl ([.ref rd]) ++ List.replicate (1 - (lg_sl ([.ref rd])).length) Slot.unset).toArray = ls at hl ⊢
  have hl : lv_has ls 1 [(0, .ref rd)] := hl
  refine lv_aload_n hx hb dX6_skipSpaces_0 rfl (lv_at hl 0 rfl) ?_
  refine va_get (v := .int 0) (D := D) (ci := 6) (C := RX6) (T := TX6) (N := 7) hx hb hts in_X6 hown hK hP 0 rfl rfl 3 (by decide) (hts _ kl_RX6_65) (fun _ h9 => h9) rfl dX6_skipSpaces_1 ?_
  refine lv_aload_n hx hb dX6_skipSpaces_4 rfl (lv_at hl 0 rfl) ?_
  refine va_get (v := .int 0) (D := D) (ci := 6) (C := RX6) (T := TX6) (N := 7) hx hb hts in_X6 hown hK hP 0 rfl rfl 1 (by decide) (hts _ kl_RX6_15) (fun _ h9 => h9) rfl dX6_skipSpaces_5 ?_
  refine lv_icmp_ge (tgt := 33) hx hb dX6_skipSpaces_8 (by decide) (fun _ => ?_) (fun hc => absurd (by decide) hc)
  have hP9 := hP.sub (ws' := [(rd, .inr (6, [.ref bt, .int 0, .ref tg, .int 0, .int ws, .int er, .int ep]))]) [0] rfl
  have hD9 := hD.sub (ws' := [(rd, .inr (6, [.ref bt, .int 0, .ref tg, .int 0, .int ws, .int er, .int ep]))]) [0] (by decide) rfl
  exact W.vret hx hb hr (fun t ht hW => ⟨⟨(), rfl, trivial, by rw [ht]; exact hP9, by rw [hAe]; exact hD9⟩, hS.F ht⟩) hS.2.2 dX6_skipSpaces_33
theorem dX6_fail_0 : decode cX6_fail 0 = .ok (.aload_n 0, 1) := by decide +kernel
theorem dX6_fail_1 : decode cX6_fail 1 = .ok (.getfield 58, 3) := by decide +kernel
theorem dX6_fail_4 : decode cX6_fail 4 = .ok (.ifCond .ne 13, 3) := by decide +kernel
theorem dX6_fail_7 : decode cX6_fail 7 = .ok (.aload_n 0, 1) := by decide +kernel
theorem dX6_fail_8 : decode cX6_fail 8 = .ok (.iload_n 1, 1) := by decide +kernel
theorem dX6_fail_9 : decode cX6_fail 9 = .ok (.putfield 58, 3) := by decide +kernel
theorem dX6_fail_12 : decode cX6_fail 12 = .ok (.aload_n 0, 1) := by decide +kernel
theorem dX6_fail_13 : decode cX6_fail 13 = .ok (.iload_n 2, 1) := by decide +kernel
theorem dX6_fail_14 : decode cX6_fail 14 = .ok (.putfield 236, 3) := by decide +kernel
theorem dX6_fail_17 : decode cX6_fail 17 = .ok (.return_, 1) := by decide +kernel
set_option maxRecDepth 100000 in
set_option maxHeartbeats 4000000 in
theorem c_fail_0 (l : Launch) (D : va_G) (ct : Nat → ClassId) (rd : Nat) (bt : Nat) (tg : Nat) (ws : Int32) (ep : Int32) (k : Int32) (wh : Int32) (sz : Nat) : Met l yX6_fail (ws_ yX6_fail cX6_fail 3 none) ({ frames := 0, cells := 0, slots := 0, locals := 0 } : Room) (va_Pc [.ref rd, .int k, .int wh] (cmP D ct sz [(rd, .inr (6, [.ref bt, .int 0, .ref tg, .int 0, .int ws, .int 0, .int ep]))])) (va_Qv (fun (_ : Unit) => True) (cmB D [(rd, .inr (6, [.ref bt, .int 0, .ref tg, .int 0, .int ws, .int 0, .int ep]))] sz (fun _ : Unit => [(rd, .inr (6, [.ref bt, .int 0, .ref tg, .int 0, .int ws, .int k, .int wh]))])) (va_A [(rd, .inr (6, [.ref bt, .int 0, .ref tg, .int 0, .int ws, .int 0, .int ep]))] sz)) 0 0 (va_A [(rd, .inr (6, [.ref bt, .int 0, .ref tg, .int 0, .int ws, .int 0, .int ep]))] sz) := by
  refine Met.ofW (cc := cX6_fail) (maxL := 3) (ret := none) (by decide) rfl ?_
  intro p e s m args below meth c s₁ B hml hv
  obtain ⟨rfl, hsz, hP, hK, hD0, hX⟩ := hv
  have hx := B.exec
  have hb := B.bytes
  have hr := B.returns
  have hts := ws_all (atoms_spec (ws := ws_ yX6_fail cX6_fail 3 none) B.pre)
  have hown : s.vm.findClass RX6 = some m.cls := findClass_of_methodNamed B.named
  have hlocks := B.notSynchronized
  subst hsz
  have hD := hD0.self (sz := s.heap.size)
  generalize hAe : va_A [(rd, .inr (6, [.ref bt, .int 0, .ref tg, .int 0, .int ws, .int 0, .int ep]))] s.heap.size = A at hD hX ⊢
  have hA : ∀ q : Nat, s.heap.size ≤ q → A q := fun q h => by rw [← hAe]; exact Or.inr h
  have hS : va_S A s.heap s.heap [] := va_S.rf
  have hl := lv_entry ([.ref rd, .int k, .int wh]) (n := 3) (Nat.le_of_ble_eq_true rfl)
  rw [lg_entry_eq]
  generalize (lg_sl ([.ref rd, .int k, .int wh]) ++ List.replicate (3 - (lg_sl ([.ref rd, .int k, .int wh])).length) Slot.unset).toArray = ls at hl ⊢
  have hl : lv_has ls 3 [(0, .ref rd), (1, .int k), (2, .int wh)] := hl
  refine lv_aload_n hx hb dX6_fail_0 rfl (lv_at hl 0 rfl) ?_
  refine va_get (v := .int 0) (D := D) (ci := 6) (C := RX6) (T := TX6) (N := 7) hx hb hts in_X6 hown hK hP 0 rfl rfl 5 (by decide) (hts _ kl_RX6_58) (fun _ h9 => h9) rfl dX6_fail_1 ?_
  refine lv_if_ne (tgt := 17) hx hb dX6_fail_4 (by decide) (fun hc => absurd (by decide) hc) (fun _ => ?_)
  refine lv_aload_n hx hb dX6_fail_7 rfl (lv_at hl 0 rfl) ?_
  refine lv_iload_n hx hb dX6_fail_8 rfl (lv_at hl 1 rfl) ?_
  refine va_put (v := .int k) (ty := .int) (D := D) (ci := 6) (C := RX6) (T := TX6) (N := 7) hx hb hts in_X6 tyX6 tyX6_ok nmX6 hown hK hP hD hS 0 rfl rfl 5 (by decide) (hts _ kl_RX6_58) (fun _ h9 => h9) rfl (by decide +kernel) rfl rfl (Nat.le_of_ble_eq_true rfl) dX6_fail_9 (fun H locs hP hD hS => ?_)
  have hP : va_P D vwCl [(rd, .inr (6, [.ref bt, .int 0, .ref tg, .int 0, .int ws, .int k, .int ep]))] H := hP
  have hD : va_D A [(rd, .inr (6, [.ref bt, .int 0, .ref tg, .int 0, .int ws, .int k, .int ep]))] := hD
  refine lv_aload_n hx hb dX6_fail_12 rfl (lv_at hl 0 rfl) ?_
  refine lv_iload_n hx hb dX6_fail_13 rfl (lv_at hl 2 rfl) ?_
  refine va_put (v := .int wh) (ty := .int) (D := D) (ci := 6) (C := RX6) (T := TX6) (N := 7) hx hb hts in_X6 tyX6 tyX6_ok nmX6 hown hK hP hD hS 0 rfl rfl 6 (by decide) (hts _ kl_RX6_236) (fun _ h9 => h9) rfl (by decide +kernel) rfl rfl (Nat.le_of_ble_eq_true rfl) dX6_fail_14 (fun H locs hP hD hS => ?_)
  have hP : va_P D vwCl [(rd, .inr (6, [.ref bt, .int 0, .ref tg, .int 0, .int ws, .int k, .int wh]))] H := hP
  have hD : va_D A [(rd, .inr (6, [.ref bt, .int 0, .ref tg, .int 0, .int ws, .int k, .int wh]))] := hD
  have hP9 := hP.sub (ws' := [(rd, .inr (6, [.ref bt, .int 0, .ref tg, .int 0, .int ws, .int k, .int wh]))]) [0] rfl
  have hD9 := hD.sub (ws' := [(rd, .inr (6, [.ref bt, .int 0, .ref tg, .int 0, .int ws, .int k, .int wh]))]) [0] (by decide) rfl
  exact W.vret hx hb hr (fun t ht hW => ⟨⟨(), rfl, trivial, by rw [ht]; exact hP9, by rw [hAe]; exact hD9⟩, hS.F ht⟩) hS.2.2 dX6_fail_17
set_option maxRecDepth 100000 in
set_option maxHeartbeats 4000000 in
theorem c_fail_1 (l : Launch) (D : va_G) (ct : Nat → ClassId) (rd : Nat) (bt : Nat) (tg : Nat) (ws : Int32) (ep : Int32) (k : Int32) (wh : Int32) (sz : Nat) : Met l yX6_fail (ws_ yX6_fail cX6_fail 3 none) ({ frames := 0, cells := 0, slots := 0, locals := 0 } : Room) (va_Pc [.ref rd, .int k, .int wh] (cmP D ct sz [(rd, .inr (6, [.ref bt, .int 0, .ref tg, .int 0, .int ws, .int 1, .int ep]))])) (va_Qv (fun (_ : Unit) => True) (cmB D [(rd, .inr (6, [.ref bt, .int 0, .ref tg, .int 0, .int ws, .int 1, .int ep]))] sz (fun _ : Unit => [(rd, .inr (6, [.ref bt, .int 0, .ref tg, .int 0, .int ws, .int 1, .int ep]))])) (va_A [(rd, .inr (6, [.ref bt, .int 0, .ref tg, .int 0, .int ws, .int 1, .int ep]))] sz)) 0 0 (va_A [(rd, .inr (6, [.ref bt, .int 0, .ref tg, .int 0, .int ws, .int 1, .int ep]))] sz) := by
  refine Met.ofW (cc := cX6_fail) (maxL := 3) (ret := none) (by decide) rfl ?_
  intro p e s m args below meth c s₁ B hml hv
  obtain ⟨rfl, hsz, hP, hK, hD0, hX⟩ := hv
  have hx := B.exec
  have hb := B.bytes
  have hr := B.returns
  have hts := ws_all (atoms_spec (ws := ws_ yX6_fail cX6_fail 3 none) B.pre)
  have hown : s.vm.findClass RX6 = some m.cls := findClass_of_methodNamed B.named
  have hlocks := B.notSynchronized
  subst hsz
  have hD := hD0.self (sz := s.heap.size)
  generalize hAe : va_A [(rd, .inr (6, [.ref bt, .int 0, .ref tg, .int 0, .int ws, .int 1, .int ep]))] s.heap.size = A at hD hX ⊢
  have hA : ∀ q : Nat, s.heap.size ≤ q → A q := fun q h => by rw [← hAe]; exact Or.inr h
  have hS : va_S A s.heap s.heap [] := va_S.rf
  have hl := lv_entry ([.ref rd, .int k, .int wh]) (n := 3) (Nat.le_of_ble_eq_true rfl)
  rw [lg_entry_eq]
  generalize (lg_sl ([.ref rd, .int k, .int wh]) ++ List.replicate (3 - (lg_sl ([.ref rd, .int k, .int wh])).length) Slot.unset).toArray = ls at hl ⊢
  have hl : lv_has ls 3 [(0, .ref rd), (1, .int k), (2, .int wh)] := hl
  refine lv_aload_n hx hb dX6_fail_0 rfl (lv_at hl 0 rfl) ?_
  refine va_get (v := .int 1) (D := D) (ci := 6) (C := RX6) (T := TX6) (N := 7) hx hb hts in_X6 hown hK hP 0 rfl rfl 5 (by decide) (hts _ kl_RX6_58) (fun _ h9 => h9) rfl dX6_fail_1 ?_
  refine lv_if_ne (tgt := 17) hx hb dX6_fail_4 (by decide) (fun _ => ?_) (fun hc => absurd hc (by decide))
  have hP9 := hP.sub (ws' := [(rd, .inr (6, [.ref bt, .int 0, .ref tg, .int 0, .int ws, .int 1, .int ep]))]) [0] rfl
  have hD9 := hD.sub (ws' := [(rd, .inr (6, [.ref bt, .int 0, .ref tg, .int 0, .int ws, .int 1, .int ep]))]) [0] (by decide) rfl
  exact W.vret hx hb hr (fun t ht hW => ⟨⟨(), rfl, trivial, by rw [ht]; exact hP9, by rw [hAe]; exact hD9⟩, hS.F ht⟩) hS.2.2 dX6_fail_17
theorem dX6_isLetter_0 : decode cX6_isLetter 0 = .ok (.iload_n 0, 1) := by decide +kernel
theorem dX6_isLetter_1 : decode cX6_isLetter 1 = .ok (.bipush 97, 2) := by decide +kernel
theorem dX6_isLetter_3 : decode cX6_isLetter 3 = .ok (.if_icmp .lt 13, 3) := by decide +kernel
theorem dX6_isLetter_16 : decode cX6_isLetter 16 = .ok (.iconst 0, 1) := by decide +kernel
theorem dX6_isLetter_17 : decode cX6_isLetter 17 = .ok (.ireturn, 1) := by decide +kernel
set_option maxRecDepth 100000 in
set_option maxHeartbeats 4000000 in
theorem c_isLetter_0 (l : Launch) (D : va_G) (ct : Nat → ClassId)  (sz : Nat) : Met l yX6_isLetter (ws_ yX6_isLetter cX6_isLetter 1 (some .boolean)) ({ frames := 0, cells := 0, slots := 0, locals := 0 } : Room) (va_Pc [.int 0] (cmP D ct sz [])) (va_Qi (fun (r : Int32) (_ : Unit) => r = 0) (cmB D [] sz (fun _ : Unit => [])) (va_A [] sz)) 0 0 (va_A [] sz) := by
  refine Met.ofW (cc := cX6_isLetter) (maxL := 1) (ret := (some .boolean)) (by decide) rfl ?_
  intro p e s m args below meth c s₁ B hml hv
  obtain ⟨rfl, hsz, hP, hK, hD0, hX⟩ := hv
  have hx := B.exec
  have hb := B.bytes
  have hr := B.returns
  have hts := ws_all (atoms_spec (ws := ws_ yX6_isLetter cX6_isLetter 1 (some .boolean)) B.pre)
  have hown : s.vm.findClass RX6 = some m.cls := findClass_of_methodNamed B.named
  have hlocks := B.notSynchronized
  subst hsz
  have hD := hD0.self (sz := s.heap.size)
  generalize hAe : va_A [] s.heap.size = A at hD hX ⊢
  have hA : ∀ q : Nat, s.heap.size ≤ q → A q := fun q h => by rw [← hAe]; exact Or.inr h
  have hS : va_S A s.heap s.heap [] := va_S.rf
  have hl := lv_entry ([.int 0]) (n := 1) (Nat.le_of_ble_eq_true rfl)
  rw [lg_entry_eq]
  generalize (lg_sl ([.int 0]) ++ List.replicate (1 - (lg_sl ([.int 0])).length) Slot.unset).toArray = ls at hl ⊢
  have hl : lv_has ls 1 [(0, .int 0)] := hl
  refine lv_iload_n hx hb dX6_isLetter_0 rfl (lv_at hl 0 rfl) ?_
  refine lv_bipush (v := 97) hx hb dX6_isLetter_1 (by decide) ?_
  refine lv_icmp_lt (tgt := 16) hx hb dX6_isLetter_3 (by decide) (fun _ => ?_) (fun hc => absurd (by decide) hc)
  refine lv_iconst (v := 0) hx hb dX6_isLetter_16 (by decide) ?_
  have hP9 := hP.sub (ws' := []) [] rfl
  have hD9 := hD.sub (ws' := []) [] (by decide) rfl
  exact W.zret (v := 0) hx hb hr (by decide) (fun t ht hW => ⟨⟨0, (), rfl, rfl, by rw [ht]; exact hP9, by rw [hAe]; exact hD9⟩, hS.F ht⟩) hS.2.2 dX6_isLetter_17
theorem dX6_readWord_0 : decode cX6_readWord 0 = .ok (.aload_n 0, 1) := by decide +kernel
theorem dX6_readWord_1 : decode cX6_readWord 1 = .ok (.invokevirtual 55, 3) := by decide +kernel
theorem dX6_readWord_4 : decode cX6_readWord 4 = .ok (.aload_n 0, 1) := by decide +kernel
theorem dX6_readWord_5 : decode cX6_readWord 5 = .ok (.aload_n 0, 1) := by decide +kernel
theorem dX6_readWord_6 : decode cX6_readWord 6 = .ok (.getfield 65, 3) := by decide +kernel
theorem dX6_readWord_9 : decode cX6_readWord 9 = .ok (.putfield 130, 3) := by decide +kernel
theorem dX6_readWord_12 : decode cX6_readWord 12 = .ok (.aload_n 0, 1) := by decide +kernel
theorem dX6_readWord_13 : decode cX6_readWord 13 = .ok (.invokevirtual 61, 3) := by decide +kernel
theorem dX6_readWord_16 : decode cX6_readWord 16 = .ok (.invokestatic 202, 3) := by decide +kernel
theorem dX6_readWord_19 : decode cX6_readWord 19 = .ok (.ifCond .ne 13, 3) := by decide +kernel
theorem dX6_readWord_22 : decode cX6_readWord 22 = .ok (.aload_n 0, 1) := by decide +kernel
theorem dX6_readWord_23 : decode cX6_readWord 23 = .ok (.iconst 1, 1) := by decide +kernel
theorem dX6_readWord_24 : decode cX6_readWord 24 = .ok (.aload_n 0, 1) := by decide +kernel
theorem dX6_readWord_25 : decode cX6_readWord 25 = .ok (.getfield 65, 3) := by decide +kernel
theorem dX6_readWord_28 : decode cX6_readWord 28 = .ok (.invokevirtual 68, 3) := by decide +kernel
theorem dX6_readWord_31 : decode cX6_readWord 31 = .ok (.return_, 1) := by decide +kernel
set_option maxRecDepth 100000 in
set_option maxHeartbeats 4000000 in
theorem c_readWord_0 (l : Launch) (D : va_G) (ct : Nat → ClassId) (rd : Nat) (bt : Nat) (tg : Nat) (sz : Nat) : Met l yX6_readWord (ws_ yX6_readWord cX6_readWord 1 none) ({ frames := 1, cells := 0, slots := 0, locals := 22 } : Room) (va_Pc [.ref rd] (cmP D ct sz [(rd, .inr (6, [.ref bt, .int 0, .ref tg, .int 0, .int 0, .int 0, .int 0]))])) (va_Qv (fun (_ : Unit) => True) (cmB D [(rd, .inr (6, [.ref bt, .int 0, .ref tg, .int 0, .int 0, .int 0, .int 0]))] sz (fun _ : Unit => [(rd, .inr (6, [.ref bt, .int 0, .ref tg, .int 0, .int 0, .int 1, .int 0]))])) (va_A [(rd, .inr (6, [.ref bt, .int 0, .ref tg, .int 0, .int 0, .int 0, .int 0]))] sz)) 0 0 (va_A [(rd, .inr (6, [.ref bt, .int 0, .ref tg, .int 0, .int 0, .int 0, .int 0]))] sz) := by
  refine Met.ofW (cc := cX6_readWord) (maxL := 1) (ret := none) (by decide) rfl ?_
  intro p e s m args below meth c s₁ B hml hv
  obtain ⟨rfl, hsz, hP, hK, hD0, hX⟩ := hv
  have hx := B.exec
  have hb := B.bytes
  have hr := B.returns
  have hts := ws_all (atoms_spec (ws := ws_ yX6_readWord cX6_readWord 1 none) B.pre)
  have hown : s.vm.findClass RX6 = some m.cls := findClass_of_methodNamed B.named
  have hlocks := B.notSynchronized
  subst hsz
  have hD := hD0.self (sz := s.heap.size)
  generalize hAe : va_A [(rd, .inr (6, [.ref bt, .int 0, .ref tg, .int 0, .int 0, .int 0, .int 0]))] s.heap.size = A at hD hX ⊢
  have hA : ∀ q : Nat, s.heap.size ≤ q → A q := fun q h => by rw [← hAe]; exact Or.inr h
  have hS : va_S A s.heap s.heap [] := va_S.rf
  have hl := lv_entry ([.ref rd]) (n := 1) (Nat.le_of_ble_eq_true rfl)
  rw [lg_entry_eq]
  generalize (lg_sl ([.ref rd]) ++ List.replicate (1 - (lg_sl ([.ref rd])).length) Slot.unset).toArray = ls at hl ⊢
  have hl : lv_has ls 1 [(0, .ref rd)] := hl
  refine lv_aload_n hx hb dX6_readWord_0 rfl (lv_at hl 0 rfl) ?_
  refine cm_kv (wr := []) (va_runV (As := []) (rest := []) ⟨hx, hb, hml, hown, hts⟩ (c_rskip_0 l D ct rd bt tg 0 0 0 _) (cm_V 0 hts kc_X6_skipSpaces ki_RX6 kl_RX6_55 kv_X6_skipSpaces kx_X6_skipSpaces kd_X6_skipSpaces ⟨Nat.le_of_ble_eq_true rfl, Nat.le_of_ble_eq_true rfl⟩) (cm_preV hP hK hD hS hA hX [0] rfl rfl rfl (q0 := 0) (ci := 6) rfl rfl) rfl rfl hl.1 rfl (lv_room (Nat.le_of_ble_eq_true rfl)) dX6_readWord_1 ⟨Nat.le_of_ble_eq_true rfl, Nat.le_of_ble_eq_true rfl⟩) hP hD hS hA [0] [] rfl rfl rfl (by decide) (fun u H locs hw_2 hP hD hS => ?_)
  have hP : va_P D vwCl [(rd, .inr (6, [.ref bt, .int 0, .ref tg, .int 0, .int 0, .int 0, .int 0]))] H := hP
  have hD : va_D A [(rd, .inr (6, [.ref bt, .int 0, .ref tg, .int 0, .int 0, .int 0, .int 0]))] := hD
  refine lv_aload_n hx hb dX6_readWord_4 rfl (lv_at hl 0 rfl) ?_
  refine lv_aload_n hx hb dX6_readWord_5 rfl (lv_at hl 0 rfl) ?_
  refine va_get (v := .int 0) (D := D) (ci := 6) (C := RX6) (T := TX6) (N := 7) hx hb hts in_X6 hown hK hP 0 rfl rfl 3 (by decide) (hts _ kl_RX6_65) (fun _ h9 => h9) rfl dX6_readWord_6 ?_
  refine va_put (v := .int 0) (ty := .int) (D := D) (ci := 6) (C := RX6) (T := TX6) (N := 7) hx hb hts in_X6 tyX6 tyX6_ok nmX6 hown hK hP hD hS 0 rfl rfl 4 (by decide) (hts _ kl_RX6_130) (fun _ h9 => h9) rfl (by decide +kernel) rfl rfl (Nat.le_of_ble_eq_true rfl) dX6_readWord_9 (fun H locs hP hD hS => ?_)
  have hP : va_P D vwCl [(rd, .inr (6, [.ref bt, .int 0, .ref tg, .int 0, .int 0, .int 0, .int 0]))] H := hP
  have hD : va_D A [(rd, .inr (6, [.ref bt, .int 0, .ref tg, .int 0, .int 0, .int 0, .int 0]))] := hD
  refine lv_aload_n hx hb dX6_readWord_12 rfl (lv_at hl 0 rfl) ?_
  refine cm_ki (wr := []) (va_runV (As := []) (rest := []) ⟨hx, hb, hml, hown, hts⟩ (c_next_0 l D ct rd bt tg 0 0 0 _) (cm_V 0 hts kc_X6_next ki_RX6 kl_RX6_61 kv_X6_next kx_X6_next kd_X6_next ⟨Nat.le_of_ble_eq_true rfl, Nat.le_of_ble_eq_true rfl⟩) (cm_preV hP hK hD hS hA hX [0] rfl rfl rfl (q0 := 0) (ci := 6) rfl rfl) rfl rfl hl.1 rfl (lv_room (Nat.le_of_ble_eq_true rfl)) dX6_readWord_13 ⟨Nat.le_of_ble_eq_true rfl, Nat.le_of_ble_eq_true rfl⟩) hP hD hS hA [0] [] rfl rfl rfl (by decide) (fun r_3 u H locs hw_4 hP hD hS => ?_)
  have hw_4 : r_3 = 0 := hw_4
  obtain rfl := hw_4
  have hP : va_P D vwCl [(rd, .inr (6, [.ref bt, .int 0, .ref tg, .int 0, .int 0, .int 0, .int 0]))] H := hP
  have hD : va_D A [(rd, .inr (6, [.ref bt, .int 0, .ref tg, .int 0, .int 0, .int 0, .int 0]))] := hD
  refine cm_ki (wr := [(rd, .inr (6, [.ref bt, .int 0, .ref tg, .int 0, .int 0, .int 0, .int 0]))]) (va_runS (As := [.int 0]) (rest := []) ⟨hx, hb, hml, hown, hts⟩ (c_isLetter_0 l D ct  _) (cm_S 1 hts kc_X6_isLetter ki_RX6 kl_RX6_202 ks_X6_isLetter kd_X6_isLetter ⟨Nat.le_of_ble_eq_true rfl, Nat.le_of_ble_eq_true rfl⟩) (cm_preS hP hK hD hS hA hX [] rfl rfl rfl) rfl rfl hl.1 rfl (lv_room (Nat.le_of_ble_eq_true rfl)) dX6_readWord_16 ⟨Nat.le_of_ble_eq_true rfl, Nat.le_of_ble_eq_true rfl⟩) hP hD hS hA [] [0] rfl rfl rfl (by decide) (fun r_5 u H locs hw_6 hP hD hS => ?_)
  have hw_6 : r_5 = 0 := hw_6
  obtain rfl := hw_6
  have hP : va_P D vwCl [(rd, .inr (6, [.ref bt, .int 0, .ref tg, .int 0, .int 0, .int 0, .int 0]))] H := hP
  have hD : va_D A [(rd, .inr (6, [.ref bt, .int 0, .ref tg, .int 0, .int 0, .int 0, .int 0]))] := hD
  refine lv_if_ne (tgt := 32) hx hb dX6_readWord_19 (by decide) (fun hc => absurd (by decide) hc) (fun _ => ?_)
  refine lv_aload_n hx hb dX6_readWord_22 rfl (lv_at hl 0 rfl) ?_
  refine lv_iconst (v := 1) hx hb dX6_readWord_23 (by decide) ?_
  refine lv_aload_n hx hb dX6_readWord_24 rfl (lv_at hl 0 rfl) ?_
  refine va_get (v := .int 0) (D := D) (ci := 6) (C := RX6) (T := TX6) (N := 7) hx hb hts in_X6 hown hK hP 0 rfl rfl 3 (by decide) (hts _ kl_RX6_65) (fun _ h9 => h9) rfl dX6_readWord_25 ?_
  refine cm_kv (wr := []) (va_runV (As := [.int 1, .int 0]) (rest := []) ⟨hx, hb, hml, hown, hts⟩ (c_fail_0 l D ct rd bt tg 0 0 1 0 _) (cm_V 2 hts kc_X6_fail ki_RX6 kl_RX6_68 kv_X6_fail kx_X6_fail kd_X6_fail ⟨Nat.le_of_ble_eq_true rfl, Nat.le_of_ble_eq_true rfl⟩) (cm_preV hP hK hD hS hA hX [0] rfl rfl rfl (q0 := 0) (ci := 6) rfl rfl) rfl rfl hl.1 rfl (lv_room (Nat.le_of_ble_eq_true rfl)) dX6_readWord_28 ⟨Nat.le_of_ble_eq_true rfl, Nat.le_of_ble_eq_true rfl⟩) hP hD hS hA [0] [] rfl rfl rfl (by decide) (fun u H locs hw_8 hP hD hS => ?_)
  have hP : va_P D vwCl [(rd, .inr (6, [.ref bt, .int 0, .ref tg, .int 0, .int 0, .int 1, .int 0]))] H := hP
  have hD : va_D A [(rd, .inr (6, [.ref bt, .int 0, .ref tg, .int 0, .int 0, .int 1, .int 0]))] := hD
  have hP9 := hP.sub (ws' := [(rd, .inr (6, [.ref bt, .int 0, .ref tg, .int 0, .int 0, .int 1, .int 0]))]) [0] rfl
  have hD9 := hD.sub (ws' := [(rd, .inr (6, [.ref bt, .int 0, .ref tg, .int 0, .int 0, .int 1, .int 0]))]) [0] (by decide) rfl
  exact W.vret hx hb hr (fun t ht hW => ⟨⟨(), rfl, trivial, by rw [ht]; exact hP9, by rw [hAe]; exact hD9⟩, hS.F ht⟩) hS.2.2 dX6_readWord_31
theorem dX6_wordIs_0 : decode cX6_wordIs 0 = .ok (.aload_n 0, 1) := by decide +kernel
theorem dX6_wordIs_1 : decode cX6_wordIs 1 = .ok (.getfield 65, 3) := by decide +kernel
theorem dX6_wordIs_4 : decode cX6_wordIs 4 = .ok (.aload_n 0, 1) := by decide +kernel
theorem dX6_wordIs_5 : decode cX6_wordIs 5 = .ok (.getfield 130, 3) := by decide +kernel
theorem dX6_wordIs_8 : decode cX6_wordIs 8 = .ok (.isub, 1) := by decide +kernel
theorem dX6_wordIs_9 : decode cX6_wordIs 9 = .ok (.aload_n 1, 1) := by decide +kernel
theorem dX6_wordIs_10 : decode cX6_wordIs 10 = .ok (.invokevirtual 223, 3) := by decide +kernel
theorem dX6_wordIs_13 : decode cX6_wordIs 13 = .ok (.if_icmp .eq 5, 3) := by decide +kernel
theorem dX6_wordIs_16 : decode cX6_wordIs 16 = .ok (.iconst 0, 1) := by decide +kernel
theorem dX6_wordIs_17 : decode cX6_wordIs 17 = .ok (.ireturn, 1) := by decide +kernel
set_option maxRecDepth 100000 in
set_option maxHeartbeats 4000000 in
theorem c_wordIs_0 (l : Launch) (D : va_G) (ct : Nat → ClassId) (rd : Nat) (bt : Nat) (tg : Nat) (er : Int32) (ep : Int32) (wd : Nat) (q9 : cm_sq) (sz : Nat) (hq9 : q9 ∈ cm_strs) (hne : ¬ (0 : Int32) = Int32.ofNat q9.2.2.2.length) : Met l yX6_wordIs (ws_ yX6_wordIs cX6_wordIs 3 (some .boolean)) ({ frames := 2, cells := 0, slots := 0, locals := 40 } : Room) (va_Pc [.ref rd, .ref wd] (cmPs D ct sz [(rd, .inr (6, [.ref bt, .int 0, .ref tg, .int 0, .int 0, .int er, .int ep]))] q9 wd)) (va_Qi (fun (r : Int32) (_ : Unit) => r = 0) (cmB D [(rd, .inr (6, [.ref bt, .int 0, .ref tg, .int 0, .int 0, .int er, .int ep]))] sz (fun _ : Unit => [(rd, .inr (6, [.ref bt, .int 0, .ref tg, .int 0, .int 0, .int er, .int ep]))])) (va_A [(rd, .inr (6, [.ref bt, .int 0, .ref tg, .int 0, .int 0, .int er, .int ep]))] sz)) 0 0 (va_A [(rd, .inr (6, [.ref bt, .int 0, .ref tg, .int 0, .int 0, .int er, .int ep]))] sz) := by
  refine Met.ofW (cc := cX6_wordIs) (maxL := 3) (ret := (some .boolean)) (by decide) rfl ?_
  intro p e s m args below meth c s₁ B hml hv
  obtain ⟨rfl, ⟨hsz, hP, hK, hD0, hX⟩, hR9⟩ := hv
  have hx := B.exec
  have hb := B.bytes
  have hr := B.returns
  have hts := ws_all (atoms_spec (ws := ws_ yX6_wordIs cX6_wordIs 3 (some .boolean)) B.pre)
  have hown : s.vm.findClass RX6 = some m.cls := findClass_of_methodNamed B.named
  have hlocks := B.notSynchronized
  subst hsz
  have hD := hD0.self (sz := s.heap.size)
  generalize hAe : va_A [(rd, .inr (6, [.ref bt, .int 0, .ref tg, .int 0, .int 0, .int er, .int ep]))] s.heap.size = A at hD hX ⊢
  have hA : ∀ q : Nat, s.heap.size ≤ q → A q := fun q h => by rw [← hAe]; exact Or.inr h
  have hS : va_S A s.heap s.heap [] := va_S.rf
  obtain ⟨a9, v9, hr9, hs9⟩ := hX.2.2.2 q9 hq9
  have e9 : a9 = wd := cm_sinj hr9 hR9
  rw [e9] at hs9
  have hl := lv_entry ([.ref rd, .ref wd]) (n := 3) (Nat.le_of_ble_eq_true rfl)
  rw [lg_entry_eq]
  generalize (lg_sl ([.ref rd, .ref wd]) ++ List.replicate (3 - (lg_sl ([.ref rd, .ref wd])).length) Slot.unset).toArray = ls at hl ⊢
  have hl : lv_has ls 3 [(0, .ref rd), (1, .ref wd)] := hl
  refine lv_aload_n hx hb dX6_wordIs_0 rfl (lv_at hl 0 rfl) ?_
  refine va_get (v := .int 0) (D := D) (ci := 6) (C := RX6) (T := TX6) (N := 7) hx hb hts in_X6 hown hK hP 0 rfl rfl 3 (by decide) (hts _ kl_RX6_65) (fun _ h9 => h9) rfl dX6_wordIs_1 ?_
  refine lv_aload_n hx hb dX6_wordIs_4 rfl (lv_at hl 0 rfl) ?_
  refine va_get (v := .int 0) (D := D) (ci := 6) (C := RX6) (T := TX6) (N := 7) hx hb hts in_X6 hown hK hP 0 rfl rfl 4 (by decide) (hts _ kl_RX6_130) (fun _ h9 => h9) rfl dX6_wordIs_5 ?_
  refine lv_isub hx hb dX6_wordIs_8 ?_
  refine cm_cst (y := 0) (by decide) ?_
  refine lv_aload_n hx hb dX6_wordIs_9 rfl (lv_at hl 1 rfl) ?_
  refine cm_ki (wr := [(rd, .inr (6, [.ref bt, .int 0, .ref tg, .int 0, .int 0, .int er, .int ep]))]) (va_runV (As := []) (rest := [.int 0]) ⟨hx, hb, hml, hown, hts⟩ (c_strlen l D ct wd q9 _ hq9) (cm_V 0 hts kc_J0_length_8abf5 ki_RJ0 kl_RX6_223 kv_J0_length_8abf5 kx_J0_length_8abf5 kd_J0_length_8abf5 ⟨Nat.le_of_ble_eq_true rfl, Nat.le_of_ble_eq_true rfl⟩) (cm_preVt (cm_preS (As := [.ref wd]) hP hK hD hS hA hX [] rfl rfl rfl) (vk_recv hs9 (Nat.zero_lt_one) hS) hR9) rfl rfl hl.1 rfl (lv_room (Nat.le_of_ble_eq_true rfl)) dX6_wordIs_10 ⟨Nat.le_of_ble_eq_true rfl, Nat.le_of_ble_eq_true rfl⟩) hP hD hS hA [] [0] rfl rfl rfl (by decide) (fun r_1 u H locs hw_2 hP hD hS => ?_)
  have hw_2 : r_1 = (Int32.ofNat q9.2.2.2.length) := hw_2
  obtain rfl := hw_2
  have hP : va_P D vwCl [(rd, .inr (6, [.ref bt, .int 0, .ref tg, .int 0, .int 0, .int er, .int ep]))] H := hP
  have hD : va_D A [(rd, .inr (6, [.ref bt, .int 0, .ref tg, .int 0, .int 0, .int er, .int ep]))] := hD
  refine lv_icmp_eq (tgt := 18) hx hb dX6_wordIs_13 (by decide) (fun hc => absurd hc hne) (fun _ => ?_)
  refine lv_iconst (v := 0) hx hb dX6_wordIs_16 (by decide) ?_
  have hP9 := hP.sub (ws' := [(rd, .inr (6, [.ref bt, .int 0, .ref tg, .int 0, .int 0, .int er, .int ep]))]) [0] rfl
  have hD9 := hD.sub (ws' := [(rd, .inr (6, [.ref bt, .int 0, .ref tg, .int 0, .int 0, .int er, .int ep]))]) [0] (by decide) rfl
  exact W.zret (v := 0) hx hb hr (by decide) (fun t ht hW => ⟨⟨0, (), rfl, rfl, by rw [ht]; exact hP9, by rw [hAe]; exact hD9⟩, hS.F ht⟩) hS.2.2 dX6_wordIs_17
theorem dX6_readSetting_0 : decode cX6_readSetting 0 = .ok (.aload_n 0, 1) := by decide +kernel
theorem dX6_readSetting_1 : decode cX6_readSetting 1 = .ok (.ldc 72, 2) := by decide +kernel
theorem dX6_readSetting_3 : decode cX6_readSetting 3 = .ok (.invokevirtual 28, 3) := by decide +kernel
theorem dX6_readSetting_6 : decode cX6_readSetting 6 = .ok (.ifCond .eq 20, 3) := by decide +kernel
theorem dX6_readSetting_26 : decode cX6_readSetting 26 = .ok (.aload_n 0, 1) := by decide +kernel
theorem dX6_readSetting_27 : decode cX6_readSetting 27 = .ok (.ldc 82, 2) := by decide +kernel
theorem dX6_readSetting_29 : decode cX6_readSetting 29 = .ok (.invokevirtual 28, 3) := by decide +kernel
theorem dX6_readSetting_32 : decode cX6_readSetting 32 = .ok (.ifCond .eq 18, 3) := by decide +kernel
theorem dX6_readSetting_50 : decode cX6_readSetting 50 = .ok (.aload_n 0, 1) := by decide +kernel
theorem dX6_readSetting_51 : decode cX6_readSetting 51 = .ok (.ldc 87, 2) := by decide +kernel
theorem dX6_readSetting_53 : decode cX6_readSetting 53 = .ok (.invokevirtual 28, 3) := by decide +kernel
theorem dX6_readSetting_56 : decode cX6_readSetting 56 = .ok (.ifCond .eq 36, 3) := by decide +kernel
theorem dX6_readSetting_92 : decode cX6_readSetting 92 = .ok (.aload_n 0, 1) := by decide +kernel
theorem dX6_readSetting_93 : decode cX6_readSetting 93 = .ok (.ldc 99, 2) := by decide +kernel
theorem dX6_readSetting_95 : decode cX6_readSetting 95 = .ok (.invokevirtual 28, 3) := by decide +kernel
theorem dX6_readSetting_98 : decode cX6_readSetting 98 = .ok (.ifCond .eq 47, 3) := by decide +kernel
theorem dX6_readSetting_145 : decode cX6_readSetting 145 = .ok (.aload_n 0, 1) := by decide +kernel
theorem dX6_readSetting_146 : decode cX6_readSetting 146 = .ok (.ldc 110, 2) := by decide +kernel
theorem dX6_readSetting_148 : decode cX6_readSetting 148 = .ok (.invokevirtual 28, 3) := by decide +kernel
theorem dX6_readSetting_151 : decode cX6_readSetting 151 = .ok (.ifCond .eq 18, 3) := by decide +kernel
theorem dX6_readSetting_169 : decode cX6_readSetting 169 = .ok (.aload_n 0, 1) := by decide +kernel
theorem dX6_readSetting_170 : decode cX6_readSetting 170 = .ok (.ldc 114, 2) := by decide +kernel
theorem dX6_readSetting_172 : decode cX6_readSetting 172 = .ok (.invokevirtual 28, 3) := by decide +kernel
theorem dX6_readSetting_175 : decode cX6_readSetting 175 = .ok (.ifCond .eq 45, 3) := by decide +kernel
theorem dX6_readSetting_220 : decode cX6_readSetting 220 = .ok (.aload_n 0, 1) := by decide +kernel
theorem dX6_readSetting_221 : decode cX6_readSetting 221 = .ok (.ldc 125, 2) := by decide +kernel
theorem dX6_readSetting_223 : decode cX6_readSetting 223 = .ok (.invokevirtual 28, 3) := by decide +kernel
theorem dX6_readSetting_226 : decode cX6_readSetting 226 = .ok (.ifCond .eq 18, 3) := by decide +kernel
theorem dX6_readSetting_244 : decode cX6_readSetting 244 = .ok (.aload_n 0, 1) := by decide +kernel
theorem dX6_readSetting_245 : decode cX6_readSetting 245 = .ok (.iconst 1, 1) := by decide +kernel
theorem dX6_readSetting_246 : decode cX6_readSetting 246 = .ok (.aload_n 0, 1) := by decide +kernel
theorem dX6_readSetting_247 : decode cX6_readSetting 247 = .ok (.getfield 130, 3) := by decide +kernel
theorem dX6_readSetting_250 : decode cX6_readSetting 250 = .ok (.invokevirtual 68, 3) := by decide +kernel
theorem dX6_readSetting_253 : decode cX6_readSetting 253 = .ok (.return_, 1) := by decide +kernel
set_option maxRecDepth 100000 in
set_option maxHeartbeats 4000000 in
theorem c_readSetting_0 (l : Launch) (D : va_G) (ct : Nat → ClassId) (rd : Nat) (bt : Nat) (tg : Nat) (st : Nat) (sz : Nat) : Met l yX6_readSetting (ws_ yX6_readSetting cX6_readSetting 2 none) ({ frames := 3, cells := 0, slots := 0, locals := 62 } : Room) (va_Pc [.ref rd, .ref st] (cmP D ct sz [(rd, .inr (6, [.ref bt, .int 0, .ref tg, .int 0, .int 0, .int 1, .int 0]))])) (va_Qv (fun (_ : Unit) => True) (cmB D [(rd, .inr (6, [.ref bt, .int 0, .ref tg, .int 0, .int 0, .int 1, .int 0]))] sz (fun _ : Unit => [(rd, .inr (6, [.ref bt, .int 0, .ref tg, .int 0, .int 0, .int 1, .int 0]))])) (va_A [(rd, .inr (6, [.ref bt, .int 0, .ref tg, .int 0, .int 0, .int 1, .int 0]))] sz)) 0 0 (va_A [(rd, .inr (6, [.ref bt, .int 0, .ref tg, .int 0, .int 0, .int 1, .int 0]))] sz) := by
  refine Met.ofW (cc := cX6_readSetting) (maxL := 2) (ret := none) (by decide) rfl ?_
  intro p e s m args below meth c s₁ B hml hv
  obtain ⟨rfl, hsz, hP, hK, hD0, hX⟩ := hv
  have hx := B.exec
  have hb := B.bytes
  have hr := B.returns
  have hts := ws_all (atoms_spec (ws := ws_ yX6_readSetting cX6_readSetting 2 none) B.pre)
  have hown : s.vm.findClass RX6 = some m.cls := findClass_of_methodNamed B.named
  have hlocks := B.notSynchronized
  subst hsz
  have hD := hD0.self (sz := s.heap.size)
  generalize hAe : va_A [(rd, .inr (6, [.ref bt, .int 0, .ref tg, .int 0, .int 0, .int 1, .int 0]))] s.heap.size = A at hD hX ⊢
  have hA : ∀ q : Nat, s.heap.size ≤ q → A q := fun q h => by rw [← hAe]; exact Or.inr h
  have hS : va_S A s.heap s.heap [] := va_S.rf
  have hl := lv_entry ([.ref rd, .ref st]) (n := 2) (Nat.le_of_ble_eq_true rfl)
  rw [lg_entry_eq]
  generalize (lg_sl ([.ref rd, .ref st]) ++ List.replicate (2 - (lg_sl ([.ref rd, .ref st])).length) Slot.unset).toArray = ls at hl ⊢
  have hl : lv_has ls 2 [(0, .ref rd), (1, .ref st)] := hl
  refine lv_aload_n hx hb dX6_readSetting_0 rfl (lv_at hl 0 rfl) ?_
  obtain ⟨sa_1, sv_2, hsr_3, hss_4⟩ := hX.2.2.2 ("CellCycler$Reader", 72, "efficiency", [101, 102, 102, 105, 99, 105, 101, 110, 99, 121]) (by decide +kernel)
  refine va_ldcS hx hb hown hsr_3 dX6_readSetting_1 ?_
  refine cm_ki (wr := []) (va_runV (As := [.ref sa_1]) (rest := []) ⟨hx, hb, hml, hown, hts⟩ (c_wordIs_0 l D ct rd bt tg 1 0 sa_1 ("CellCycler$Reader", 72, "efficiency", [101, 102, 102, 105, 99, 105, 101, 110, 99, 121]) _ (by decide +kernel) (by decide)) (cm_V 1 hts kc_X6_wordIs ki_RX6 kl_RX6_28 kv_X6_wordIs kx_X6_wordIs kd_X6_wordIs ⟨Nat.le_of_ble_eq_true rfl, Nat.le_of_ble_eq_true rfl⟩) (cm_preVs (cm_preV hP hK hD hS hA hX [0] rfl rfl rfl (q0 := 0) (ci := 6) rfl rfl) hsr_3) rfl rfl hl.1 rfl (lv_room (Nat.le_of_ble_eq_true rfl)) dX6_readSetting_3 ⟨Nat.le_of_ble_eq_true rfl, Nat.le_of_ble_eq_true rfl⟩) hP hD hS hA [0] [] rfl rfl rfl (by decide) (fun r_5 u H locs hw_6 hP hD hS => ?_)
  have hw_6 : r_5 = 0 := hw_6
  obtain rfl := hw_6
  have hP : va_P D vwCl [(rd, .inr (6, [.ref bt, .int 0, .ref tg, .int 0, .int 0, .int 1, .int 0]))] H := hP
  have hD : va_D A [(rd, .inr (6, [.ref bt, .int 0, .ref tg, .int 0, .int 0, .int 1, .int 0]))] := hD
  refine lv_if_eq (tgt := 26) hx hb dX6_readSetting_6 (by decide) (fun _ => ?_) (fun hc => absurd (by decide) hc)
  refine lv_aload_n hx hb dX6_readSetting_26 rfl (lv_at hl 0 rfl) ?_
  obtain ⟨sa_7, sv_8, hsr_9, hss_10⟩ := hX.2.2.2 ("CellCycler$Reader", 82, "fade", [102, 97, 100, 101]) (by decide +kernel)
  refine va_ldcS hx hb hown hsr_9 dX6_readSetting_27 ?_
  refine cm_ki (wr := []) (va_runV (As := [.ref sa_7]) (rest := []) ⟨hx, hb, hml, hown, hts⟩ (c_wordIs_0 l D ct rd bt tg 1 0 sa_7 ("CellCycler$Reader", 82, "fade", [102, 97, 100, 101]) _ (by decide +kernel) (by decide)) (cm_V 1 hts kc_X6_wordIs ki_RX6 kl_RX6_28 kv_X6_wordIs kx_X6_wordIs kd_X6_wordIs ⟨Nat.le_of_ble_eq_true rfl, Nat.le_of_ble_eq_true rfl⟩) (cm_preVs (cm_preV hP hK hD hS hA hX [0] rfl rfl rfl (q0 := 0) (ci := 6) rfl rfl) hsr_9) rfl rfl hl.1 rfl (lv_room (Nat.le_of_ble_eq_true rfl)) dX6_readSetting_29 ⟨Nat.le_of_ble_eq_true rfl, Nat.le_of_ble_eq_true rfl⟩) hP hD hS hA [0] [] rfl rfl rfl (by decide) (fun r_11 u H locs hw_12 hP hD hS => ?_)
  have hw_12 : r_11 = 0 := hw_12
  obtain rfl := hw_12
  have hP : va_P D vwCl [(rd, .inr (6, [.ref bt, .int 0, .ref tg, .int 0, .int 0, .int 1, .int 0]))] H := hP
  have hD : va_D A [(rd, .inr (6, [.ref bt, .int 0, .ref tg, .int 0, .int 0, .int 1, .int 0]))] := hD
  refine lv_if_eq (tgt := 50) hx hb dX6_readSetting_32 (by decide) (fun _ => ?_) (fun hc => absurd (by decide) hc)
  refine lv_aload_n hx hb dX6_readSetting_50 rfl (lv_at hl 0 rfl) ?_
  obtain ⟨sa_13, sv_14, hsr_15, hss_16⟩ := hX.2.2.2 ("CellCycler$Reader", 87, "heat", [104, 101, 97, 116]) (by decide +kernel)
  refine va_ldcS hx hb hown hsr_15 dX6_readSetting_51 ?_
  refine cm_ki (wr := []) (va_runV (As := [.ref sa_13]) (rest := []) ⟨hx, hb, hml, hown, hts⟩ (c_wordIs_0 l D ct rd bt tg 1 0 sa_13 ("CellCycler$Reader", 87, "heat", [104, 101, 97, 116]) _ (by decide +kernel) (by decide)) (cm_V 1 hts kc_X6_wordIs ki_RX6 kl_RX6_28 kv_X6_wordIs kx_X6_wordIs kd_X6_wordIs ⟨Nat.le_of_ble_eq_true rfl, Nat.le_of_ble_eq_true rfl⟩) (cm_preVs (cm_preV hP hK hD hS hA hX [0] rfl rfl rfl (q0 := 0) (ci := 6) rfl rfl) hsr_15) rfl rfl hl.1 rfl (lv_room (Nat.le_of_ble_eq_true rfl)) dX6_readSetting_53 ⟨Nat.le_of_ble_eq_true rfl, Nat.le_of_ble_eq_true rfl⟩) hP hD hS hA [0] [] rfl rfl rfl (by decide) (fun r_17 u H locs hw_18 hP hD hS => ?_)
  have hw_18 : r_17 = 0 := hw_18
  obtain rfl := hw_18
  have hP : va_P D vwCl [(rd, .inr (6, [.ref bt, .int 0, .ref tg, .int 0, .int 0, .int 1, .int 0]))] H := hP
  have hD : va_D A [(rd, .inr (6, [.ref bt, .int 0, .ref tg, .int 0, .int 0, .int 1, .int 0]))] := hD
  refine lv_if_eq (tgt := 92) hx hb dX6_readSetting_56 (by decide) (fun _ => ?_) (fun hc => absurd (by decide) hc)
  refine lv_aload_n hx hb dX6_readSetting_92 rfl (lv_at hl 0 rfl) ?_
  obtain ⟨sa_19, sv_20, hsr_21, hss_22⟩ := hX.2.2.2 ("CellCycler$Reader", 99, "limits", [108, 105, 109, 105, 116, 115]) (by decide +kernel)
  refine va_ldcS hx hb hown hsr_21 dX6_readSetting_93 ?_
  refine cm_ki (wr := []) (va_runV (As := [.ref sa_19]) (rest := []) ⟨hx, hb, hml, hown, hts⟩ (c_wordIs_0 l D ct rd bt tg 1 0 sa_19 ("CellCycler$Reader", 99, "limits", [108, 105, 109, 105, 116, 115]) _ (by decide +kernel) (by decide)) (cm_V 1 hts kc_X6_wordIs ki_RX6 kl_RX6_28 kv_X6_wordIs kx_X6_wordIs kd_X6_wordIs ⟨Nat.le_of_ble_eq_true rfl, Nat.le_of_ble_eq_true rfl⟩) (cm_preVs (cm_preV hP hK hD hS hA hX [0] rfl rfl rfl (q0 := 0) (ci := 6) rfl rfl) hsr_21) rfl rfl hl.1 rfl (lv_room (Nat.le_of_ble_eq_true rfl)) dX6_readSetting_95 ⟨Nat.le_of_ble_eq_true rfl, Nat.le_of_ble_eq_true rfl⟩) hP hD hS hA [0] [] rfl rfl rfl (by decide) (fun r_23 u H locs hw_24 hP hD hS => ?_)
  have hw_24 : r_23 = 0 := hw_24
  obtain rfl := hw_24
  have hP : va_P D vwCl [(rd, .inr (6, [.ref bt, .int 0, .ref tg, .int 0, .int 0, .int 1, .int 0]))] H := hP
  have hD : va_D A [(rd, .inr (6, [.ref bt, .int 0, .ref tg, .int 0, .int 0, .int 1, .int 0]))] := hD
  refine lv_if_eq (tgt := 145) hx hb dX6_readSetting_98 (by decide) (fun _ => ?_) (fun hc => absurd (by decide) hc)
  refine lv_aload_n hx hb dX6_readSetting_145 rfl (lv_at hl 0 rfl) ?_
  obtain ⟨sa_25, sv_26, hsr_27, hss_28⟩ := hX.2.2.2 ("CellCycler$Reader", 110, "ambient", [97, 109, 98, 105, 101, 110, 116]) (by decide +kernel)
  refine va_ldcS hx hb hown hsr_27 dX6_readSetting_146 ?_
  refine cm_ki (wr := []) (va_runV (As := [.ref sa_25]) (rest := []) ⟨hx, hb, hml, hown, hts⟩ (c_wordIs_0 l D ct rd bt tg 1 0 sa_25 ("CellCycler$Reader", 110, "ambient", [97, 109, 98, 105, 101, 110, 116]) _ (by decide +kernel) (by decide)) (cm_V 1 hts kc_X6_wordIs ki_RX6 kl_RX6_28 kv_X6_wordIs kx_X6_wordIs kd_X6_wordIs ⟨Nat.le_of_ble_eq_true rfl, Nat.le_of_ble_eq_true rfl⟩) (cm_preVs (cm_preV hP hK hD hS hA hX [0] rfl rfl rfl (q0 := 0) (ci := 6) rfl rfl) hsr_27) rfl rfl hl.1 rfl (lv_room (Nat.le_of_ble_eq_true rfl)) dX6_readSetting_148 ⟨Nat.le_of_ble_eq_true rfl, Nat.le_of_ble_eq_true rfl⟩) hP hD hS hA [0] [] rfl rfl rfl (by decide) (fun r_29 u H locs hw_30 hP hD hS => ?_)
  have hw_30 : r_29 = 0 := hw_30
  obtain rfl := hw_30
  have hP : va_P D vwCl [(rd, .inr (6, [.ref bt, .int 0, .ref tg, .int 0, .int 0, .int 1, .int 0]))] H := hP
  have hD : va_D A [(rd, .inr (6, [.ref bt, .int 0, .ref tg, .int 0, .int 0, .int 1, .int 0]))] := hD
  refine lv_if_eq (tgt := 169) hx hb dX6_readSetting_151 (by decide) (fun _ => ?_) (fun hc => absurd (by decide) hc)
  refine lv_aload_n hx hb dX6_readSetting_169 rfl (lv_at hl 0 rfl) ?_
  obtain ⟨sa_31, sv_32, hsr_33, hss_34⟩ := hX.2.2.2 ("CellCycler$Reader", 114, "warn", [119, 97, 114, 110]) (by decide +kernel)
  refine va_ldcS hx hb hown hsr_33 dX6_readSetting_170 ?_
  refine cm_ki (wr := []) (va_runV (As := [.ref sa_31]) (rest := []) ⟨hx, hb, hml, hown, hts⟩ (c_wordIs_0 l D ct rd bt tg 1 0 sa_31 ("CellCycler$Reader", 114, "warn", [119, 97, 114, 110]) _ (by decide +kernel) (by decide)) (cm_V 1 hts kc_X6_wordIs ki_RX6 kl_RX6_28 kv_X6_wordIs kx_X6_wordIs kd_X6_wordIs ⟨Nat.le_of_ble_eq_true rfl, Nat.le_of_ble_eq_true rfl⟩) (cm_preVs (cm_preV hP hK hD hS hA hX [0] rfl rfl rfl (q0 := 0) (ci := 6) rfl rfl) hsr_33) rfl rfl hl.1 rfl (lv_room (Nat.le_of_ble_eq_true rfl)) dX6_readSetting_172 ⟨Nat.le_of_ble_eq_true rfl, Nat.le_of_ble_eq_true rfl⟩) hP hD hS hA [0] [] rfl rfl rfl (by decide) (fun r_35 u H locs hw_36 hP hD hS => ?_)
  have hw_36 : r_35 = 0 := hw_36
  obtain rfl := hw_36
  have hP : va_P D vwCl [(rd, .inr (6, [.ref bt, .int 0, .ref tg, .int 0, .int 0, .int 1, .int 0]))] H := hP
  have hD : va_D A [(rd, .inr (6, [.ref bt, .int 0, .ref tg, .int 0, .int 0, .int 1, .int 0]))] := hD
  refine lv_if_eq (tgt := 220) hx hb dX6_readSetting_175 (by decide) (fun _ => ?_) (fun hc => absurd (by decide) hc)
  refine lv_aload_n hx hb dX6_readSetting_220 rfl (lv_at hl 0 rfl) ?_
  obtain ⟨sa_37, sv_38, hsr_39, hss_40⟩ := hX.2.2.2 ("CellCycler$Reader", 125, "derate", [100, 101, 114, 97, 116, 101]) (by decide +kernel)
  refine va_ldcS hx hb hown hsr_39 dX6_readSetting_221 ?_
  refine cm_ki (wr := []) (va_runV (As := [.ref sa_37]) (rest := []) ⟨hx, hb, hml, hown, hts⟩ (c_wordIs_0 l D ct rd bt tg 1 0 sa_37 ("CellCycler$Reader", 125, "derate", [100, 101, 114, 97, 116, 101]) _ (by decide +kernel) (by decide)) (cm_V 1 hts kc_X6_wordIs ki_RX6 kl_RX6_28 kv_X6_wordIs kx_X6_wordIs kd_X6_wordIs ⟨Nat.le_of_ble_eq_true rfl, Nat.le_of_ble_eq_true rfl⟩) (cm_preVs (cm_preV hP hK hD hS hA hX [0] rfl rfl rfl (q0 := 0) (ci := 6) rfl rfl) hsr_39) rfl rfl hl.1 rfl (lv_room (Nat.le_of_ble_eq_true rfl)) dX6_readSetting_223 ⟨Nat.le_of_ble_eq_true rfl, Nat.le_of_ble_eq_true rfl⟩) hP hD hS hA [0] [] rfl rfl rfl (by decide) (fun r_41 u H locs hw_42 hP hD hS => ?_)
  have hw_42 : r_41 = 0 := hw_42
  obtain rfl := hw_42
  have hP : va_P D vwCl [(rd, .inr (6, [.ref bt, .int 0, .ref tg, .int 0, .int 0, .int 1, .int 0]))] H := hP
  have hD : va_D A [(rd, .inr (6, [.ref bt, .int 0, .ref tg, .int 0, .int 0, .int 1, .int 0]))] := hD
  refine lv_if_eq (tgt := 244) hx hb dX6_readSetting_226 (by decide) (fun _ => ?_) (fun hc => absurd (by decide) hc)
  refine lv_aload_n hx hb dX6_readSetting_244 rfl (lv_at hl 0 rfl) ?_
  refine lv_iconst (v := 1) hx hb dX6_readSetting_245 (by decide) ?_
  refine lv_aload_n hx hb dX6_readSetting_246 rfl (lv_at hl 0 rfl) ?_
  refine va_get (v := .int 0) (D := D) (ci := 6) (C := RX6) (T := TX6) (N := 7) hx hb hts in_X6 hown hK hP 0 rfl rfl 4 (by decide) (hts _ kl_RX6_130) (fun _ h9 => h9) rfl dX6_readSetting_247 ?_
  refine cm_kv (wr := []) (va_runV (As := [.int 1, .int 0]) (rest := []) ⟨hx, hb, hml, hown, hts⟩ (c_fail_1 l D ct rd bt tg 0 0 1 0 _) (cm_V 2 hts kc_X6_fail ki_RX6 kl_RX6_68 kv_X6_fail kx_X6_fail kd_X6_fail ⟨Nat.le_of_ble_eq_true rfl, Nat.le_of_ble_eq_true rfl⟩) (cm_preV hP hK hD hS hA hX [0] rfl rfl rfl (q0 := 0) (ci := 6) rfl rfl) rfl rfl hl.1 rfl (lv_room (Nat.le_of_ble_eq_true rfl)) dX6_readSetting_250 ⟨Nat.le_of_ble_eq_true rfl, Nat.le_of_ble_eq_true rfl⟩) hP hD hS hA [0] [] rfl rfl rfl (by decide) (fun u H locs hw_44 hP hD hS => ?_)
  have hP : va_P D vwCl [(rd, .inr (6, [.ref bt, .int 0, .ref tg, .int 0, .int 0, .int 1, .int 0]))] H := hP
  have hD : va_D A [(rd, .inr (6, [.ref bt, .int 0, .ref tg, .int 0, .int 0, .int 1, .int 0]))] := hD
  have hP9 := hP.sub (ws' := [(rd, .inr (6, [.ref bt, .int 0, .ref tg, .int 0, .int 0, .int 1, .int 0]))]) [0] rfl
  have hD9 := hD.sub (ws' := [(rd, .inr (6, [.ref bt, .int 0, .ref tg, .int 0, .int 0, .int 1, .int 0]))]) [0] (by decide) rfl
  exact W.vret hx hb hr (fun t ht hW => ⟨⟨(), rfl, trivial, by rw [ht]; exact hP9, by rw [hAe]; exact hD9⟩, hS.F ht⟩) hS.2.2 dX6_readSetting_253
theorem dX6_readText_0 : decode cX6_readText 0 = .ok (.iconst 0, 1) := by decide +kernel
theorem dX6_readText_1 : decode cX6_readText 1 = .ok (.istore_n 1, 1) := by decide +kernel
theorem dX6_readText_2 : decode cX6_readText 2 = .ok (.iload_n 1, 1) := by decide +kernel
theorem dX6_readText_3 : decode cX6_readText 3 = .ok (.aload_n 0, 1) := by decide +kernel
theorem dX6_readText_4 : decode cX6_readText 4 = .ok (.getfield 15, 3) := by decide +kernel
theorem dX6_readText_7 : decode cX6_readText 7 = .ok (.if_icmp .gt 105, 3) := by decide +kernel
theorem dX6_readText_10 : decode cX6_readText 10 = .ok (.aload_n 0, 1) := by decide +kernel
theorem dX6_readText_11 : decode cX6_readText 11 = .ok (.invokevirtual 23, 3) := by decide +kernel
theorem dX6_readText_14 : decode cX6_readText 14 = .ok (.aload_n 0, 1) := by decide +kernel
theorem dX6_readText_15 : decode cX6_readText 15 = .ok (.ldc 26, 2) := by decide +kernel
theorem dX6_readText_17 : decode cX6_readText 17 = .ok (.invokevirtual 28, 3) := by decide +kernel
theorem dX6_readText_20 : decode cX6_readText 20 = .ok (.ifCond .eq 10, 3) := by decide +kernel
theorem dX6_readText_30 : decode cX6_readText 30 = .ok (.aload_n 0, 1) := by decide +kernel
theorem dX6_readText_31 : decode cX6_readText 31 = .ok (.ldc 35, 2) := by decide +kernel
theorem dX6_readText_33 : decode cX6_readText 33 = .ok (.invokevirtual 28, 3) := by decide +kernel
theorem dX6_readText_36 : decode cX6_readText 36 = .ok (.ifCond .eq 10, 3) := by decide +kernel
theorem dX6_readText_46 : decode cX6_readText 46 = .ok (.aload_n 0, 1) := by decide +kernel
theorem dX6_readText_47 : decode cX6_readText 47 = .ok (.ldc 40, 2) := by decide +kernel
theorem dX6_readText_49 : decode cX6_readText 49 = .ok (.invokevirtual 28, 3) := by decide +kernel
theorem dX6_readText_52 : decode cX6_readText 52 = .ok (.ifCond .eq 10, 3) := by decide +kernel
theorem dX6_readText_62 : decode cX6_readText 62 = .ok (.aload_n 0, 1) := by decide +kernel
theorem dX6_readText_63 : decode cX6_readText 63 = .ok (.aload_n 0, 1) := by decide +kernel
theorem dX6_readText_64 : decode cX6_readText 64 = .ok (.getfield 19, 3) := by decide +kernel
theorem dX6_readText_67 : decode cX6_readText 67 = .ok (.getfield 45, 3) := by decide +kernel
theorem dX6_readText_70 : decode cX6_readText 70 = .ok (.invokevirtual 51, 3) := by decide +kernel
theorem dX6_readText_73 : decode cX6_readText 73 = .ok (.aload_n 0, 1) := by decide +kernel
theorem dX6_readText_74 : decode cX6_readText 74 = .ok (.invokevirtual 55, 3) := by decide +kernel
theorem dX6_readText_77 : decode cX6_readText 77 = .ok (.aload_n 0, 1) := by decide +kernel
theorem dX6_readText_78 : decode cX6_readText 78 = .ok (.getfield 58, 3) := by decide +kernel
theorem dX6_readText_81 : decode cX6_readText 81 = .ok (.ifCond .ne 31, 3) := by decide +kernel
theorem dX6_readText_112 : decode cX6_readText 112 = .ok (.aload_n 0, 1) := by decide +kernel
theorem dX6_readText_113 : decode cX6_readText 113 = .ok (.getfield 65, 3) := by decide +kernel
theorem dX6_readText_116 : decode cX6_readText 116 = .ok (.aload_n 0, 1) := by decide +kernel
theorem dX6_readText_117 : decode cX6_readText 117 = .ok (.getfield 15, 3) := by decide +kernel
theorem dX6_readText_120 : decode cX6_readText 120 = .ok (.if_icmp .ge 12, 3) := by decide +kernel
theorem dX6_readText_132 : decode cX6_readText 132 = .ok (.return_, 1) := by decide +kernel
set_option maxRecDepth 100000 in
set_option maxHeartbeats 4000000 in
theorem c_readText_0 (l : Launch) (D : va_G) (ct : Nat → ClassId) (rd : Nat) (bt : Nat) (tg : Nat) (se : Nat) (cu : Nat) (pr : Nat) (ch : Nat) (re : Nat) (lo : Nat) (t0 : Int32) (nc : Int32) (sz : Nat) : Met l yX6_readText (ws_ yX6_readText cX6_readText 2 none) ({ frames := 4, cells := 0, slots := 0, locals := 83 } : Room) (va_Pc [.ref rd] (cmP D ct sz [(rd, .inr (6, [.ref bt, .int 0, .ref tg, .int 0, .int 0, .int 0, .int 0])), (tg, .inr (9, [.int t0, .ref se, .ref cu, .ref pr, .int nc, .ref ch, .ref re, .ref lo]))])) (va_Qv (fun (_ : Unit) => True) (cmB D [(rd, .inr (6, [.ref bt, .int 0, .ref tg, .int 0, .int 0, .int 0, .int 0])), (tg, .inr (9, [.int t0, .ref se, .ref cu, .ref pr, .int nc, .ref ch, .ref re, .ref lo]))] sz (fun _ : Unit => [(rd, .inr (6, [.ref bt, .int 0, .ref tg, .int 0, .int 0, .int 1, .int 0])), (tg, .inr (9, [.int t0, .ref se, .ref cu, .ref pr, .int nc, .ref ch, .ref re, .ref lo]))])) (va_A [(rd, .inr (6, [.ref bt, .int 0, .ref tg, .int 0, .int 0, .int 0, .int 0])), (tg, .inr (9, [.int t0, .ref se, .ref cu, .ref pr, .int nc, .ref ch, .ref re, .ref lo]))] sz)) 0 0 (va_A [(rd, .inr (6, [.ref bt, .int 0, .ref tg, .int 0, .int 0, .int 0, .int 0])), (tg, .inr (9, [.int t0, .ref se, .ref cu, .ref pr, .int nc, .ref ch, .ref re, .ref lo]))] sz) := by
  refine Met.ofW (cc := cX6_readText) (maxL := 2) (ret := none) (by decide) rfl ?_
  intro p e s m args below meth c s₁ B hml hv
  obtain ⟨rfl, hsz, hP, hK, hD0, hX⟩ := hv
  have hx := B.exec
  have hb := B.bytes
  have hr := B.returns
  have hts := ws_all (atoms_spec (ws := ws_ yX6_readText cX6_readText 2 none) B.pre)
  have hown : s.vm.findClass RX6 = some m.cls := findClass_of_methodNamed B.named
  have hlocks := B.notSynchronized
  subst hsz
  have hD := hD0.self (sz := s.heap.size)
  generalize hAe : va_A [(rd, .inr (6, [.ref bt, .int 0, .ref tg, .int 0, .int 0, .int 0, .int 0])), (tg, .inr (9, [.int t0, .ref se, .ref cu, .ref pr, .int nc, .ref ch, .ref re, .ref lo]))] s.heap.size = A at hD hX ⊢
  have hA : ∀ q : Nat, s.heap.size ≤ q → A q := fun q h => by rw [← hAe]; exact Or.inr h
  have hS : va_S A s.heap s.heap [] := va_S.rf
  have hl := lv_entry ([.ref rd]) (n := 2) (Nat.le_of_ble_eq_true rfl)
  rw [lg_entry_eq]
  generalize (lg_sl ([.ref rd]) ++ List.replicate (2 - (lg_sl ([.ref rd])).length) Slot.unset).toArray = ls at hl ⊢
  have hl : lv_has ls 2 [(0, .ref rd)] := hl
  refine lv_iconst (v := 0) hx hb dX6_readText_0 (by decide) ?_
  refine lv_istore_n (lv' := [(1, .int 0), (0, .ref rd)]) hx hb dX6_readText_1 rfl hl (by decide) rfl (fun ls hl => ?_)
  refine lv_iload_n hx hb dX6_readText_2 rfl (lv_at hl 0 rfl) ?_
  refine lv_aload_n hx hb dX6_readText_3 rfl (lv_at hl 1 rfl) ?_
  refine va_get (v := .int 0) (D := D) (ci := 6) (C := RX6) (T := TX6) (N := 7) hx hb hts in_X6 hown hK hP 0 rfl rfl 1 (by decide) (hts _ kl_RX6_15) (fun _ h9 => h9) rfl dX6_readText_4 ?_
  refine lv_icmp_gt (tgt := 112) hx hb dX6_readText_7 (by decide) (fun hc => absurd hc (by decide)) (fun _ => ?_)
  refine lv_aload_n hx hb dX6_readText_10 rfl (lv_at hl 1 rfl) ?_
  refine cm_kv (wr := [(tg, .inr (9, [.int t0, .ref se, .ref cu, .ref pr, .int nc, .ref ch, .ref re, .ref lo]))]) (va_runV (As := []) (rest := []) ⟨hx, hb, hml, hown, hts⟩ (c_readWord_0 l D ct rd bt tg _) (cm_V 0 hts kc_X6_readWord ki_RX6 kl_RX6_23 kv_X6_readWord kx_X6_readWord kd_X6_readWord ⟨Nat.le_of_ble_eq_true rfl, Nat.le_of_ble_eq_true rfl⟩) (cm_preV hP hK hD hS hA hX [0] rfl rfl rfl (q0 := 0) (ci := 6) rfl rfl) rfl rfl hl.1 rfl (lv_room (Nat.le_of_ble_eq_true rfl)) dX6_readText_11 ⟨Nat.le_of_ble_eq_true rfl, Nat.le_of_ble_eq_true rfl⟩) hP hD hS hA [0] [1] rfl rfl rfl (by decide) (fun u H locs hw_2 hP hD hS => ?_)
  have hP : va_P D vwCl [(tg, .inr (9, [.int t0, .ref se, .ref cu, .ref pr, .int nc, .ref ch, .ref re, .ref lo])), (rd, .inr (6, [.ref bt, .int 0, .ref tg, .int 0, .int 0, .int 1, .int 0]))] H := hP
  have hD : va_D A [(tg, .inr (9, [.int t0, .ref se, .ref cu, .ref pr, .int nc, .ref ch, .ref re, .ref lo])), (rd, .inr (6, [.ref bt, .int 0, .ref tg, .int 0, .int 0, .int 1, .int 0]))] := hD
  refine lv_aload_n hx hb dX6_readText_14 rfl (lv_at hl 1 rfl) ?_
  obtain ⟨sa_3, sv_4, hsr_5, hss_6⟩ := hX.2.2.2 ("CellCycler$Reader", 26, "curve", [99, 117, 114, 118, 101]) (by decide +kernel)
  refine va_ldcS hx hb hown hsr_5 dX6_readText_15 ?_
  refine cm_ki (wr := [(tg, .inr (9, [.int t0, .ref se, .ref cu, .ref pr, .int nc, .ref ch, .ref re, .ref lo]))]) (va_runV (As := [.ref sa_3]) (rest := []) ⟨hx, hb, hml, hown, hts⟩ (c_wordIs_0 l D ct rd bt tg 1 0 sa_3 ("CellCycler$Reader", 26, "curve", [99, 117, 114, 118, 101]) _ (by decide +kernel) (by decide)) (cm_V 1 hts kc_X6_wordIs ki_RX6 kl_RX6_28 kv_X6_wordIs kx_X6_wordIs kd_X6_wordIs ⟨Nat.le_of_ble_eq_true rfl, Nat.le_of_ble_eq_true rfl⟩) (cm_preVs (cm_preV hP hK hD hS hA hX [1] rfl rfl rfl (q0 := 1) (ci := 6) rfl rfl) hsr_5) rfl rfl hl.1 rfl (lv_room (Nat.le_of_ble_eq_true rfl)) dX6_readText_17 ⟨Nat.le_of_ble_eq_true rfl, Nat.le_of_ble_eq_true rfl⟩) hP hD hS hA [1] [0] rfl rfl rfl (by decide) (fun r_7 u H locs hw_8 hP hD hS => ?_)
  have hw_8 : r_7 = 0 := hw_8
  obtain rfl := hw_8
  have hP : va_P D vwCl [(tg, .inr (9, [.int t0, .ref se, .ref cu, .ref pr, .int nc, .ref ch, .ref re, .ref lo])), (rd, .inr (6, [.ref bt, .int 0, .ref tg, .int 0, .int 0, .int 1, .int 0]))] H := hP
  have hD : va_D A [(tg, .inr (9, [.int t0, .ref se, .ref cu, .ref pr, .int nc, .ref ch, .ref re, .ref lo])), (rd, .inr (6, [.ref bt, .int 0, .ref tg, .int 0, .int 0, .int 1, .int 0]))] := hD
  refine lv_if_eq (tgt := 30) hx hb dX6_readText_20 (by decide) (fun _ => ?_) (fun hc => absurd (by decide) hc)
  refine lv_aload_n hx hb dX6_readText_30 rfl (lv_at hl 1 rfl) ?_
  obtain ⟨sa_9, sv_10, hsr_11, hss_12⟩ := hX.2.2.2 ("CellCycler$Reader", 35, "cell", [99, 101, 108, 108]) (by decide +kernel)
  refine va_ldcS hx hb hown hsr_11 dX6_readText_31 ?_
  refine cm_ki (wr := [(tg, .inr (9, [.int t0, .ref se, .ref cu, .ref pr, .int nc, .ref ch, .ref re, .ref lo]))]) (va_runV (As := [.ref sa_9]) (rest := []) ⟨hx, hb, hml, hown, hts⟩ (c_wordIs_0 l D ct rd bt tg 1 0 sa_9 ("CellCycler$Reader", 35, "cell", [99, 101, 108, 108]) _ (by decide +kernel) (by decide)) (cm_V 1 hts kc_X6_wordIs ki_RX6 kl_RX6_28 kv_X6_wordIs kx_X6_wordIs kd_X6_wordIs ⟨Nat.le_of_ble_eq_true rfl, Nat.le_of_ble_eq_true rfl⟩) (cm_preVs (cm_preV hP hK hD hS hA hX [1] rfl rfl rfl (q0 := 1) (ci := 6) rfl rfl) hsr_11) rfl rfl hl.1 rfl (lv_room (Nat.le_of_ble_eq_true rfl)) dX6_readText_33 ⟨Nat.le_of_ble_eq_true rfl, Nat.le_of_ble_eq_true rfl⟩) hP hD hS hA [1] [0] rfl rfl rfl (by decide) (fun r_13 u H locs hw_14 hP hD hS => ?_)
  have hw_14 : r_13 = 0 := hw_14
  obtain rfl := hw_14
  have hP : va_P D vwCl [(tg, .inr (9, [.int t0, .ref se, .ref cu, .ref pr, .int nc, .ref ch, .ref re, .ref lo])), (rd, .inr (6, [.ref bt, .int 0, .ref tg, .int 0, .int 0, .int 1, .int 0]))] H := hP
  have hD : va_D A [(tg, .inr (9, [.int t0, .ref se, .ref cu, .ref pr, .int nc, .ref ch, .ref re, .ref lo])), (rd, .inr (6, [.ref bt, .int 0, .ref tg, .int 0, .int 0, .int 1, .int 0]))] := hD
  refine lv_if_eq (tgt := 46) hx hb dX6_readText_36 (by decide) (fun _ => ?_) (fun hc => absurd (by decide) hc)
  refine lv_aload_n hx hb dX6_readText_46 rfl (lv_at hl 1 rfl) ?_
  obtain ⟨sa_15, sv_16, hsr_17, hss_18⟩ := hX.2.2.2 ("CellCycler$Reader", 40, "program", [112, 114, 111, 103, 114, 97, 109]) (by decide +kernel)
  refine va_ldcS hx hb hown hsr_17 dX6_readText_47 ?_
  refine cm_ki (wr := [(tg, .inr (9, [.int t0, .ref se, .ref cu, .ref pr, .int nc, .ref ch, .ref re, .ref lo]))]) (va_runV (As := [.ref sa_15]) (rest := []) ⟨hx, hb, hml, hown, hts⟩ (c_wordIs_0 l D ct rd bt tg 1 0 sa_15 ("CellCycler$Reader", 40, "program", [112, 114, 111, 103, 114, 97, 109]) _ (by decide +kernel) (by decide)) (cm_V 1 hts kc_X6_wordIs ki_RX6 kl_RX6_28 kv_X6_wordIs kx_X6_wordIs kd_X6_wordIs ⟨Nat.le_of_ble_eq_true rfl, Nat.le_of_ble_eq_true rfl⟩) (cm_preVs (cm_preV hP hK hD hS hA hX [1] rfl rfl rfl (q0 := 1) (ci := 6) rfl rfl) hsr_17) rfl rfl hl.1 rfl (lv_room (Nat.le_of_ble_eq_true rfl)) dX6_readText_49 ⟨Nat.le_of_ble_eq_true rfl, Nat.le_of_ble_eq_true rfl⟩) hP hD hS hA [1] [0] rfl rfl rfl (by decide) (fun r_19 u H locs hw_20 hP hD hS => ?_)
  have hw_20 : r_19 = 0 := hw_20
  obtain rfl := hw_20
  have hP : va_P D vwCl [(tg, .inr (9, [.int t0, .ref se, .ref cu, .ref pr, .int nc, .ref ch, .ref re, .ref lo])), (rd, .inr (6, [.ref bt, .int 0, .ref tg, .int 0, .int 0, .int 1, .int 0]))] H := hP
  have hD : va_D A [(tg, .inr (9, [.int t0, .ref se, .ref cu, .ref pr, .int nc, .ref ch, .ref re, .ref lo])), (rd, .inr (6, [.ref bt, .int 0, .ref tg, .int 0, .int 0, .int 1, .int 0]))] := hD
  refine lv_if_eq (tgt := 62) hx hb dX6_readText_52 (by decide) (fun _ => ?_) (fun hc => absurd (by decide) hc)
  refine lv_aload_n hx hb dX6_readText_62 rfl (lv_at hl 1 rfl) ?_
  refine lv_aload_n hx hb dX6_readText_63 rfl (lv_at hl 1 rfl) ?_
  refine va_get (v := .ref tg) (D := D) (ci := 6) (C := RX6) (T := TX6) (N := 7) hx hb hts in_X6 hown hK hP 1 rfl rfl 2 (by decide) (hts _ kl_RX6_19) (fun _ h9 => h9) rfl dX6_readText_64 ?_
  refine va_getN (v := .ref se) (D := D) (ci := 9) (C := RX9) (T := TX9) (N := 8) hx hb hts in_X9 hown hK hP 0 rfl rfl 1 (by decide) (hts _ kl_RX6_45) (fun _ h9 => h9) rfl dX6_readText_67 ?_
  refine cm_kv (wr := [(tg, .inr (9, [.int t0, .ref se, .ref cu, .ref pr, .int nc, .ref ch, .ref re, .ref lo]))]) (va_runV (As := [.ref se]) (rest := []) ⟨hx, hb, hml, hown, hts⟩ (c_readSetting_0 l D ct rd bt tg se _) (cm_V 1 hts kc_X6_readSetting ki_RX6 kl_RX6_51 kv_X6_readSetting kx_X6_readSetting kd_X6_readSetting ⟨Nat.le_of_ble_eq_true rfl, Nat.le_of_ble_eq_true rfl⟩) (cm_preV hP hK hD hS hA hX [1] rfl rfl rfl (q0 := 1) (ci := 6) rfl rfl) rfl rfl hl.1 rfl (lv_room (Nat.le_of_ble_eq_true rfl)) dX6_readText_70 ⟨Nat.le_of_ble_eq_true rfl, Nat.le_of_ble_eq_true rfl⟩) hP hD hS hA [1] [0] rfl rfl rfl (by decide) (fun u H locs hw_22 hP hD hS => ?_)
  have hP : va_P D vwCl [(tg, .inr (9, [.int t0, .ref se, .ref cu, .ref pr, .int nc, .ref ch, .ref re, .ref lo])), (rd, .inr (6, [.ref bt, .int 0, .ref tg, .int 0, .int 0, .int 1, .int 0]))] H := hP
  have hD : va_D A [(tg, .inr (9, [.int t0, .ref se, .ref cu, .ref pr, .int nc, .ref ch, .ref re, .ref lo])), (rd, .inr (6, [.ref bt, .int 0, .ref tg, .int 0, .int 0, .int 1, .int 0]))] := hD
  refine lv_aload_n hx hb dX6_readText_73 rfl (lv_at hl 1 rfl) ?_
  refine cm_kv (wr := [(tg, .inr (9, [.int t0, .ref se, .ref cu, .ref pr, .int nc, .ref ch, .ref re, .ref lo]))]) (va_runV (As := []) (rest := []) ⟨hx, hb, hml, hown, hts⟩ (c_rskip_0 l D ct rd bt tg 0 1 0 _) (cm_V 0 hts kc_X6_skipSpaces ki_RX6 kl_RX6_55 kv_X6_skipSpaces kx_X6_skipSpaces kd_X6_skipSpaces ⟨Nat.le_of_ble_eq_true rfl, Nat.le_of_ble_eq_true rfl⟩) (cm_preV hP hK hD hS hA hX [1] rfl rfl rfl (q0 := 1) (ci := 6) rfl rfl) rfl rfl hl.1 rfl (lv_room (Nat.le_of_ble_eq_true rfl)) dX6_readText_74 ⟨Nat.le_of_ble_eq_true rfl, Nat.le_of_ble_eq_true rfl⟩) hP hD hS hA [1] [0] rfl rfl rfl (by decide) (fun u H locs hw_24 hP hD hS => ?_)
  have hP : va_P D vwCl [(tg, .inr (9, [.int t0, .ref se, .ref cu, .ref pr, .int nc, .ref ch, .ref re, .ref lo])), (rd, .inr (6, [.ref bt, .int 0, .ref tg, .int 0, .int 0, .int 1, .int 0]))] H := hP
  have hD : va_D A [(tg, .inr (9, [.int t0, .ref se, .ref cu, .ref pr, .int nc, .ref ch, .ref re, .ref lo])), (rd, .inr (6, [.ref bt, .int 0, .ref tg, .int 0, .int 0, .int 1, .int 0]))] := hD
  refine lv_aload_n hx hb dX6_readText_77 rfl (lv_at hl 1 rfl) ?_
  refine va_get (v := .int 1) (D := D) (ci := 6) (C := RX6) (T := TX6) (N := 7) hx hb hts in_X6 hown hK hP 1 rfl rfl 5 (by decide) (hts _ kl_RX6_58) (fun _ h9 => h9) rfl dX6_readText_78 ?_
  refine lv_if_ne (tgt := 112) hx hb dX6_readText_81 (by decide) (fun _ => ?_) (fun hc => absurd hc (by decide))
  refine lv_aload_n hx hb dX6_readText_112 rfl (lv_at hl 1 rfl) ?_
  refine va_get (v := .int 0) (D := D) (ci := 6) (C := RX6) (T := TX6) (N := 7) hx hb hts in_X6 hown hK hP 1 rfl rfl 3 (by decide) (hts _ kl_RX6_65) (fun _ h9 => h9) rfl dX6_readText_113 ?_
  refine lv_aload_n hx hb dX6_readText_116 rfl (lv_at hl 1 rfl) ?_
  refine va_get (v := .int 0) (D := D) (ci := 6) (C := RX6) (T := TX6) (N := 7) hx hb hts in_X6 hown hK hP 1 rfl rfl 1 (by decide) (hts _ kl_RX6_15) (fun _ h9 => h9) rfl dX6_readText_117 ?_
  refine lv_icmp_ge (tgt := 132) hx hb dX6_readText_120 (by decide) (fun _ => ?_) (fun hc => absurd (by decide) hc)
  have hP9 := hP.sub (ws' := [(rd, .inr (6, [.ref bt, .int 0, .ref tg, .int 0, .int 0, .int 1, .int 0])), (tg, .inr (9, [.int t0, .ref se, .ref cu, .ref pr, .int nc, .ref ch, .ref re, .ref lo]))]) [1, 0] rfl
  have hD9 := hD.sub (ws' := [(rd, .inr (6, [.ref bt, .int 0, .ref tg, .int 0, .int 0, .int 1, .int 0])), (tg, .inr (9, [.int t0, .ref se, .ref cu, .ref pr, .int nc, .ref ch, .ref re, .ref lo]))]) [1, 0] (by decide) rfl
  exact W.vret hx hb hr (fun t ht hW => ⟨⟨(), rfl, trivial, by rw [ht]; exact hP9, by rw [hAe]; exact hD9⟩, hS.F ht⟩) hS.2.2 dX6_readText_132
theorem dX8_clear_0 : decode cX8_clear 0 = .ok (.aload_n 0, 1) := by decide +kernel
theorem dX8_clear_1 : decode cX8_clear 1 = .ok (.iconst 0, 1) := by decide +kernel
theorem dX8_clear_2 : decode cX8_clear 2 = .ok (.putfield 26, 3) := by decide +kernel
theorem dX8_clear_5 : decode cX8_clear 5 = .ok (.aload_n 0, 1) := by decide +kernel
theorem dX8_clear_6 : decode cX8_clear 6 = .ok (.iconst 0, 1) := by decide +kernel
theorem dX8_clear_7 : decode cX8_clear 7 = .ok (.putfield 29, 3) := by decide +kernel
theorem dX8_clear_10 : decode cX8_clear 10 = .ok (.return_, 1) := by decide +kernel
set_option maxRecDepth 100000 in
set_option maxHeartbeats 4000000 in
theorem c_X8_clear (l : Launch) (D : va_G) (ct : Nat → ClassId) (h0 : Nat) (ra : Nat) (x0 : Int32) (x1 : Int32) (x2 : Int32) (x3 : Int32) (sz : Nat) : Met l yX8_clear (ws_ yX8_clear cX8_clear 1 none) ({ frames := 0, cells := 0, slots := 0, locals := 0 } : Room) (va_Pc [.ref h0] (cmP D ct sz [(h0, .inr (8, [.int x0, .int x1, .ref ra, .int x2, .int x3]))])) (va_Qv (fun (_ : Unit) => True) (cmB D [(h0, .inr (8, [.int x0, .int x1, .ref ra, .int x2, .int x3]))] sz (fun _ : Unit => [(h0, .inr (8, [.int x0, .int x1, .ref ra, .int 0, .int 0]))])) (va_A [(h0, .inr (8, [.int x0, .int x1, .ref ra, .int x2, .int x3]))] sz)) 0 0 (va_A [(h0, .inr (8, [.int x0, .int x1, .ref ra, .int x2, .int x3]))] sz) := by
  refine Met.ofW (cc := cX8_clear) (maxL := 1) (ret := none) (by decide) rfl ?_
  intro p e s m args below meth c s₁ B hml hv
  obtain ⟨rfl, hsz, hP, hK, hD0, hX⟩ := hv
  have hx := B.exec
  have hb := B.bytes
  have hr := B.returns
  have hts := ws_all (atoms_spec (ws := ws_ yX8_clear cX8_clear 1 none) B.pre)
  have hown : s.vm.findClass RX8 = some m.cls := findClass_of_methodNamed B.named
  have hlocks := B.notSynchronized
  subst hsz
  have hD := hD0.self (sz := s.heap.size)
  generalize hAe : va_A [(h0, .inr (8, [.int x0, .int x1, .ref ra, .int x2, .int x3]))] s.heap.size = A at hD hX ⊢
  have hA : ∀ q : Nat, s.heap.size ≤ q → A q := fun q h => by rw [← hAe]; exact Or.inr h
  have hS : va_S A s.heap s.heap [] := va_S.rf
  have hl := lv_entry ([.ref h0]) (n := 1) (Nat.le_of_ble_eq_true rfl)
  rw [lg_entry_eq]
  generalize (lg_sl ([.ref h0]) ++ List.replicate (1 - (lg_sl ([.ref h0])).length) Slot.unset).toArray = ls at hl ⊢
  have hl : lv_has ls 1 [(0, .ref h0)] := hl
  refine lv_aload_n hx hb dX8_clear_0 rfl (lv_at hl 0 rfl) ?_
  refine lv_iconst (v := 0) hx hb dX8_clear_1 (by decide) ?_
  refine va_put (v := .int 0) (ty := .int) (D := D) (ci := 8) (C := RX8) (T := TX8) (N := 5) hx hb hts in_X8 tyX8 tyX8_ok nmX8 hown hK hP hD hS 0 rfl rfl 3 (by decide) (hts _ kl_RX8_26) (fun _ h9 => h9) rfl (by decide +kernel) rfl rfl (Nat.le_of_ble_eq_true rfl) dX8_clear_2 (fun H locs hP hD hS => ?_)
  have hP : va_P D vwCl [(h0, .inr (8, [.int x0, .int x1, .ref ra, .int 0, .int x3]))] H := hP
  have hD : va_D A [(h0, .inr (8, [.int x0, .int x1, .ref ra, .int 0, .int x3]))] := hD
  refine lv_aload_n hx hb dX8_clear_5 rfl (lv_at hl 0 rfl) ?_
  refine lv_iconst (v := 0) hx hb dX8_clear_6 (by decide) ?_
  refine va_put (v := .int 0) (ty := .int) (D := D) (ci := 8) (C := RX8) (T := TX8) (N := 5) hx hb hts in_X8 tyX8 tyX8_ok nmX8 hown hK hP hD hS 0 rfl rfl 4 (by decide) (hts _ kl_RX8_29) (fun _ h9 => h9) rfl (by decide +kernel) rfl rfl (Nat.le_of_ble_eq_true rfl) dX8_clear_7 (fun H locs hP hD hS => ?_)
  have hP : va_P D vwCl [(h0, .inr (8, [.int x0, .int x1, .ref ra, .int 0, .int 0]))] H := hP
  have hD : va_D A [(h0, .inr (8, [.int x0, .int x1, .ref ra, .int 0, .int 0]))] := hD
  have hP9 := hP.sub (ws' := [(h0, .inr (8, [.int x0, .int x1, .ref ra, .int 0, .int 0]))]) [0] rfl
  have hD9 := hD.sub (ws' := [(h0, .inr (8, [.int x0, .int x1, .ref ra, .int 0, .int 0]))]) [0] (by decide) rfl
  exact W.vret hx hb hr (fun t ht hW => ⟨⟨(), rfl, trivial, by rw [ht]; exact hP9, by rw [hAe]; exact hD9⟩, hS.F ht⟩) hS.2.2 dX8_clear_10
theorem dX9_clear_0 : decode cX9_clear 0 = .ok (.aload_n 0, 1) := by decide +kernel
theorem dX9_clear_1 : decode cX9_clear 1 = .ok (.iconst 0, 1) := by decide +kernel
theorem dX9_clear_2 : decode cX9_clear 2 = .ok (.putfield 53, 3) := by decide +kernel
theorem dX9_clear_5 : decode cX9_clear 5 = .ok (.aload_n 0, 1) := by decide +kernel
theorem dX9_clear_6 : decode cX9_clear 6 = .ok (.getfield 12, 3) := by decide +kernel
theorem dX9_clear_9 : decode cX9_clear 9 = .ok (.invokevirtual 57, 3) := by decide +kernel
theorem dX9_clear_12 : decode cX9_clear 12 = .ok (.aload_n 0, 1) := by decide +kernel
theorem dX9_clear_13 : decode cX9_clear 13 = .ok (.getfield 21, 3) := by decide +kernel
theorem dX9_clear_16 : decode cX9_clear 16 = .ok (.iconst 0, 1) := by decide +kernel
theorem dX9_clear_17 : decode cX9_clear 17 = .ok (.putfield 60, 3) := by decide +kernel
theorem dX9_clear_20 : decode cX9_clear 20 = .ok (.aload_n 0, 1) := by decide +kernel
theorem dX9_clear_21 : decode cX9_clear 21 = .ok (.getfield 28, 3) := by decide +kernel
theorem dX9_clear_24 : decode cX9_clear 24 = .ok (.iconst 0, 1) := by decide +kernel
theorem dX9_clear_25 : decode cX9_clear 25 = .ok (.putfield 63, 3) := by decide +kernel
theorem dX9_clear_28 : decode cX9_clear 28 = .ok (.aload_n 0, 1) := by decide +kernel
theorem dX9_clear_29 : decode cX9_clear 29 = .ok (.iconst 0, 1) := by decide +kernel
theorem dX9_clear_30 : decode cX9_clear 30 = .ok (.putfield 64, 3) := by decide +kernel
theorem dX9_clear_33 : decode cX9_clear 33 = .ok (.aload_n 0, 1) := by decide +kernel
theorem dX9_clear_34 : decode cX9_clear 34 = .ok (.getfield 46, 3) := by decide +kernel
theorem dX9_clear_37 : decode cX9_clear 37 = .ok (.invokevirtual 67, 3) := by decide +kernel
theorem dX9_clear_40 : decode cX9_clear 40 = .ok (.aload_n 0, 1) := by decide +kernel
theorem dX9_clear_41 : decode cX9_clear 41 = .ok (.getfield 50, 3) := by decide +kernel
theorem dX9_clear_44 : decode cX9_clear 44 = .ok (.invokevirtual 67, 3) := by decide +kernel
theorem dX9_clear_47 : decode cX9_clear 47 = .ok (.return_, 1) := by decide +kernel
set_option maxRecDepth 100000 in
set_option maxHeartbeats 4000000 in
theorem c_X9_clear_0 (l : Launch) (D : va_G) (ct : Nat → ClassId) (h0 : Nat) (a_se : Nat) (a_cu : Nat) (a_pr : Nat) (a_ch : Nat) (a_re : Nat) (a_lo : Nat) (a_c1 : Nat) (a_c2 : Nat) (a_c3 : Nat) (a_p1 : Nat) (a_p2 : Nat) (a_p3 : Nat) (a_p4 : Nat) (a_ra : Nat) (a_la : Nat) (sz : Nat) : Met l yX9_clear (ws_ yX9_clear cX9_clear 1 none) ({ frames := 1, cells := 0, slots := 0, locals := 20 } : Room) (va_Pc [.ref h0] (cmP D ct sz [(h0, .inr (9, [.int 0, .ref a_se, .ref a_cu, .ref a_pr, .int 0, .ref a_ch, .ref a_re, .ref a_lo])), (a_se, .inr (7, [.int 990, .int 100000, .int 100, .int 5, .int 0, .int 5000, .int 600, .int 250, .int 0, .int 5000, .int 1000, .int 0])), (a_cu, .inr (2, [.int 0, .ref a_c1, .ref a_c2, .ref a_c3])), (a_pr, .inr (5, [.int 0, .ref a_p1, .ref a_p2, .ref a_p3, .ref a_p4])), (a_re, .inr (8, [.int 30, .int 5, .ref a_ra, .int 0, .int 0])), (a_lo, .inr (8, [.int 60, .int 4, .ref a_la, .int 0, .int 0]))])) (va_Qv (fun (_ : Unit) => True) (cmB D [(h0, .inr (9, [.int 0, .ref a_se, .ref a_cu, .ref a_pr, .int 0, .ref a_ch, .ref a_re, .ref a_lo])), (a_se, .inr (7, [.int 990, .int 100000, .int 100, .int 5, .int 0, .int 5000, .int 600, .int 250, .int 0, .int 5000, .int 1000, .int 0])), (a_cu, .inr (2, [.int 0, .ref a_c1, .ref a_c2, .ref a_c3])), (a_pr, .inr (5, [.int 0, .ref a_p1, .ref a_p2, .ref a_p3, .ref a_p4])), (a_re, .inr (8, [.int 30, .int 5, .ref a_ra, .int 0, .int 0])), (a_lo, .inr (8, [.int 60, .int 4, .ref a_la, .int 0, .int 0]))] sz (fun _ : Unit => [(h0, .inr (9, [.int 0, .ref a_se, .ref a_cu, .ref a_pr, .int 0, .ref a_ch, .ref a_re, .ref a_lo])), (a_se, .inr (7, [.int 990, .int 100000, .int 100, .int 5, .int 0, .int 5000, .int 600, .int 250, .int 0, .int 5000, .int 1000, .int 0])), (a_cu, .inr (2, [.int 0, .ref a_c1, .ref a_c2, .ref a_c3])), (a_pr, .inr (5, [.int 0, .ref a_p1, .ref a_p2, .ref a_p3, .ref a_p4])), (a_re, .inr (8, [.int 30, .int 5, .ref a_ra, .int 0, .int 0])), (a_lo, .inr (8, [.int 60, .int 4, .ref a_la, .int 0, .int 0]))])) (va_A [(h0, .inr (9, [.int 0, .ref a_se, .ref a_cu, .ref a_pr, .int 0, .ref a_ch, .ref a_re, .ref a_lo])), (a_se, .inr (7, [.int 990, .int 100000, .int 100, .int 5, .int 0, .int 5000, .int 600, .int 250, .int 0, .int 5000, .int 1000, .int 0])), (a_cu, .inr (2, [.int 0, .ref a_c1, .ref a_c2, .ref a_c3])), (a_pr, .inr (5, [.int 0, .ref a_p1, .ref a_p2, .ref a_p3, .ref a_p4])), (a_re, .inr (8, [.int 30, .int 5, .ref a_ra, .int 0, .int 0])), (a_lo, .inr (8, [.int 60, .int 4, .ref a_la, .int 0, .int 0]))] sz)) 0 0 (va_A [(h0, .inr (9, [.int 0, .ref a_se, .ref a_cu, .ref a_pr, .int 0, .ref a_ch, .ref a_re, .ref a_lo])), (a_se, .inr (7, [.int 990, .int 100000, .int 100, .int 5, .int 0, .int 5000, .int 600, .int 250, .int 0, .int 5000, .int 1000, .int 0])), (a_cu, .inr (2, [.int 0, .ref a_c1, .ref a_c2, .ref a_c3])), (a_pr, .inr (5, [.int 0, .ref a_p1, .ref a_p2, .ref a_p3, .ref a_p4])), (a_re, .inr (8, [.int 30, .int 5, .ref a_ra, .int 0, .int 0])), (a_lo, .inr (8, [.int 60, .int 4, .ref a_la, .int 0, .int 0]))] sz) := by
  refine Met.ofW (cc := cX9_clear) (maxL := 1) (ret := none) (by decide) rfl ?_
  intro p e s m args below meth c s₁ B hml hv
  obtain ⟨rfl, hsz, hP, hK, hD0, hX⟩ := hv
  have hx := B.exec
  have hb := B.bytes
  have hr := B.returns
  have hts := ws_all (atoms_spec (ws := ws_ yX9_clear cX9_clear 1 none) B.pre)
  have hown : s.vm.findClass RX9 = some m.cls := findClass_of_methodNamed B.named
  have hlocks := B.notSynchronized
  subst hsz
  have hD := hD0.self (sz := s.heap.size)
  generalize hAe : va_A [(h0, .inr (9, [.int 0, .ref a_se, .ref a_cu, .ref a_pr, .int 0, .ref a_ch, .ref a_re, .ref a_lo])), (a_se, .inr (7, [.int 990, .int 100000, .int 100, .int 5, .int 0, .int 5000, .int 600, .int 250, .int 0, .int 5000, .int 1000, .int 0])), (a_cu, .inr (2, [.int 0, .ref a_c1, .ref a_c2, .ref a_c3])), (a_pr, .inr (5, [.int 0, .ref a_p1, .ref a_p2, .ref a_p3, .ref a_p4])), (a_re, .inr (8, [.int 30, .int 5, .ref a_ra, .int 0, .int 0])), (a_lo, .inr (8, [.int 60, .int 4, .ref a_la, .int 0, .int 0]))] s.heap.size = A at hD hX ⊢
  have hA : ∀ q : Nat, s.heap.size ≤ q → A q := fun q h => by rw [← hAe]; exact Or.inr h
  have hS : va_S A s.heap s.heap [] := va_S.rf
  have hl := lv_entry ([.ref h0]) (n := 1) (Nat.le_of_ble_eq_true rfl)
  rw [lg_entry_eq]
  generalize (lg_sl ([.ref h0]) ++ List.replicate (1 - (lg_sl ([.ref h0])).length) Slot.unset).toArray = ls at hl ⊢
  have hl : lv_has ls 1 [(0, .ref h0)] := hl
  refine lv_aload_n hx hb dX9_clear_0 rfl (lv_at hl 0 rfl) ?_
  refine lv_iconst (v := 0) hx hb dX9_clear_1 (by decide) ?_
  refine va_put (v := .int 0) (ty := .int) (D := D) (ci := 9) (C := RX9) (T := TX9) (N := 8) hx hb hts in_X9 tyX9 tyX9_ok nmX9 hown hK hP hD hS 0 rfl rfl 0 (by decide) (hts _ kl_RX9_53) (fun _ h9 => h9) rfl (by decide +kernel) rfl rfl (Nat.le_of_ble_eq_true rfl) dX9_clear_2 (fun H locs hP hD hS => ?_)
  have hP : va_P D vwCl [(h0, .inr (9, [.int 0, .ref a_se, .ref a_cu, .ref a_pr, .int 0, .ref a_ch, .ref a_re, .ref a_lo])), (a_se, .inr (7, [.int 990, .int 100000, .int 100, .int 5, .int 0, .int 5000, .int 600, .int 250, .int 0, .int 5000, .int 1000, .int 0])), (a_cu, .inr (2, [.int 0, .ref a_c1, .ref a_c2, .ref a_c3])), (a_pr, .inr (5, [.int 0, .ref a_p1, .ref a_p2, .ref a_p3, .ref a_p4])), (a_re, .inr (8, [.int 30, .int 5, .ref a_ra, .int 0, .int 0])), (a_lo, .inr (8, [.int 60, .int 4, .ref a_la, .int 0, .int 0]))] H := hP
  have hD : va_D A [(h0, .inr (9, [.int 0, .ref a_se, .ref a_cu, .ref a_pr, .int 0, .ref a_ch, .ref a_re, .ref a_lo])), (a_se, .inr (7, [.int 990, .int 100000, .int 100, .int 5, .int 0, .int 5000, .int 600, .int 250, .int 0, .int 5000, .int 1000, .int 0])), (a_cu, .inr (2, [.int 0, .ref a_c1, .ref a_c2, .ref a_c3])), (a_pr, .inr (5, [.int 0, .ref a_p1, .ref a_p2, .ref a_p3, .ref a_p4])), (a_re, .inr (8, [.int 30, .int 5, .ref a_ra, .int 0, .int 0])), (a_lo, .inr (8, [.int 60, .int 4, .ref a_la, .int 0, .int 0]))] := hD
  refine lv_aload_n hx hb dX9_clear_5 rfl (lv_at hl 0 rfl) ?_
  refine va_get (v := .ref a_se) (D := D) (ci := 9) (C := RX9) (T := TX9) (N := 8) hx hb hts in_X9 hown hK hP 0 rfl rfl 1 (by decide) (hts _ kl_RX9_12) (fun _ h9 => h9) rfl dX9_clear_6 ?_
  refine cm_kv (wr := [(h0, .inr (9, [.int 0, .ref a_se, .ref a_cu, .ref a_pr, .int 0, .ref a_ch, .ref a_re, .ref a_lo])), (a_cu, .inr (2, [.int 0, .ref a_c1, .ref a_c2, .ref a_c3])), (a_pr, .inr (5, [.int 0, .ref a_p1, .ref a_p2, .ref a_p3, .ref a_p4])), (a_re, .inr (8, [.int 30, .int 5, .ref a_ra, .int 0, .int 0])), (a_lo, .inr (8, [.int 60, .int 4, .ref a_la, .int 0, .int 0]))]) (va_runVN (As := []) (rest := []) ⟨hx, hb, hml, hown, hts⟩ (c_X7_clear l D ct a_se 990 100000 100 5 0 5000 600 250 0 5000 1000 0 _) (cm_VN 0 hts kc_X7_clear ki_RX7 kl_RX9_57 kv_X7_clear kx_X7_clear kd_X7_clear ⟨Nat.le_of_ble_eq_true rfl, Nat.le_of_ble_eq_true rfl⟩) (cm_preV hP hK hD hS hA hX [1] rfl rfl rfl (q0 := 1) (ci := 7) rfl rfl) rfl rfl hl.1 rfl (lv_room (Nat.le_of_ble_eq_true rfl)) dX9_clear_9 ⟨Nat.le_of_ble_eq_true rfl, Nat.le_of_ble_eq_true rfl⟩) hP hD hS hA [1] [0, 2, 3, 4, 5] rfl rfl rfl (by decide) (fun u H locs hw_2 hP hD hS => ?_)
  have hP : va_P D vwCl [(h0, .inr (9, [.int 0, .ref a_se, .ref a_cu, .ref a_pr, .int 0, .ref a_ch, .ref a_re, .ref a_lo])), (a_cu, .inr (2, [.int 0, .ref a_c1, .ref a_c2, .ref a_c3])), (a_pr, .inr (5, [.int 0, .ref a_p1, .ref a_p2, .ref a_p3, .ref a_p4])), (a_re, .inr (8, [.int 30, .int 5, .ref a_ra, .int 0, .int 0])), (a_lo, .inr (8, [.int 60, .int 4, .ref a_la, .int 0, .int 0])), (a_se, .inr (7, [.int 990, .int 100000, .int 100, .int 5, .int 0, .int 5000, .int 600, .int 250, .int 0, .int 5000, .int 1000, .int 0]))] H := hP
  have hD : va_D A [(h0, .inr (9, [.int 0, .ref a_se, .ref a_cu, .ref a_pr, .int 0, .ref a_ch, .ref a_re, .ref a_lo])), (a_cu, .inr (2, [.int 0, .ref a_c1, .ref a_c2, .ref a_c3])), (a_pr, .inr (5, [.int 0, .ref a_p1, .ref a_p2, .ref a_p3, .ref a_p4])), (a_re, .inr (8, [.int 30, .int 5, .ref a_ra, .int 0, .int 0])), (a_lo, .inr (8, [.int 60, .int 4, .ref a_la, .int 0, .int 0])), (a_se, .inr (7, [.int 990, .int 100000, .int 100, .int 5, .int 0, .int 5000, .int 600, .int 250, .int 0, .int 5000, .int 1000, .int 0]))] := hD
  refine lv_aload_n hx hb dX9_clear_12 rfl (lv_at hl 0 rfl) ?_
  refine va_get (v := .ref a_cu) (D := D) (ci := 9) (C := RX9) (T := TX9) (N := 8) hx hb hts in_X9 hown hK hP 0 rfl rfl 2 (by decide) (hts _ kl_RX9_21) (fun _ h9 => h9) rfl dX9_clear_13 ?_
  refine lv_iconst (v := 0) hx hb dX9_clear_16 (by decide) ?_
  refine va_putN (v := .int 0) (ty := .int) (D := D) (ci := 2) (C := RX2) (T := TX2) (N := 4) hx hb hts in_X2 tyX2 tyX2_ok nmX2 hown hK hP hD hS 1 rfl rfl 0 (by decide) (hts _ kl_RX9_60) (fun _ h9 => h9) rfl (by decide +kernel) rfl rfl (Nat.le_of_ble_eq_true rfl) dX9_clear_17 (fun H locs hP hD hS => ?_)
  have hP : va_P D vwCl [(h0, .inr (9, [.int 0, .ref a_se, .ref a_cu, .ref a_pr, .int 0, .ref a_ch, .ref a_re, .ref a_lo])), (a_cu, .inr (2, [.int 0, .ref a_c1, .ref a_c2, .ref a_c3])), (a_pr, .inr (5, [.int 0, .ref a_p1, .ref a_p2, .ref a_p3, .ref a_p4])), (a_re, .inr (8, [.int 30, .int 5, .ref a_ra, .int 0, .int 0])), (a_lo, .inr (8, [.int 60, .int 4, .ref a_la, .int 0, .int 0])), (a_se, .inr (7, [.int 990, .int 100000, .int 100, .int 5, .int 0, .int 5000, .int 600, .int 250, .int 0, .int 5000, .int 1000, .int 0]))] H := hP
  have hD : va_D A [(h0, .inr (9, [.int 0, .ref a_se, .ref a_cu, .ref a_pr, .int 0, .ref a_ch, .ref a_re, .ref a_lo])), (a_cu, .inr (2, [.int 0, .ref a_c1, .ref a_c2, .ref a_c3])), (a_pr, .inr (5, [.int 0, .ref a_p1, .ref a_p2, .ref a_p3, .ref a_p4])), (a_re, .inr (8, [.int 30, .int 5, .ref a_ra, .int 0, .int 0])), (a_lo, .inr (8, [.int 60, .int 4, .ref a_la, .int 0, .int 0])), (a_se, .inr (7, [.int 990, .int 100000, .int 100, .int 5, .int 0, .int 5000, .int 600, .int 250, .int 0, .int 5000, .int 1000, .int 0]))] := hD
  refine lv_aload_n hx hb dX9_clear_20 rfl (lv_at hl 0 rfl) ?_
  refine va_get (v := .ref a_pr) (D := D) (ci := 9) (C := RX9) (T := TX9) (N := 8) hx hb hts in_X9 hown hK hP 0 rfl rfl 3 (by decide) (hts _ kl_RX9_28) (fun _ h9 => h9) rfl dX9_clear_21 ?_
  refine lv_iconst (v := 0) hx hb dX9_clear_24 (by decide) ?_
  refine va_putN (v := .int 0) (ty := .int) (D := D) (ci := 5) (C := RX5) (T := TX5) (N := 5) hx hb hts in_X5 tyX5 tyX5_ok nmX5 hown hK hP hD hS 2 rfl rfl 0 (by decide) (hts _ kl_RX9_63) (fun _ h9 => h9) rfl (by decide +kernel) rfl rfl (Nat.le_of_ble_eq_true rfl) dX9_clear_25 (fun H locs hP hD hS => ?_)
  have hP : va_P D vwCl [(h0, .inr (9, [.int 0, .ref a_se, .ref a_cu, .ref a_pr, .int 0, .ref a_ch, .ref a_re, .ref a_lo])), (a_cu, .inr (2, [.int 0, .ref a_c1, .ref a_c2, .ref a_c3])), (a_pr, .inr (5, [.int 0, .ref a_p1, .ref a_p2, .ref a_p3, .ref a_p4])), (a_re, .inr (8, [.int 30, .int 5, .ref a_ra, .int 0, .int 0])), (a_lo, .inr (8, [.int 60, .int 4, .ref a_la, .int 0, .int 0])), (a_se, .inr (7, [.int 990, .int 100000, .int 100, .int 5, .int 0, .int 5000, .int 600, .int 250, .int 0, .int 5000, .int 1000, .int 0]))] H := hP
  have hD : va_D A [(h0, .inr (9, [.int 0, .ref a_se, .ref a_cu, .ref a_pr, .int 0, .ref a_ch, .ref a_re, .ref a_lo])), (a_cu, .inr (2, [.int 0, .ref a_c1, .ref a_c2, .ref a_c3])), (a_pr, .inr (5, [.int 0, .ref a_p1, .ref a_p2, .ref a_p3, .ref a_p4])), (a_re, .inr (8, [.int 30, .int 5, .ref a_ra, .int 0, .int 0])), (a_lo, .inr (8, [.int 60, .int 4, .ref a_la, .int 0, .int 0])), (a_se, .inr (7, [.int 990, .int 100000, .int 100, .int 5, .int 0, .int 5000, .int 600, .int 250, .int 0, .int 5000, .int 1000, .int 0]))] := hD
  refine lv_aload_n hx hb dX9_clear_28 rfl (lv_at hl 0 rfl) ?_
  refine lv_iconst (v := 0) hx hb dX9_clear_29 (by decide) ?_
  refine va_put (v := .int 0) (ty := .int) (D := D) (ci := 9) (C := RX9) (T := TX9) (N := 8) hx hb hts in_X9 tyX9 tyX9_ok nmX9 hown hK hP hD hS 0 rfl rfl 4 (by decide) (hts _ kl_RX9_64) (fun _ h9 => h9) rfl (by decide +kernel) rfl rfl (Nat.le_of_ble_eq_true rfl) dX9_clear_30 (fun H locs hP hD hS => ?_)
  have hP : va_P D vwCl [(h0, .inr (9, [.int 0, .ref a_se, .ref a_cu, .ref a_pr, .int 0, .ref a_ch, .ref a_re, .ref a_lo])), (a_cu, .inr (2, [.int 0, .ref a_c1, .ref a_c2, .ref a_c3])), (a_pr, .inr (5, [.int 0, .ref a_p1, .ref a_p2, .ref a_p3, .ref a_p4])), (a_re, .inr (8, [.int 30, .int 5, .ref a_ra, .int 0, .int 0])), (a_lo, .inr (8, [.int 60, .int 4, .ref a_la, .int 0, .int 0])), (a_se, .inr (7, [.int 990, .int 100000, .int 100, .int 5, .int 0, .int 5000, .int 600, .int 250, .int 0, .int 5000, .int 1000, .int 0]))] H := hP
  have hD : va_D A [(h0, .inr (9, [.int 0, .ref a_se, .ref a_cu, .ref a_pr, .int 0, .ref a_ch, .ref a_re, .ref a_lo])), (a_cu, .inr (2, [.int 0, .ref a_c1, .ref a_c2, .ref a_c3])), (a_pr, .inr (5, [.int 0, .ref a_p1, .ref a_p2, .ref a_p3, .ref a_p4])), (a_re, .inr (8, [.int 30, .int 5, .ref a_ra, .int 0, .int 0])), (a_lo, .inr (8, [.int 60, .int 4, .ref a_la, .int 0, .int 0])), (a_se, .inr (7, [.int 990, .int 100000, .int 100, .int 5, .int 0, .int 5000, .int 600, .int 250, .int 0, .int 5000, .int 1000, .int 0]))] := hD
  refine lv_aload_n hx hb dX9_clear_33 rfl (lv_at hl 0 rfl) ?_
  refine va_get (v := .ref a_re) (D := D) (ci := 9) (C := RX9) (T := TX9) (N := 8) hx hb hts in_X9 hown hK hP 0 rfl rfl 6 (by decide) (hts _ kl_RX9_46) (fun _ h9 => h9) rfl dX9_clear_34 ?_
  refine cm_kv (wr := [(h0, .inr (9, [.int 0, .ref a_se, .ref a_cu, .ref a_pr, .int 0, .ref a_ch, .ref a_re, .ref a_lo])), (a_cu, .inr (2, [.int 0, .ref a_c1, .ref a_c2, .ref a_c3])), (a_pr, .inr (5, [.int 0, .ref a_p1, .ref a_p2, .ref a_p3, .ref a_p4])), (a_lo, .inr (8, [.int 60, .int 4, .ref a_la, .int 0, .int 0])), (a_se, .inr (7, [.int 990, .int 100000, .int 100, .int 5, .int 0, .int 5000, .int 600, .int 250, .int 0, .int 5000, .int 1000, .int 0]))]) (va_runVN (As := []) (rest := []) ⟨hx, hb, hml, hown, hts⟩ (c_X8_clear l D ct a_re a_ra 30 5 0 0 _) (cm_VN 0 hts kc_X8_clear ki_RX8 kl_RX9_67 kv_X8_clear kx_X8_clear kd_X8_clear ⟨Nat.le_of_ble_eq_true rfl, Nat.le_of_ble_eq_true rfl⟩) (cm_preV hP hK hD hS hA hX [3] rfl rfl rfl (q0 := 3) (ci := 8) rfl rfl) rfl rfl hl.1 rfl (lv_room (Nat.le_of_ble_eq_true rfl)) dX9_clear_37 ⟨Nat.le_of_ble_eq_true rfl, Nat.le_of_ble_eq_true rfl⟩) hP hD hS hA [3] [0, 1, 2, 4, 5] rfl rfl rfl (by decide) (fun u H locs hw_4 hP hD hS => ?_)
  have hP : va_P D vwCl [(h0, .inr (9, [.int 0, .ref a_se, .ref a_cu, .ref a_pr, .int 0, .ref a_ch, .ref a_re, .ref a_lo])), (a_cu, .inr (2, [.int 0, .ref a_c1, .ref a_c2, .ref a_c3])), (a_pr, .inr (5, [.int 0, .ref a_p1, .ref a_p2, .ref a_p3, .ref a_p4])), (a_lo, .inr (8, [.int 60, .int 4, .ref a_la, .int 0, .int 0])), (a_se, .inr (7, [.int 990, .int 100000, .int 100, .int 5, .int 0, .int 5000, .int 600, .int 250, .int 0, .int 5000, .int 1000, .int 0])), (a_re, .inr (8, [.int 30, .int 5, .ref a_ra, .int 0, .int 0]))] H := hP
  have hD : va_D A [(h0, .inr (9, [.int 0, .ref a_se, .ref a_cu, .ref a_pr, .int 0, .ref a_ch, .ref a_re, .ref a_lo])), (a_cu, .inr (2, [.int 0, .ref a_c1, .ref a_c2, .ref a_c3])), (a_pr, .inr (5, [.int 0, .ref a_p1, .ref a_p2, .ref a_p3, .ref a_p4])), (a_lo, .inr (8, [.int 60, .int 4, .ref a_la, .int 0, .int 0])), (a_se, .inr (7, [.int 990, .int 100000, .int 100, .int 5, .int 0, .int 5000, .int 600, .int 250, .int 0, .int 5000, .int 1000, .int 0])), (a_re, .inr (8, [.int 30, .int 5, .ref a_ra, .int 0, .int 0]))] := hD
  refine lv_aload_n hx hb dX9_clear_40 rfl (lv_at hl 0 rfl) ?_
  refine va_get (v := .ref a_lo) (D := D) (ci := 9) (C := RX9) (T := TX9) (N := 8) hx hb hts in_X9 hown hK hP 0 rfl rfl 7 (by decide) (hts _ kl_RX9_50) (fun _ h9 => h9) rfl dX9_clear_41 ?_
  refine cm_kv (wr := [(h0, .inr (9, [.int 0, .ref a_se, .ref a_cu, .ref a_pr, .int 0, .ref a_ch, .ref a_re, .ref a_lo])), (a_cu, .inr (2, [.int 0, .ref a_c1, .ref a_c2, .ref a_c3])), (a_pr, .inr (5, [.int 0, .ref a_p1, .ref a_p2, .ref a_p3, .ref a_p4])), (a_se, .inr (7, [.int 990, .int 100000, .int 100, .int 5, .int 0, .int 5000, .int 600, .int 250, .int 0, .int 5000, .int 1000, .int 0])), (a_re, .inr (8, [.int 30, .int 5, .ref a_ra, .int 0, .int 0]))]) (va_runVN (As := []) (rest := []) ⟨hx, hb, hml, hown, hts⟩ (c_X8_clear l D ct a_lo a_la 60 4 0 0 _) (cm_VN 0 hts kc_X8_clear ki_RX8 kl_RX9_67 kv_X8_clear kx_X8_clear kd_X8_clear ⟨Nat.le_of_ble_eq_true rfl, Nat.le_of_ble_eq_true rfl⟩) (cm_preV hP hK hD hS hA hX [3] rfl rfl rfl (q0 := 3) (ci := 8) rfl rfl) rfl rfl hl.1 rfl (lv_room (Nat.le_of_ble_eq_true rfl)) dX9_clear_44 ⟨Nat.le_of_ble_eq_true rfl, Nat.le_of_ble_eq_true rfl⟩) hP hD hS hA [3] [0, 1, 2, 4, 5] rfl rfl rfl (by decide) (fun u H locs hw_6 hP hD hS => ?_)
  have hP : va_P D vwCl [(h0, .inr (9, [.int 0, .ref a_se, .ref a_cu, .ref a_pr, .int 0, .ref a_ch, .ref a_re, .ref a_lo])), (a_cu, .inr (2, [.int 0, .ref a_c1, .ref a_c2, .ref a_c3])), (a_pr, .inr (5, [.int 0, .ref a_p1, .ref a_p2, .ref a_p3, .ref a_p4])), (a_se, .inr (7, [.int 990, .int 100000, .int 100, .int 5, .int 0, .int 5000, .int 600, .int 250, .int 0, .int 5000, .int 1000, .int 0])), (a_re, .inr (8, [.int 30, .int 5, .ref a_ra, .int 0, .int 0])), (a_lo, .inr (8, [.int 60, .int 4, .ref a_la, .int 0, .int 0]))] H := hP
  have hD : va_D A [(h0, .inr (9, [.int 0, .ref a_se, .ref a_cu, .ref a_pr, .int 0, .ref a_ch, .ref a_re, .ref a_lo])), (a_cu, .inr (2, [.int 0, .ref a_c1, .ref a_c2, .ref a_c3])), (a_pr, .inr (5, [.int 0, .ref a_p1, .ref a_p2, .ref a_p3, .ref a_p4])), (a_se, .inr (7, [.int 990, .int 100000, .int 100, .int 5, .int 0, .int 5000, .int 600, .int 250, .int 0, .int 5000, .int 1000, .int 0])), (a_re, .inr (8, [.int 30, .int 5, .ref a_ra, .int 0, .int 0])), (a_lo, .inr (8, [.int 60, .int 4, .ref a_la, .int 0, .int 0]))] := hD
  have hP9 := hP.sub (ws' := [(h0, .inr (9, [.int 0, .ref a_se, .ref a_cu, .ref a_pr, .int 0, .ref a_ch, .ref a_re, .ref a_lo])), (a_se, .inr (7, [.int 990, .int 100000, .int 100, .int 5, .int 0, .int 5000, .int 600, .int 250, .int 0, .int 5000, .int 1000, .int 0])), (a_cu, .inr (2, [.int 0, .ref a_c1, .ref a_c2, .ref a_c3])), (a_pr, .inr (5, [.int 0, .ref a_p1, .ref a_p2, .ref a_p3, .ref a_p4])), (a_re, .inr (8, [.int 30, .int 5, .ref a_ra, .int 0, .int 0])), (a_lo, .inr (8, [.int 60, .int 4, .ref a_la, .int 0, .int 0]))]) [0, 3, 1, 2, 4, 5] rfl
  have hD9 := hD.sub (ws' := [(h0, .inr (9, [.int 0, .ref a_se, .ref a_cu, .ref a_pr, .int 0, .ref a_ch, .ref a_re, .ref a_lo])), (a_se, .inr (7, [.int 990, .int 100000, .int 100, .int 5, .int 0, .int 5000, .int 600, .int 250, .int 0, .int 5000, .int 1000, .int 0])), (a_cu, .inr (2, [.int 0, .ref a_c1, .ref a_c2, .ref a_c3])), (a_pr, .inr (5, [.int 0, .ref a_p1, .ref a_p2, .ref a_p3, .ref a_p4])), (a_re, .inr (8, [.int 30, .int 5, .ref a_ra, .int 0, .int 0])), (a_lo, .inr (8, [.int 60, .int 4, .ref a_la, .int 0, .int 0]))]) [0, 3, 1, 2, 4, 5] (by decide) rfl
  exact W.vret hx hb hr (fun t ht hW => ⟨⟨(), rfl, trivial, by rw [ht]; exact hP9, by rw [hAe]; exact hD9⟩, hS.F ht⟩) hS.2.2 dX9_clear_47
theorem dX10_load_0 : decode cX10_load 0 = .ok (.aload_n 0, 1) := by decide +kernel
theorem dX10_load_1 : decode cX10_load 1 = .ok (.getfield 16, 3) := by decide +kernel
theorem dX10_load_4 : decode cX10_load 4 = .ok (.invokevirtual 40, 3) := by decide +kernel
theorem dX10_load_7 : decode cX10_load 7 = .ok (.new 43, 3) := by decide +kernel
theorem dX10_load_10 : decode cX10_load 10 = .ok (.dup, 1) := by decide +kernel
theorem dX10_load_11 : decode cX10_load 11 = .ok (.aload_n 0, 1) := by decide +kernel
theorem dX10_load_12 : decode cX10_load 12 = .ok (.getfield 23, 3) := by decide +kernel
theorem dX10_load_15 : decode cX10_load 15 = .ok (.aload_n 0, 1) := by decide +kernel
theorem dX10_load_16 : decode cX10_load 16 = .ok (.getfield 27, 3) := by decide +kernel
theorem dX10_load_19 : decode cX10_load 19 = .ok (.aload_n 0, 1) := by decide +kernel
theorem dX10_load_20 : decode cX10_load 20 = .ok (.getfield 16, 3) := by decide +kernel
theorem dX10_load_23 : decode cX10_load 23 = .ok (.invokespecial 45, 3) := by decide +kernel
theorem dX10_load_26 : decode cX10_load 26 = .ok (.astore_n 1, 1) := by decide +kernel
theorem dX10_load_27 : decode cX10_load 27 = .ok (.aload_n 0, 1) := by decide +kernel
theorem dX10_load_28 : decode cX10_load 28 = .ok (.iconst 0, 1) := by decide +kernel
theorem dX10_load_29 : decode cX10_load 29 = .ok (.putfield 27, 3) := by decide +kernel
theorem dX10_load_32 : decode cX10_load 32 = .ok (.aload_n 1, 1) := by decide +kernel
theorem dX10_load_33 : decode cX10_load 33 = .ok (.invokevirtual 48, 3) := by decide +kernel
theorem dX10_load_36 : decode cX10_load 36 = .ok (.aload_n 0, 1) := by decide +kernel
theorem dX10_load_37 : decode cX10_load 37 = .ok (.aload_n 1, 1) := by decide +kernel
theorem dX10_load_38 : decode cX10_load 38 = .ok (.getfield 51, 3) := by decide +kernel
theorem dX10_load_41 : decode cX10_load 41 = .ok (.putfield 31, 3) := by decide +kernel
theorem dX10_load_44 : decode cX10_load 44 = .ok (.aload_n 1, 1) := by decide +kernel
theorem dX10_load_45 : decode cX10_load 45 = .ok (.getfield 51, 3) := by decide +kernel
theorem dX10_load_48 : decode cX10_load 48 = .ok (.ifCond .eq 11, 3) := by decide +kernel
theorem dX10_load_51 : decode cX10_load 51 = .ok (.bipush (-100), 2) := by decide +kernel
theorem dX10_load_53 : decode cX10_load 53 = .ok (.aload_n 1, 1) := by decide +kernel
theorem dX10_load_54 : decode cX10_load 54 = .ok (.getfield 54, 3) := by decide +kernel
theorem dX10_load_57 : decode cX10_load 57 = .ok (.isub, 1) := by decide +kernel
theorem dX10_load_58 : decode cX10_load 58 = .ok (.ireturn, 1) := by decide +kernel
set_option maxRecDepth 100000 in
set_option maxHeartbeats 4000000 in
theorem c_load_0 (l : Launch) (D : va_G) (ct : Nat → ClassId) (x : Nat) (w : Nat) (sp : Nat) (sv : Nat) (bu : Nat) (s_se : Nat) (s_cu : Nat) (s_pr : Nat) (s_ch : Nat) (s_re : Nat) (s_lo : Nat) (s_c1 : Nat) (s_c2 : Nat) (s_c3 : Nat) (s_p1 : Nat) (s_p2 : Nat) (s_p3 : Nat) (s_p4 : Nat) (s_ra : Nat) (s_la : Nat) (sz : Nat) : Met l yX10_load (ws_ yX10_load cX10_load 2 (some .int)) ({ frames := 5, cells := 1, slots := 7, locals := 104 } : Room) (va_Pc [.ref x] (cmP D ct sz [(x, .inr (10, [.ref w, .ref sp, .ref sv, .ref bu, .int 0, .int 0])), (sp, .inr (9, [.int 0, .ref s_se, .ref s_cu, .ref s_pr, .int 0, .ref s_ch, .ref s_re, .ref s_lo])), (s_se, .inr (7, [.int 990, .int 100000, .int 100, .int 5, .int 0, .int 5000, .int 600, .int 250, .int 0, .int 5000, .int 1000, .int 0])), (s_cu, .inr (2, [.int 0, .ref s_c1, .ref s_c2, .ref s_c3])), (s_pr, .inr (5, [.int 0, .ref s_p1, .ref s_p2, .ref s_p3, .ref s_p4])), (s_re, .inr (8, [.int 30, .int 5, .ref s_ra, .int 0, .int 0])), (s_lo, .inr (8, [.int 60, .int 4, .ref s_la, .int 0, .int 0]))])) (va_Qi (fun (r : Int32) (_ : Unit) => r = (-100)) (cmB D [(x, .inr (10, [.ref w, .ref sp, .ref sv, .ref bu, .int 0, .int 0])), (sp, .inr (9, [.int 0, .ref s_se, .ref s_cu, .ref s_pr, .int 0, .ref s_ch, .ref s_re, .ref s_lo])), (s_se, .inr (7, [.int 990, .int 100000, .int 100, .int 5, .int 0, .int 5000, .int 600, .int 250, .int 0, .int 5000, .int 1000, .int 0])), (s_cu, .inr (2, [.int 0, .ref s_c1, .ref s_c2, .ref s_c3])), (s_pr, .inr (5, [.int 0, .ref s_p1, .ref s_p2, .ref s_p3, .ref s_p4])), (s_re, .inr (8, [.int 30, .int 5, .ref s_ra, .int 0, .int 0])), (s_lo, .inr (8, [.int 60, .int 4, .ref s_la, .int 0, .int 0]))] sz (fun _ : Unit => [(x, .inr (10, [.ref w, .ref sp, .ref sv, .ref bu, .int 0, .int 1]))])) (va_A [(x, .inr (10, [.ref w, .ref sp, .ref sv, .ref bu, .int 0, .int 0])), (sp, .inr (9, [.int 0, .ref s_se, .ref s_cu, .ref s_pr, .int 0, .ref s_ch, .ref s_re, .ref s_lo])), (s_se, .inr (7, [.int 990, .int 100000, .int 100, .int 5, .int 0, .int 5000, .int 600, .int 250, .int 0, .int 5000, .int 1000, .int 0])), (s_cu, .inr (2, [.int 0, .ref s_c1, .ref s_c2, .ref s_c3])), (s_pr, .inr (5, [.int 0, .ref s_p1, .ref s_p2, .ref s_p3, .ref s_p4])), (s_re, .inr (8, [.int 30, .int 5, .ref s_ra, .int 0, .int 0])), (s_lo, .inr (8, [.int 60, .int 4, .ref s_la, .int 0, .int 0]))] sz)) 1 7 (va_A [(x, .inr (10, [.ref w, .ref sp, .ref sv, .ref bu, .int 0, .int 0])), (sp, .inr (9, [.int 0, .ref s_se, .ref s_cu, .ref s_pr, .int 0, .ref s_ch, .ref s_re, .ref s_lo])), (s_se, .inr (7, [.int 990, .int 100000, .int 100, .int 5, .int 0, .int 5000, .int 600, .int 250, .int 0, .int 5000, .int 1000, .int 0])), (s_cu, .inr (2, [.int 0, .ref s_c1, .ref s_c2, .ref s_c3])), (s_pr, .inr (5, [.int 0, .ref s_p1, .ref s_p2, .ref s_p3, .ref s_p4])), (s_re, .inr (8, [.int 30, .int 5, .ref s_ra, .int 0, .int 0])), (s_lo, .inr (8, [.int 60, .int 4, .ref s_la, .int 0, .int 0]))] sz) := by
  refine Met.ofW (cc := cX10_load) (maxL := 2) (ret := (some .int)) (by decide) rfl ?_
  intro p e s m args below meth c s₁ B hml hv
  obtain ⟨rfl, hsz, hP, hK, hD0, hX⟩ := hv
  have hx := B.exec
  have hb := B.bytes
  have hr := B.returns
  have hts := ws_all (atoms_spec (ws := ws_ yX10_load cX10_load 2 (some .int)) B.pre)
  have hown : s.vm.findClass RX10 = some m.cls := findClass_of_methodNamed B.named
  have hlocks := B.notSynchronized
  subst hsz
  have hD := hD0.self (sz := s.heap.size)
  generalize hAe : va_A [(x, .inr (10, [.ref w, .ref sp, .ref sv, .ref bu, .int 0, .int 0])), (sp, .inr (9, [.int 0, .ref s_se, .ref s_cu, .ref s_pr, .int 0, .ref s_ch, .ref s_re, .ref s_lo])), (s_se, .inr (7, [.int 990, .int 100000, .int 100, .int 5, .int 0, .int 5000, .int 600, .int 250, .int 0, .int 5000, .int 1000, .int 0])), (s_cu, .inr (2, [.int 0, .ref s_c1, .ref s_c2, .ref s_c3])), (s_pr, .inr (5, [.int 0, .ref s_p1, .ref s_p2, .ref s_p3, .ref s_p4])), (s_re, .inr (8, [.int 30, .int 5, .ref s_ra, .int 0, .int 0])), (s_lo, .inr (8, [.int 60, .int 4, .ref s_la, .int 0, .int 0]))] s.heap.size = A at hD hX ⊢
  have hA : ∀ q : Nat, s.heap.size ≤ q → A q := fun q h => by rw [← hAe]; exact Or.inr h
  have hS : va_S A s.heap s.heap [] := va_S.rf
  have hl := lv_entry ([.ref x]) (n := 2) (Nat.le_of_ble_eq_true rfl)
  rw [lg_entry_eq]
  generalize (lg_sl ([.ref x]) ++ List.replicate (2 - (lg_sl ([.ref x])).length) Slot.unset).toArray = ls at hl ⊢
  have hl : lv_has ls 2 [(0, .ref x)] := hl
  refine lv_aload_n hx hb dX10_load_0 rfl (lv_at hl 0 rfl) ?_
  refine va_get (v := .ref sp) (D := D) (ci := 10) (C := RX10) (T := TX10) (N := 6) hx hb hts in_X10 hown hK hP 0 rfl rfl 1 (by decide) (hts _ kl_RX10_16) (fun _ h9 => h9) rfl dX10_load_1 ?_
  refine cm_kv (wr := [(x, .inr (10, [.ref w, .ref sp, .ref sv, .ref bu, .int 0, .int 0]))]) (va_runVN (As := []) (rest := []) ⟨hx, hb, hml, hown, hts⟩ (c_X9_clear_0 l D ct sp s_se s_cu s_pr s_ch s_re s_lo s_c1 s_c2 s_c3 s_p1 s_p2 s_p3 s_p4 s_ra s_la _) (cm_VN 0 hts kc_X9_clear ki_RX9 kl_RX10_40 kv_X9_clear kx_X9_clear kd_X9_clear ⟨Nat.le_of_ble_eq_true rfl, Nat.le_of_ble_eq_true rfl⟩) (cm_preV hP hK hD hS hA hX [1, 2, 3, 4, 5, 6] rfl rfl rfl (q0 := 1) (ci := 9) rfl rfl) rfl rfl hl.1 rfl (lv_room (Nat.le_of_ble_eq_true rfl)) dX10_load_4 ⟨Nat.le_of_ble_eq_true rfl, Nat.le_of_ble_eq_true rfl⟩) hP hD hS hA [1, 2, 3, 4, 5, 6] [0] rfl rfl rfl (by decide) (fun u H locs hw_2 hP hD hS => ?_)
  have hP : va_P D vwCl [(x, .inr (10, [.ref w, .ref sp, .ref sv, .ref bu, .int 0, .int 0])), (sp, .inr (9, [.int 0, .ref s_se, .ref s_cu, .ref s_pr, .int 0, .ref s_ch, .ref s_re, .ref s_lo])), (s_se, .inr (7, [.int 990, .int 100000, .int 100, .int 5, .int 0, .int 5000, .int 600, .int 250, .int 0, .int 5000, .int 1000, .int 0])), (s_cu, .inr (2, [.int 0, .ref s_c1, .ref s_c2, .ref s_c3])), (s_pr, .inr (5, [.int 0, .ref s_p1, .ref s_p2, .ref s_p3, .ref s_p4])), (s_re, .inr (8, [.int 30, .int 5, .ref s_ra, .int 0, .int 0])), (s_lo, .inr (8, [.int 60, .int 4, .ref s_la, .int 0, .int 0]))] H := hP
  have hD : va_D A [(x, .inr (10, [.ref w, .ref sp, .ref sv, .ref bu, .int 0, .int 0])), (sp, .inr (9, [.int 0, .ref s_se, .ref s_cu, .ref s_pr, .int 0, .ref s_ch, .ref s_re, .ref s_lo])), (s_se, .inr (7, [.int 990, .int 100000, .int 100, .int 5, .int 0, .int 5000, .int 600, .int 250, .int 0, .int 5000, .int 1000, .int 0])), (s_cu, .inr (2, [.int 0, .ref s_c1, .ref s_c2, .ref s_c3])), (s_pr, .inr (5, [.int 0, .ref s_p1, .ref s_p2, .ref s_p3, .ref s_p4])), (s_re, .inr (8, [.int 30, .int 5, .ref s_ra, .int 0, .int 0])), (s_lo, .inr (8, [.int 60, .int 4, .ref s_la, .int 0, .int 0]))] := hD
  refine va_new (ci := 6) (fs := [.null, .int 0, .null, .int 0, .int 0, .int 0, .int 0]) (C := RX6) (T := TX6) (N := 7) hx hb hts in_X6 tyX6 tyX6_ok hown (hts _ kl_RX10_43) (hts _ kn_RX6) (hts _ ki_RX6) hK hP hD hS hA rfl fs0_X6 (Nat.le_of_ble_eq_true rfl) (Nat.le_of_ble_eq_true rfl) dX10_load_7 (fun q_3 H hP hD hS => ?_)
  have hP : va_P D vwCl [(x, .inr (10, [.ref w, .ref sp, .ref sv, .ref bu, .int 0, .int 0])), (sp, .inr (9, [.int 0, .ref s_se, .ref s_cu, .ref s_pr, .int 0, .ref s_ch, .ref s_re, .ref s_lo])), (s_se, .inr (7, [.int 990, .int 100000, .int 100, .int 5, .int 0, .int 5000, .int 600, .int 250, .int 0, .int 5000, .int 1000, .int 0])), (s_cu, .inr (2, [.int 0, .ref s_c1, .ref s_c2, .ref s_c3])), (s_pr, .inr (5, [.int 0, .ref s_p1, .ref s_p2, .ref s_p3, .ref s_p4])), (s_re, .inr (8, [.int 30, .int 5, .ref s_ra, .int 0, .int 0])), (s_lo, .inr (8, [.int 60, .int 4, .ref s_la, .int 0, .int 0])), (q_3, .inr (6, [.null, .int 0, .null, .int 0, .int 0, .int 0, .int 0]))] H := hP
  have hD : va_D A [(x, .inr (10, [.ref w, .ref sp, .ref sv, .ref bu, .int 0, .int 0])), (sp, .inr (9, [.int 0, .ref s_se, .ref s_cu, .ref s_pr, .int 0, .ref s_ch, .ref s_re, .ref s_lo])), (s_se, .inr (7, [.int 990, .int 100000, .int 100, .int 5, .int 0, .int 5000, .int 600, .int 250, .int 0, .int 5000, .int 1000, .int 0])), (s_cu, .inr (2, [.int 0, .ref s_c1, .ref s_c2, .ref s_c3])), (s_pr, .inr (5, [.int 0, .ref s_p1, .ref s_p2, .ref s_p3, .ref s_p4])), (s_re, .inr (8, [.int 30, .int 5, .ref s_ra, .int 0, .int 0])), (s_lo, .inr (8, [.int 60, .int 4, .ref s_la, .int 0, .int 0])), (q_3, .inr (6, [.null, .int 0, .null, .int 0, .int 0, .int 0, .int 0]))] := hD
  refine W.widen (k := 1) (n := 7) (Nat.le_of_ble_eq_true rfl) (Nat.le_of_ble_eq_true rfl) ?_
  refine lv_dup hx hb dX10_load_10 rfl ?_
  refine lv_aload_n hx hb dX10_load_11 rfl (lv_at hl 0 rfl) ?_
  refine va_get (v := .ref bu) (D := D) (ci := 10) (C := RX10) (T := TX10) (N := 6) hx hb hts in_X10 hown hK hP 0 rfl rfl 3 (by decide) (hts _ kl_RX10_23) (fun _ h9 => h9) rfl dX10_load_12 ?_
  refine lv_aload_n hx hb dX10_load_15 rfl (lv_at hl 0 rfl) ?_
  refine va_get (v := .int 0) (D := D) (ci := 10) (C := RX10) (T := TX10) (N := 6) hx hb hts in_X10 hown hK hP 0 rfl rfl 4 (by decide) (hts _ kl_RX10_27) (fun _ h9 => h9) rfl dX10_load_16 ?_
  refine lv_aload_n hx hb dX10_load_19 rfl (lv_at hl 0 rfl) ?_
  refine va_get (v := .ref sp) (D := D) (ci := 10) (C := RX10) (T := TX10) (N := 6) hx hb hts in_X10 hown hK hP 0 rfl rfl 1 (by decide) (hts _ kl_RX10_16) (fun _ h9 => h9) rfl dX10_load_20 ?_
  refine cm_kv (wr := [(x, .inr (10, [.ref w, .ref sp, .ref sv, .ref bu, .int 0, .int 0])), (sp, .inr (9, [.int 0, .ref s_se, .ref s_cu, .ref s_pr, .int 0, .ref s_ch, .ref s_re, .ref s_lo])), (s_se, .inr (7, [.int 990, .int 100000, .int 100, .int 5, .int 0, .int 5000, .int 600, .int 250, .int 0, .int 5000, .int 1000, .int 0])), (s_cu, .inr (2, [.int 0, .ref s_c1, .ref s_c2, .ref s_c3])), (s_pr, .inr (5, [.int 0, .ref s_p1, .ref s_p2, .ref s_p3, .ref s_p4])), (s_re, .inr (8, [.int 30, .int 5, .ref s_ra, .int 0, .int 0])), (s_lo, .inr (8, [.int 60, .int 4, .ref s_la, .int 0, .int 0]))]) (va_runIN (As := [.ref bu, .int 0, .ref sp]) (rest := [.ref q_3]) ⟨hx, hb, hml, hown, hts⟩ (c_X6_init l D ct q_3 bu sp 0 _) (cm_IN 3 hts kc_X6_init ki_RX6 kl_RX10_45 kv_X6_init rfl kd_X6_init ⟨Nat.le_of_ble_eq_true rfl, Nat.le_of_ble_eq_true rfl⟩) (cm_preS hP hK hD hS hA hX [7] rfl rfl rfl) rfl rfl hl.1 rfl (lv_room (Nat.le_of_ble_eq_true rfl)) dX10_load_23 ⟨Nat.le_of_ble_eq_true rfl, Nat.le_of_ble_eq_true rfl⟩) hP hD hS hA [7] [0, 1, 2, 3, 4, 5, 6] rfl rfl rfl (by decide) (fun u H locs hw_5 hP hD hS => ?_)
  have hP : va_P D vwCl [(x, .inr (10, [.ref w, .ref sp, .ref sv, .ref bu, .int 0, .int 0])), (sp, .inr (9, [.int 0, .ref s_se, .ref s_cu, .ref s_pr, .int 0, .ref s_ch, .ref s_re, .ref s_lo])), (s_se, .inr (7, [.int 990, .int 100000, .int 100, .int 5, .int 0, .int 5000, .int 600, .int 250, .int 0, .int 5000, .int 1000, .int 0])), (s_cu, .inr (2, [.int 0, .ref s_c1, .ref s_c2, .ref s_c3])), (s_pr, .inr (5, [.int 0, .ref s_p1, .ref s_p2, .ref s_p3, .ref s_p4])), (s_re, .inr (8, [.int 30, .int 5, .ref s_ra, .int 0, .int 0])), (s_lo, .inr (8, [.int 60, .int 4, .ref s_la, .int 0, .int 0])), (q_3, .inr (6, [.ref bu, .int 0, .ref sp, .int 0, .int 0, .int 0, .int 0]))] H := hP
  have hD : va_D A [(x, .inr (10, [.ref w, .ref sp, .ref sv, .ref bu, .int 0, .int 0])), (sp, .inr (9, [.int 0, .ref s_se, .ref s_cu, .ref s_pr, .int 0, .ref s_ch, .ref s_re, .ref s_lo])), (s_se, .inr (7, [.int 990, .int 100000, .int 100, .int 5, .int 0, .int 5000, .int 600, .int 250, .int 0, .int 5000, .int 1000, .int 0])), (s_cu, .inr (2, [.int 0, .ref s_c1, .ref s_c2, .ref s_c3])), (s_pr, .inr (5, [.int 0, .ref s_p1, .ref s_p2, .ref s_p3, .ref s_p4])), (s_re, .inr (8, [.int 30, .int 5, .ref s_ra, .int 0, .int 0])), (s_lo, .inr (8, [.int 60, .int 4, .ref s_la, .int 0, .int 0])), (q_3, .inr (6, [.ref bu, .int 0, .ref sp, .int 0, .int 0, .int 0, .int 0]))] := hD
  refine lv_astore_n (lv' := [(1, .ref q_3), (0, .ref x)]) hx hb dX10_load_26 rfl hl (by decide) rfl (fun ls hl => ?_)
  refine lv_aload_n hx hb dX10_load_27 rfl (lv_at hl 1 rfl) ?_
  refine lv_iconst (v := 0) hx hb dX10_load_28 (by decide) ?_
  refine va_put (v := .int 0) (ty := .int) (D := D) (ci := 10) (C := RX10) (T := TX10) (N := 6) hx hb hts in_X10 tyX10 tyX10_ok nmX10 hown hK hP hD hS 0 rfl rfl 4 (by decide) (hts _ kl_RX10_27) (fun _ h9 => h9) rfl (by decide +kernel) rfl rfl (Nat.le_of_ble_eq_true rfl) dX10_load_29 (fun H locs hP hD hS => ?_)
  have hP : va_P D vwCl [(x, .inr (10, [.ref w, .ref sp, .ref sv, .ref bu, .int 0, .int 0])), (sp, .inr (9, [.int 0, .ref s_se, .ref s_cu, .ref s_pr, .int 0, .ref s_ch, .ref s_re, .ref s_lo])), (s_se, .inr (7, [.int 990, .int 100000, .int 100, .int 5, .int 0, .int 5000, .int 600, .int 250, .int 0, .int 5000, .int 1000, .int 0])), (s_cu, .inr (2, [.int 0, .ref s_c1, .ref s_c2, .ref s_c3])), (s_pr, .inr (5, [.int 0, .ref s_p1, .ref s_p2, .ref s_p3, .ref s_p4])), (s_re, .inr (8, [.int 30, .int 5, .ref s_ra, .int 0, .int 0])), (s_lo, .inr (8, [.int 60, .int 4, .ref s_la, .int 0, .int 0])), (q_3, .inr (6, [.ref bu, .int 0, .ref sp, .int 0, .int 0, .int 0, .int 0]))] H := hP
  have hD : va_D A [(x, .inr (10, [.ref w, .ref sp, .ref sv, .ref bu, .int 0, .int 0])), (sp, .inr (9, [.int 0, .ref s_se, .ref s_cu, .ref s_pr, .int 0, .ref s_ch, .ref s_re, .ref s_lo])), (s_se, .inr (7, [.int 990, .int 100000, .int 100, .int 5, .int 0, .int 5000, .int 600, .int 250, .int 0, .int 5000, .int 1000, .int 0])), (s_cu, .inr (2, [.int 0, .ref s_c1, .ref s_c2, .ref s_c3])), (s_pr, .inr (5, [.int 0, .ref s_p1, .ref s_p2, .ref s_p3, .ref s_p4])), (s_re, .inr (8, [.int 30, .int 5, .ref s_ra, .int 0, .int 0])), (s_lo, .inr (8, [.int 60, .int 4, .ref s_la, .int 0, .int 0])), (q_3, .inr (6, [.ref bu, .int 0, .ref sp, .int 0, .int 0, .int 0, .int 0]))] := hD
  refine lv_aload_n hx hb dX10_load_32 rfl (lv_at hl 0 rfl) ?_
  refine cm_kv (wr := [(x, .inr (10, [.ref w, .ref sp, .ref sv, .ref bu, .int 0, .int 0])), (s_se, .inr (7, [.int 990, .int 100000, .int 100, .int 5, .int 0, .int 5000, .int 600, .int 250, .int 0, .int 5000, .int 1000, .int 0])), (s_cu, .inr (2, [.int 0, .ref s_c1, .ref s_c2, .ref s_c3])), (s_pr, .inr (5, [.int 0, .ref s_p1, .ref s_p2, .ref s_p3, .ref s_p4])), (s_re, .inr (8, [.int 30, .int 5, .ref s_ra, .int 0, .int 0])), (s_lo, .inr (8, [.int 60, .int 4, .ref s_la, .int 0, .int 0]))]) (va_runVN (As := []) (rest := []) ⟨hx, hb, hml, hown, hts⟩ (c_readText_0 l D ct q_3 bu sp s_se s_cu s_pr s_ch s_re s_lo 0 0 _) (cm_VN 0 hts kc_X6_readText ki_RX6 kl_RX10_48 kv_X6_readText kx_X6_readText kd_X6_readText ⟨Nat.le_of_ble_eq_true rfl, Nat.le_of_ble_eq_true rfl⟩) (cm_preV hP hK hD hS hA hX [7, 1] rfl rfl rfl (q0 := 7) (ci := 6) rfl rfl) rfl rfl hl.1 rfl (lv_room (Nat.le_of_ble_eq_true rfl)) dX10_load_33 ⟨Nat.le_of_ble_eq_true rfl, Nat.le_of_ble_eq_true rfl⟩) hP hD hS hA [7, 1] [0, 2, 3, 4, 5, 6] rfl rfl rfl (by decide) (fun u H locs hw_7 hP hD hS => ?_)
  have hP : va_P D vwCl [(x, .inr (10, [.ref w, .ref sp, .ref sv, .ref bu, .int 0, .int 0])), (s_se, .inr (7, [.int 990, .int 100000, .int 100, .int 5, .int 0, .int 5000, .int 600, .int 250, .int 0, .int 5000, .int 1000, .int 0])), (s_cu, .inr (2, [.int 0, .ref s_c1, .ref s_c2, .ref s_c3])), (s_pr, .inr (5, [.int 0, .ref s_p1, .ref s_p2, .ref s_p3, .ref s_p4])), (s_re, .inr (8, [.int 30, .int 5, .ref s_ra, .int 0, .int 0])), (s_lo, .inr (8, [.int 60, .int 4, .ref s_la, .int 0, .int 0])), (q_3, .inr (6, [.ref bu, .int 0, .ref sp, .int 0, .int 0, .int 1, .int 0])), (sp, .inr (9, [.int 0, .ref s_se, .ref s_cu, .ref s_pr, .int 0, .ref s_ch, .ref s_re, .ref s_lo]))] H := hP
  have hD : va_D A [(x, .inr (10, [.ref w, .ref sp, .ref sv, .ref bu, .int 0, .int 0])), (s_se, .inr (7, [.int 990, .int 100000, .int 100, .int 5, .int 0, .int 5000, .int 600, .int 250, .int 0, .int 5000, .int 1000, .int 0])), (s_cu, .inr (2, [.int 0, .ref s_c1, .ref s_c2, .ref s_c3])), (s_pr, .inr (5, [.int 0, .ref s_p1, .ref s_p2, .ref s_p3, .ref s_p4])), (s_re, .inr (8, [.int 30, .int 5, .ref s_ra, .int 0, .int 0])), (s_lo, .inr (8, [.int 60, .int 4, .ref s_la, .int 0, .int 0])), (q_3, .inr (6, [.ref bu, .int 0, .ref sp, .int 0, .int 0, .int 1, .int 0])), (sp, .inr (9, [.int 0, .ref s_se, .ref s_cu, .ref s_pr, .int 0, .ref s_ch, .ref s_re, .ref s_lo]))] := hD
  refine lv_aload_n hx hb dX10_load_36 rfl (lv_at hl 1 rfl) ?_
  refine lv_aload_n hx hb dX10_load_37 rfl (lv_at hl 0 rfl) ?_
  refine va_getN (v := .int 1) (D := D) (ci := 6) (C := RX6) (T := TX6) (N := 7) hx hb hts in_X6 hown hK hP 6 rfl rfl 5 (by decide) (hts _ kl_RX10_51) (fun _ h9 => h9) rfl dX10_load_38 ?_
  refine va_put (v := .int 1) (ty := .int) (D := D) (ci := 10) (C := RX10) (T := TX10) (N := 6) hx hb hts in_X10 tyX10 tyX10_ok nmX10 hown hK hP hD hS 0 rfl rfl 5 (by decide) (hts _ kl_RX10_31) (fun _ h9 => h9) rfl (by decide +kernel) rfl rfl (Nat.le_of_ble_eq_true rfl) dX10_load_41 (fun H locs hP hD hS => ?_)
  have hP : va_P D vwCl [(x, .inr (10, [.ref w, .ref sp, .ref sv, .ref bu, .int 0, .int 1])), (s_se, .inr (7, [.int 990, .int 100000, .int 100, .int 5, .int 0, .int 5000, .int 600, .int 250, .int 0, .int 5000, .int 1000, .int 0])), (s_cu, .inr (2, [.int 0, .ref s_c1, .ref s_c2, .ref s_c3])), (s_pr, .inr (5, [.int 0, .ref s_p1, .ref s_p2, .ref s_p3, .ref s_p4])), (s_re, .inr (8, [.int 30, .int 5, .ref s_ra, .int 0, .int 0])), (s_lo, .inr (8, [.int 60, .int 4, .ref s_la, .int 0, .int 0])), (q_3, .inr (6, [.ref bu, .int 0, .ref sp, .int 0, .int 0, .int 1, .int 0])), (sp, .inr (9, [.int 0, .ref s_se, .ref s_cu, .ref s_pr, .int 0, .ref s_ch, .ref s_re, .ref s_lo]))] H := hP
  have hD : va_D A [(x, .inr (10, [.ref w, .ref sp, .ref sv, .ref bu, .int 0, .int 1])), (s_se, .inr (7, [.int 990, .int 100000, .int 100, .int 5, .int 0, .int 5000, .int 600, .int 250, .int 0, .int 5000, .int 1000, .int 0])), (s_cu, .inr (2, [.int 0, .ref s_c1, .ref s_c2, .ref s_c3])), (s_pr, .inr (5, [.int 0, .ref s_p1, .ref s_p2, .ref s_p3, .ref s_p4])), (s_re, .inr (8, [.int 30, .int 5, .ref s_ra, .int 0, .int 0])), (s_lo, .inr (8, [.int 60, .int 4, .ref s_la, .int 0, .int 0])), (q_3, .inr (6, [.ref bu, .int 0, .ref sp, .int 0, .int 0, .int 1, .int 0])), (sp, .inr (9, [.int 0, .ref s_se, .ref s_cu, .ref s_pr, .int 0, .ref s_ch, .ref s_re, .ref s_lo]))] := hD
  refine lv_aload_n hx hb dX10_load_44 rfl (lv_at hl 0 rfl) ?_
  refine va_getN (v := .int 1) (D := D) (ci := 6) (C := RX6) (T := TX6) (N := 7) hx hb hts in_X6 hown hK hP 6 rfl rfl 5 (by decide) (hts _ kl_RX10_51) (fun _ h9 => h9) rfl dX10_load_45 ?_
  refine lv_if_eq (tgt := 59) hx hb dX10_load_48 (by decide) (fun hc => absurd hc (by decide)) (fun _ => ?_)
  refine lv_bipush (v := (-100)) hx hb dX10_load_51 (by decide) ?_
  refine lv_aload_n hx hb dX10_load_53 rfl (lv_at hl 0 rfl) ?_
  refine va_getN (v := .int 0) (D := D) (ci := 6) (C := RX6) (T := TX6) (N := 7) hx hb hts in_X6 hown hK hP 6 rfl rfl 6 (by decide) (hts _ kl_RX10_54) (fun _ h9 => h9) rfl dX10_load_54 ?_
  refine lv_isub hx hb dX10_load_57 ?_
  refine cm_cst (y := (-100)) (by decide) ?_
  have hP9 := hP.sub (ws' := [(x, .inr (10, [.ref w, .ref sp, .ref sv, .ref bu, .int 0, .int 1]))]) [0] rfl
  have hD9 := hD.sub (ws' := [(x, .inr (10, [.ref w, .ref sp, .ref sv, .ref bu, .int 0, .int 1]))]) [0] (by decide) rfl
  exact W.iret (v := (-100)) hx hb hr (fun t ht hW => ⟨⟨(-100), (), rfl, rfl, by rw [ht]; exact hP9, by rw [hAe]; exact hD9⟩, hS.F ht⟩) hS.2.2 dX10_load_58
theorem cm_tk {x : Int32} (h : 1 ≤ x ∧ x ≤ 5000) : ∃ t : Nat, 1 ≤ t ∧ t ≤ 5000 ∧ x = nI t := by
  obtain ⟨h0, h1⟩ := h
  rw [Int32.le_iff_toInt_le] at h0 h1
  have z : (1 : Int32).toInt = 1 := by decide
  have y : (5000 : Int32).toInt = 5000 := by decide
  refine ⟨x.toInt.toNat, by omega, by omega, Int32.toInt_inj.mp ?_⟩
  rw [nI_toInt (by omega)]
  omega
theorem cm_tk1 {t : Nat} (h1 : 1 ≤ t) (h2 : t ≤ 5000) : 1 ≤ nI t := by
  rw [Int32.le_iff_toInt_le, nI_toInt (by omega), show (1 : Int32).toInt = 1 from by decide]
  omega
theorem cm_tk2 {t : Nat} (h2 : t ≤ 5000) : nI t ≤ 5000 := by
  rw [Int32.le_iff_toInt_le, nI_toInt (by omega), show (5000 : Int32).toInt = 5000 from by decide]
  omega
theorem cm_tk3 {t : Nat} (h2 : t ≤ 5000) : (0 : Int32) + nI t ≤ 300000 := by
  rw [Int32.zero_add, Int32.le_iff_toInt_le, nI_toInt (by omega), show (300000 : Int32).toInt = 300000 from by decide]
  omega
theorem dX10_advance_0 : decode cX10_advance 0 = .ok (.iload_n 1, 1) := by decide +kernel
theorem dX10_advance_1 : decode cX10_advance 1 = .ok (.iconst 1, 1) := by decide +kernel
theorem dX10_advance_2 : decode cX10_advance 2 = .ok (.sipush 5000, 3) := by decide +kernel
theorem dX10_advance_5 : decode cX10_advance 5 = .ok (.invokestatic 81, 3) := by decide +kernel
theorem dX10_advance_8 : decode cX10_advance 8 = .ok (.aload_n 0, 1) := by decide +kernel
theorem dX10_advance_9 : decode cX10_advance 9 = .ok (.getfield 10, 3) := by decide +kernel
theorem dX10_advance_12 : decode cX10_advance 12 = .ok (.getfield 164, 3) := by decide +kernel
theorem dX10_advance_15 : decode cX10_advance 15 = .ok (.iload_n 1, 1) := by decide +kernel
theorem dX10_advance_16 : decode cX10_advance 16 = .ok (.iadd, 1) := by decide +kernel
theorem dX10_advance_17 : decode cX10_advance 17 = .ok (.ldc 167, 2) := by decide +kernel
theorem dX10_advance_19 : decode cX10_advance 19 = .ok (.if_icmp .le 6, 3) := by decide +kernel
theorem dX10_advance_25 : decode cX10_advance 25 = .ok (.iconst 0, 1) := by decide +kernel
theorem dX10_advance_26 : decode cX10_advance 26 = .ok (.istore_n 2, 1) := by decide +kernel
theorem dX10_advance_27 : decode cX10_advance 27 = .ok (.iconst 0, 1) := by decide +kernel
theorem dX10_advance_28 : decode cX10_advance 28 = .ok (.istore_n 3, 1) := by decide +kernel
theorem dX10_advance_29 : decode cX10_advance 29 = .ok (.iload_n 3, 1) := by decide +kernel
theorem dX10_advance_30 : decode cX10_advance 30 = .ok (.iload_n 1, 1) := by decide +kernel
theorem dX10_advance_31 : decode cX10_advance 31 = .ok (.if_icmp .ge 74, 3) := by decide +kernel
theorem dX10_advance_34 : decode cX10_advance 34 = .ok (.aload_n 0, 1) := by decide +kernel
theorem dX10_advance_35 : decode cX10_advance 35 = .ok (.getfield 10, 3) := by decide +kernel
theorem dX10_advance_38 : decode cX10_advance 38 = .ok (.dup, 1) := by decide +kernel
theorem dX10_advance_39 : decode cX10_advance 39 = .ok (.getfield 164, 3) := by decide +kernel
theorem dX10_advance_42 : decode cX10_advance 42 = .ok (.iconst 1, 1) := by decide +kernel
theorem dX10_advance_43 : decode cX10_advance 43 = .ok (.iadd, 1) := by decide +kernel
theorem dX10_advance_44 : decode cX10_advance 44 = .ok (.putfield 164, 3) := by decide +kernel
theorem dX10_advance_47 : decode cX10_advance 47 = .ok (.iconst 0, 1) := by decide +kernel
theorem dX10_advance_48 : decode cX10_advance 48 = .ok (.istore 4, 2) := by decide +kernel
theorem dX10_advance_50 : decode cX10_advance 50 = .ok (.iload 4, 2) := by decide +kernel
theorem dX10_advance_52 : decode cX10_advance 52 = .ok (.aload_n 0, 1) := by decide +kernel
theorem dX10_advance_53 : decode cX10_advance 53 = .ok (.getfield 10, 3) := by decide +kernel
theorem dX10_advance_56 : decode cX10_advance 56 = .ok (.getfield 64, 3) := by decide +kernel
theorem dX10_advance_59 : decode cX10_advance 59 = .ok (.if_icmp .ge 40, 3) := by decide +kernel
theorem dX10_advance_99 : decode cX10_advance 99 = .ok (.iinc 3 1, 3) := by decide +kernel
theorem dX10_advance_102 : decode cX10_advance 102 = .ok (.goto (-73), 3) := by decide +kernel
theorem dX10_advance_105 : decode cX10_advance 105 = .ok (.iload_n 2, 1) := by decide +kernel
theorem dX10_advance_106 : decode cX10_advance 106 = .ok (.ireturn, 1) := by decide +kernel
set_option maxRecDepth 100000 in
set_option maxHeartbeats 4000000 in
theorem c_advance_0 (l : Launch) (hfl : l.stackTraces = false) (D : va_G) (ct : Nat → ClassId) (x : Nat) (w : Nat) (sp : Nat) (sv : Nat) (bu : Nat) (w_se : Nat) (w_cu : Nat) (w_pr : Nat) (w_ch : Nat) (w_re : Nat) (w_lo : Nat) (p1 : Int32) (sz : Nat) : vx_Met l yX10_advance (ws_ yX10_advance cX10_advance 6 (some .int)) ({ frames := 7, cells := 1, slots := 6, locals := 112 } : Room) (va_Pc [.ref x, .int p1] (cmP D ct sz [(x, .inr (10, [.ref w, .ref sp, .ref sv, .ref bu, .int 0, .int 0])), (w, .inr (9, [.int 0, .ref w_se, .ref w_cu, .ref w_pr, .int 0, .ref w_ch, .ref w_re, .ref w_lo]))])) (va_Qi (fun (r : Int32) (_ : Unit) => r = 0 ∧ 1 ≤ p1 ∧ p1 ≤ 5000) (cmB D [(x, .inr (10, [.ref w, .ref sp, .ref sv, .ref bu, .int 0, .int 0])), (w, .inr (9, [.int 0, .ref w_se, .ref w_cu, .ref w_pr, .int 0, .ref w_ch, .ref w_re, .ref w_lo]))] sz (fun _ : Unit => [(x, .inr (10, [.ref w, .ref sp, .ref sv, .ref bu, .int 0, .int 0])), (w, .inr (9, [.int p1, .ref w_se, .ref w_cu, .ref w_pr, .int 0, .ref w_ch, .ref w_re, .ref w_lo]))])) (va_A [(x, .inr (10, [.ref w, .ref sp, .ref sv, .ref bu, .int 0, .int 0])), (w, .inr (9, [.int 0, .ref w_se, .ref w_cu, .ref w_pr, .int 0, .ref w_ch, .ref w_re, .ref w_lo]))] sz)) (vx_X (fun _ : Unit => p1 < 1 ∨ 5000 < p1) (cmBX D [(x, .inr (10, [.ref w, .ref sp, .ref sv, .ref bu, .int 0, .int 0])), (w, .inr (9, [.int 0, .ref w_se, .ref w_cu, .ref w_pr, .int 0, .ref w_ch, .ref w_re, .ref w_lo]))] sz "java/lang/IllegalArgumentException" (fun _ : Unit => [(x, .inr (10, [.ref w, .ref sp, .ref sv, .ref bu, .int 0, .int 0])), (w, .inr (9, [.int 0, .ref w_se, .ref w_cu, .ref w_pr, .int 0, .ref w_ch, .ref w_re, .ref w_lo]))])) (va_A [(x, .inr (10, [.ref w, .ref sp, .ref sv, .ref bu, .int 0, .int 0])), (w, .inr (9, [.int 0, .ref w_se, .ref w_cu, .ref w_pr, .int 0, .ref w_ch, .ref w_re, .ref w_lo]))] sz)) 1 6 (va_A [(x, .inr (10, [.ref w, .ref sp, .ref sv, .ref bu, .int 0, .int 0])), (w, .inr (9, [.int 0, .ref w_se, .ref w_cu, .ref w_pr, .int 0, .ref w_ch, .ref w_re, .ref w_lo]))] sz) := by
  refine vx_ofW (cc := cX10_advance) (maxL := 6) (ret := (some .int)) (by decide) rfl ?_
  intro p e s m args below meth c s₁ B hml hex hv
  obtain ⟨rfl, hsz, hP, hK, hD0, hX⟩ := hv
  have hx := B.exec
  have hb := B.bytes
  have hr := B.returns
  have hts := ws_all (atoms_spec (ws := ws_ yX10_advance cX10_advance 6 (some .int)) B.pre)
  have hown : s.vm.findClass RX10 = some m.cls := findClass_of_methodNamed B.named
  have hlocks := B.notSynchronized
  subst hsz
  have hD := hD0.self (sz := s.heap.size)
  generalize hAe : va_A [(x, .inr (10, [.ref w, .ref sp, .ref sv, .ref bu, .int 0, .int 0])), (w, .inr (9, [.int 0, .ref w_se, .ref w_cu, .ref w_pr, .int 0, .ref w_ch, .ref w_re, .ref w_lo]))] s.heap.size = A at hD hX ⊢
  have hA : ∀ q : Nat, s.heap.size ≤ q → A q := fun q h => by rw [← hAe]; exact Or.inr h
  have hS : va_S A s.heap s.heap [] := va_S.rf
  have hl := lv_entry ([.ref x, .int p1]) (n := 6) (Nat.le_of_ble_eq_true rfl)
  rw [lg_entry_eq]
  generalize (lg_sl ([.ref x, .int p1]) ++ List.replicate (6 - (lg_sl ([.ref x, .int p1])).length) Slot.unset).toArray = ls at hl ⊢
  have hl : lv_has ls 6 [(0, .ref x), (1, .int p1)] := hl
  refine lv_iload_n hx hb dX10_advance_0 rfl (lv_at hl 1 rfl) ?_
  refine lv_iconst (v := 1) hx hb dX10_advance_1 (by decide) ?_
  refine lv_sipush (v := 5000) hx hb dX10_advance_2 (by decide) ?_
  refine cm_xv (wr := [(x, .inr (10, [.ref w, .ref sp, .ref sv, .ref bu, .int 0, .int 0])), (w, .inr (9, [.int 0, .ref w_se, .ref w_cu, .ref w_pr, .int 0, .ref w_ch, .ref w_re, .ref w_lo]))]) (vx_runS (As := [.int p1, .int 1, .int 5000]) (rest := []) ⟨hx, hb, hml, hown, hts⟩ (c_needRange l hfl D ct p1 1 5000 _) (cm_S 3 hts kc_X10_needRange ki_RX10 kl_RX10_81 ks_X10_needRange kd_X10_needRange ⟨Nat.le_of_ble_eq_true rfl, Nat.le_of_ble_eq_true rfl⟩) (cm_preS hP hK hD hS hA hX [] rfl rfl rfl) rfl rfl hl.1 rfl (lv_room (Nat.le_of_ble_eq_true rfl)) dX10_advance_5 ⟨Nat.le_of_ble_eq_true rfl, Nat.le_of_ble_eq_true rfl⟩) hP hD hS hA [] [0, 1] rfl rfl rfl (by decide) (fun E ce q9 u H locs hu hE hP hD hS hce hcv hcl => ?_) (fun u H locs hw_2 hP hD hS => ?_)
  · subst hE
    have hu : p1 < 1 ∨ 5000 < p1 := hu
    have hP : va_P D vwCl [(x, .inr (10, [.ref w, .ref sp, .ref sv, .ref bu, .int 0, .int 0])), (w, .inr (9, [.int 0, .ref w_se, .ref w_cu, .ref w_pr, .int 0, .ref w_ch, .ref w_re, .ref w_lo]))] H := hP
    have hD : va_D A [(x, .inr (10, [.ref w, .ref sp, .ref sv, .ref bu, .int 0, .int 0])), (w, .inr (9, [.int 0, .ref w_se, .ref w_cu, .ref w_pr, .int 0, .ref w_ch, .ref w_re, .ref w_lo]))] := hD
    have hP9 := hP.sub (ws' := [(x, .inr (10, [.ref w, .ref sp, .ref sv, .ref bu, .int 0, .int 0])), (w, .inr (9, [.int 0, .ref w_se, .ref w_cu, .ref w_pr, .int 0, .ref w_ch, .ref w_re, .ref w_lo]))]) [0, 1] rfl
    have hD9 := hD.sub (ws' := [(x, .inr (10, [.ref w, .ref sp, .ref sv, .ref bu, .int 0, .int 0])), (w, .inr (9, [.int 0, .ref w_se, .ref w_cu, .ref w_pr, .int 0, .ref w_ch, .ref w_re, .ref w_lo]))]) [0, 1] (by decide) rfl
    exact vx_out (fun x hx => (hex x hx).elim) hlocks hce hcv hcl (fun t ht hW => ⟨(), hu, ⟨rfl, by rw [ht]; exact hP9, by rw [hAe]; exact hD9⟩, hS.F ht⟩) hS.2.2 (Nat.le_of_ble_eq_true rfl) (Nat.le_of_ble_eq_true rfl)
  · have hw_2 : 1 ≤ p1 ∧ p1 ≤ 5000 := hw_2
    have hP : va_P D vwCl [(x, .inr (10, [.ref w, .ref sp, .ref sv, .ref bu, .int 0, .int 0])), (w, .inr (9, [.int 0, .ref w_se, .ref w_cu, .ref w_pr, .int 0, .ref w_ch, .ref w_re, .ref w_lo]))] H := hP
    have hD : va_D A [(x, .inr (10, [.ref w, .ref sp, .ref sv, .ref bu, .int 0, .int 0])), (w, .inr (9, [.int 0, .ref w_se, .ref w_cu, .ref w_pr, .int 0, .ref w_ch, .ref w_re, .ref w_lo]))] := hD
    refine W.widen (k := 1) (n := 6) (Nat.le_of_ble_eq_true rfl) (Nat.le_of_ble_eq_true rfl) ?_
    obtain ⟨t, ht1, ht2, rfl⟩ := cm_tk hw_2
    refine lv_aload_n hx hb dX10_advance_8 rfl (lv_at hl 0 rfl) ?_
    refine va_get (v := .ref w) (D := D) (ci := 10) (C := RX10) (T := TX10) (N := 6) hx hb hts in_X10 hown hK hP 0 rfl rfl 0 (by decide) (hts _ kl_RX10_10) (fun _ h9 => h9) rfl dX10_advance_9 ?_
    refine va_getN (v := .int 0) (D := D) (ci := 9) (C := RX9) (T := TX9) (N := 8) hx hb hts in_X9 hown hK hP 1 rfl rfl 0 (by decide) (hts _ kl_RX10_164) (fun _ h9 => h9) rfl dX10_advance_12 ?_
    refine lv_iload_n hx hb dX10_advance_15 rfl (lv_at hl 1 rfl) ?_
    refine lv_iadd hx hb dX10_advance_16 ?_
    refine lv_ldc hx hb hown (hts _ kl_RX10_167) dX10_advance_17 ?_
    refine lv_icmp_le (tgt := 25) hx hb dX10_advance_19 (by decide) (fun _ => ?_) (fun hc => absurd (cm_tk3 ht2) hc)
    refine lv_iconst (v := 0) hx hb dX10_advance_25 (by decide) ?_
    refine lv_istore_n (lv' := [(2, .int 0), (0, .ref x), (1, .int (nI t))]) hx hb dX10_advance_26 rfl hl (by decide) rfl (fun ls hl => ?_)
    refine lv_iconst (v := 0) hx hb dX10_advance_27 (by decide) ?_
    refine lv_istore_n (lv' := [(3, .int 0), (2, .int 0), (0, .ref x), (1, .int (nI t))]) hx hb dX10_advance_28 rfl hl (by decide) rfl (fun ls hl => ?_)
    refine cm_loop (N := t) (I := fun i H locs ls => va_P D vwCl [(x, .inr (10, [.ref w, .ref sp, .ref sv, .ref bu, .int 0, .int 0])), (w, .inr (9, [.int (nI i), .ref w_se, .ref w_cu, .ref w_pr, .int 0, .ref w_ch, .ref w_re, .ref w_lo]))] H ∧ va_D A [(x, .inr (10, [.ref w, .ref sp, .ref sv, .ref bu, .int 0, .int 0])), (w, .inr (9, [.int (nI i), .ref w_se, .ref w_cu, .ref w_pr, .int 0, .ref w_ch, .ref w_re, .ref w_lo]))] ∧ va_S A s.heap H locs ∧ lv_has ls 6 [(0, .ref x), (1, .int (nI t)), (2, .int 0), (3, .int (nI i))]) ⟨hP, hD, hS, (lv_sub hl [2, 3, 1, 0] rfl)⟩ (fun i H locs ls hi hI ih => ?_) (fun H locs ls hI => ?_)
    · obtain ⟨hP, hD, hS, hl⟩ := hI
      have hP : va_P D vwCl [(x, .inr (10, [.ref w, .ref sp, .ref sv, .ref bu, .int 0, .int 0])), (w, .inr (9, [.int (nI i), .ref w_se, .ref w_cu, .ref w_pr, .int 0, .ref w_ch, .ref w_re, .ref w_lo]))] H := hP
      have hD : va_D A [(x, .inr (10, [.ref w, .ref sp, .ref sv, .ref bu, .int 0, .int 0])), (w, .inr (9, [.int (nI i), .ref w_se, .ref w_cu, .ref w_pr, .int 0, .ref w_ch, .ref w_re, .ref w_lo]))] := hD
      have hl : lv_has ls 6 [(0, .ref x), (1, .int (nI t)), (2, .int 0), (3, .int (nI i))] := hl
      refine lv_iload_n hx hb dX10_advance_29 rfl (lv_at hl 3 rfl) ?_
      refine lv_iload_n hx hb dX10_advance_30 rfl (lv_at hl 1 rfl) ?_
      refine lv_icmp_ge (tgt := 105) hx hb dX10_advance_31 (by decide) (fun hc => absurd hc (nI_ge hi (by omega))) (fun _ => ?_)
      refine lv_aload_n hx hb dX10_advance_34 rfl (lv_at hl 0 rfl) ?_
      refine va_get (v := .ref w) (D := D) (ci := 10) (C := RX10) (T := TX10) (N := 6) hx hb hts in_X10 hown hK hP 0 rfl rfl 0 (by decide) (hts _ kl_RX10_10) (fun _ h9 => h9) rfl dX10_advance_35 ?_
      refine lv_dup hx hb dX10_advance_38 rfl ?_
      refine va_getN (v := .int (nI i)) (D := D) (ci := 9) (C := RX9) (T := TX9) (N := 8) hx hb hts in_X9 hown hK hP 1 rfl rfl 0 (by decide) (hts _ kl_RX10_164) (fun _ h9 => h9) rfl dX10_advance_39 ?_
      refine lv_iconst (v := 1) hx hb dX10_advance_42 (by decide) ?_
      refine lv_iadd hx hb dX10_advance_43 ?_
      refine cm_cst (y := (nI (i + 1))) (nI_1 i) ?_
      refine va_putN (v := .int (nI (i + 1))) (ty := .int) (D := D) (ci := 9) (C := RX9) (T := TX9) (N := 8) hx hb hts in_X9 tyX9 tyX9_ok nmX9 hown hK hP hD hS 1 rfl rfl 0 (by decide) (hts _ kl_RX10_164) (fun _ h9 => h9) rfl (by decide +kernel) rfl rfl (Nat.le_of_ble_eq_true rfl) dX10_advance_44 (fun H locs hP hD hS => ?_)
      have hP : va_P D vwCl [(x, .inr (10, [.ref w, .ref sp, .ref sv, .ref bu, .int 0, .int 0])), (w, .inr (9, [.int (nI (i + 1)), .ref w_se, .ref w_cu, .ref w_pr, .int 0, .ref w_ch, .ref w_re, .ref w_lo]))] H := hP
      have hD : va_D A [(x, .inr (10, [.ref w, .ref sp, .ref sv, .ref bu, .int 0, .int 0])), (w, .inr (9, [.int (nI (i + 1)), .ref w_se, .ref w_cu, .ref w_pr, .int 0, .ref w_ch, .ref w_re, .ref w_lo]))] := hD
      refine lv_iconst (v := 0) hx hb dX10_advance_47 (by decide) ?_
      refine lv_istore (lv' := [(4, .int 0), (0, .ref x), (1, .int (nI t)), (2, .int 0), (3, .int (nI i))]) hx hb dX10_advance_48 hl (by decide) rfl (fun ls hl => ?_)
      refine lv_iload hx hb dX10_advance_50 (lv_at hl 0 rfl) ?_
      refine lv_aload_n hx hb dX10_advance_52 rfl (lv_at hl 1 rfl) ?_
      refine va_get (v := .ref w) (D := D) (ci := 10) (C := RX10) (T := TX10) (N := 6) hx hb hts in_X10 hown hK hP 0 rfl rfl 0 (by decide) (hts _ kl_RX10_10) (fun _ h9 => h9) rfl dX10_advance_53 ?_
      refine va_getN (v := .int 0) (D := D) (ci := 9) (C := RX9) (T := TX9) (N := 8) hx hb hts in_X9 hown hK hP 1 rfl rfl 4 (by decide) (hts _ kl_RX10_64) (fun _ h9 => h9) rfl dX10_advance_56 ?_
      refine lv_icmp_ge (tgt := 99) hx hb dX10_advance_59 (by decide) (fun _ => ?_) (fun hc => absurd (by decide) hc)
      refine lv_iinc (v := (nI (i + 1))) (lv' := [(3, .int (nI (i + 1))), (4, .int 0), (0, .ref x), (1, .int (nI t)), (2, .int 0)]) hx hb dX10_advance_99 hl (k := 4) rfl (nI_1 i) (by decide) rfl (fun ls hl => ?_)
      refine lv_goto (tgt := 29) hx hb dX10_advance_102 (by decide) ?_
      exact ih _ _ _ ⟨hP, hD, hS, (lv_sub hl [2, 3, 4, 0] rfl)⟩
    · obtain ⟨hP, hD, hS, hl⟩ := hI
      have hP : va_P D vwCl [(x, .inr (10, [.ref w, .ref sp, .ref sv, .ref bu, .int 0, .int 0])), (w, .inr (9, [.int (nI t), .ref w_se, .ref w_cu, .ref w_pr, .int 0, .ref w_ch, .ref w_re, .ref w_lo]))] H := hP
      have hD : va_D A [(x, .inr (10, [.ref w, .ref sp, .ref sv, .ref bu, .int 0, .int 0])), (w, .inr (9, [.int (nI t), .ref w_se, .ref w_cu, .ref w_pr, .int 0, .ref w_ch, .ref w_re, .ref w_lo]))] := hD
      have hl : lv_has ls 6 [(0, .ref x), (1, .int (nI t)), (2, .int 0), (3, .int (nI t))] := hl
      refine lv_iload_n hx hb dX10_advance_29 rfl (lv_at hl 3 rfl) ?_
      refine lv_iload_n hx hb dX10_advance_30 rfl (lv_at hl 1 rfl) ?_
      refine lv_icmp_ge (tgt := 105) hx hb dX10_advance_31 (by decide) (fun _ => ?_) (fun hc => absurd (nI_le (Nat.le_refl t) (by omega)) hc)
      refine lv_iload_n hx hb dX10_advance_105 rfl (lv_at hl 2 rfl) ?_
      have hP9 := hP.sub (ws' := [(x, .inr (10, [.ref w, .ref sp, .ref sv, .ref bu, .int 0, .int 0])), (w, .inr (9, [.int (nI t), .ref w_se, .ref w_cu, .ref w_pr, .int 0, .ref w_ch, .ref w_re, .ref w_lo]))]) [0, 1] rfl
      have hD9 := hD.sub (ws' := [(x, .inr (10, [.ref w, .ref sp, .ref sv, .ref bu, .int 0, .int 0])), (w, .inr (9, [.int (nI t), .ref w_se, .ref w_cu, .ref w_pr, .int 0, .ref w_ch, .ref w_re, .ref w_lo]))]) [0, 1] (by decide) rfl
      refine vx_ret ?_
      exact W.iret (v := 0) hx hb hr (fun t ht hW => ⟨⟨0, (), rfl, ⟨rfl, ⟨cm_tk1 ht1 ht2, cm_tk2 ht2⟩⟩, by rw [ht]; exact hP9, by rw [hAe]; exact hD9⟩, hS.F ht⟩) hS.2.2 dX10_advance_106
